/-! ===== the reference: lines ===== -/
def MCl (h : Hp) (C : Cls) : Prop := h 50 12 = nI C.length ∧ ∀ j, j < C.length → h 56 j = nI (C.getD j (0, 0)).1 ∧ h 57 j = nI (C.getD j (0, 0)).2
/-- the reader's state: the token at p, the calls, the line's parts -/
def MR (h : Hp) (tx : List Nat) (p : Nat) (C : Cls) (s l r c : Int32) : Prop := MTx h tx ∧ MTk h tx p ∧ MCl h C ∧ h 50 13 = s ∧ h 50 14 = l ∧ h 50 15 = r ∧ h 50 16 = c
def FR (h h' : Hp) : Prop := Fm [7, 8, 9, 12, 13, 14, 15, 16] [56, 57] h h'
theorem FR.trans {h h1 h2 : Hp} (k1 : FR h h1) (k2 : FR h1 h2) : FR h h2 := Fm.trans k1 k2
theorem MR.nx {h h' : Hp} {tx : List Nat} {p p' : Nat} {C : Cls} {s l r c : Int32} (k : MR h tx p C s l r c) (f : Fm [7, 8, 9] [] h h') (hx : MTx h' tx) (ht : MTk h' tx p') : MR h' tx p' C s l r c := by
  obtain ⟨k1, k2, k3, k4, k5, k6, k7⟩ := k
  refine ⟨hx, ht, ?_, ?_, ?_, ?_, ?_⟩
  · unfold MCl
    rw [f.2 12 (by decide), f.1 56 (by decide) (by decide), f.1 57 (by decide) (by decide)]
    exact k3
  · rw [f.2 13 (by decide)]; exact k4
  · rw [f.2 14 (by decide)]; exact k5
  · rw [f.2 15 (by decide)]; exact k6
  · rw [f.2 16 (by decide)]; exact k7
theorem MR.p13 {h : Hp} {tx : List Nat} {p : Nat} {C : Cls} {s l r c z : Int32} (k : MR h tx p C s l r c) : MR (hs h 50 (upd (h 50) 13 z)) tx p C z l r c := by
  obtain ⟨k1, k2, k3, k4, k5, k6, k7⟩ := k
  refine ⟨k1.put (by decide), ?_, ?_, ?_, ?_, ?_, ?_⟩
  · unfold MTk
    rw [f50_n (by decide), f50_n (by decide), f50_n (by decide)]
    exact k2
  · unfold MCl
    rw [f50_n (by decide), hs_ne (show 56 ≠ 50 by decide), hs_ne (show 57 ≠ 50 by decide)]
    exact k3
  · exact f50_s
  · rw [f50_n (by decide)]; exact k5
  · rw [f50_n (by decide)]; exact k6
  · rw [f50_n (by decide)]; exact k7
theorem MR.p14 {h : Hp} {tx : List Nat} {p : Nat} {C : Cls} {s l r c z : Int32} (k : MR h tx p C s l r c) : MR (hs h 50 (upd (h 50) 14 z)) tx p C s z r c := by
  obtain ⟨k1, k2, k3, k4, k5, k6, k7⟩ := k
  refine ⟨k1.put (by decide), ?_, ?_, ?_, ?_, ?_, ?_⟩
  · unfold MTk
    rw [f50_n (by decide), f50_n (by decide), f50_n (by decide)]
    exact k2
  · unfold MCl
    rw [f50_n (by decide), hs_ne (show 56 ≠ 50 by decide), hs_ne (show 57 ≠ 50 by decide)]
    exact k3
  · rw [f50_n (by decide)]; exact k4
  · exact f50_s
  · rw [f50_n (by decide)]; exact k6
  · rw [f50_n (by decide)]; exact k7
theorem MR.p15 {h : Hp} {tx : List Nat} {p : Nat} {C : Cls} {s l r c z : Int32} (k : MR h tx p C s l r c) : MR (hs h 50 (upd (h 50) 15 z)) tx p C s l z c := by
  obtain ⟨k1, k2, k3, k4, k5, k6, k7⟩ := k
  refine ⟨k1.put (by decide), ?_, ?_, ?_, ?_, ?_, ?_⟩
  · unfold MTk
    rw [f50_n (by decide), f50_n (by decide), f50_n (by decide)]
    exact k2
  · unfold MCl
    rw [f50_n (by decide), hs_ne (show 56 ≠ 50 by decide), hs_ne (show 57 ≠ 50 by decide)]
    exact k3
  · rw [f50_n (by decide)]; exact k4
  · rw [f50_n (by decide)]; exact k5
  · exact f50_s
  · rw [f50_n (by decide)]; exact k7
theorem MR.p16 {h : Hp} {tx : List Nat} {p : Nat} {C : Cls} {s l r c z : Int32} (k : MR h tx p C s l r c) : MR (hs h 50 (upd (h 50) 16 z)) tx p C s l r z := by
  obtain ⟨k1, k2, k3, k4, k5, k6, k7⟩ := k
  refine ⟨k1.put (by decide), ?_, ?_, ?_, ?_, ?_, ?_⟩
  · unfold MTk
    rw [f50_n (by decide), f50_n (by decide), f50_n (by decide)]
    exact k2
  · unfold MCl
    rw [f50_n (by decide), hs_ne (show 56 ≠ 50 by decide), hs_ne (show 57 ≠ 50 by decide)]
    exact k3
  · rw [f50_n (by decide)]; exact k4
  · rw [f50_n (by decide)]; exact k5
  · rw [f50_n (by decide)]; exact k6
  · exact f50_s
theorem getD_sn2 {C : Cls} {z : Nat × Nat} {j : Nat} : (C ++ [z]).getD j (0, 0) = if j < C.length then C.getD j (0, 0) else if j = C.length then z else (0, 0) := by
  rw [List.getD_eq_getElem?_getD, List.getD_eq_getElem?_getD, List.getElem?_append]
  by_cases h : j < C.length
  · rw [if_pos h, if_pos h]
  · rw [if_neg h, if_neg h]
    by_cases e : j = C.length
    · rw [if_pos e, e, Nat.sub_self]; rfl
    · rw [if_neg e, List.getElem?_eq_none (by simp; omega)]; rfl
theorem mr_call {h h1 h2 : Hp} {tx : List Nat} {p q k : Nat} {C : Cls} {s l r c : Int32} (hR : MR h tx p C s l r c) (e1 : h1 = hs h 56 (upd (h 56) C.length (nI k))) (e2 : h2 = hs h1 57 (upd (h1 57) C.length (nI q))) : MR (hs h2 50 (upd (h2 50) 12 (nI (C.length + 1)))) tx p (C ++ [(k, q)]) s l r c ∧ FR h (hs h2 50 (upd (h2 50) 12 (nI (C.length + 1)))) := by
  obtain ⟨k1, k2, k3, k4, k5, k6, k7⟩ := hR
  have a50 : h2 50 = h 50 := by rw [e2, e1, hs_ne (by decide), hs_ne (by decide)]
  have a56 : h2 56 = upd (h 56) C.length (nI k) := by rw [e2, e1, hs_ne (by decide), hs_same]
  have a57 : h2 57 = upd (h 57) C.length (nI q) := by rw [e2, e1, hs_same, hs_ne (by decide)]
  have a55 : h2 55 = h 55 := by rw [e2, e1, hs_ne (by decide), hs_ne (by decide)]
  refine ⟨⟨?_, ?_, ?_, ?_, ?_, ?_, ?_⟩, ?_⟩
  · unfold MTx
    rw [f50_n (by decide), hs_ne (show 55 ≠ 50 by decide), a50, a55]
    exact k1
  · unfold MTk
    rw [f50_n (by decide), f50_n (by decide), f50_n (by decide), a50]
    exact k2
  · refine ⟨?_, fun j hj => ?_⟩
    · rw [f50_s]; simp
    · rw [hs_ne (show 56 ≠ 50 by decide), hs_ne (show 57 ≠ 50 by decide), a56, a57, getD_sn2]
      by_cases e : j = C.length
      · subst e
        rw [upd_s, upd_s, if_neg (by omega), if_pos rfl]
        exact ⟨rfl, rfl⟩
      · have hj' : j < C.length := by simp at hj; omega
        rw [upd_n e, upd_n e, if_pos hj']
        exact k3.2 j hj'
  · rw [f50_n (by decide), a50]; exact k4
  · rw [f50_n (by decide), a50]; exact k5
  · rw [f50_n (by decide), a50]; exact k6
  · rw [f50_n (by decide), a50]; exact k7
  · unfold FR
    rw [e2, e1]
    exact ((Fm.rf.set (by decide) (by decide)).set (by decide) (by decide)).put (by decide)
theorem c_nx {a : Am} {S : St} {h : Hp} (hS : IsSt S) {tx : List Nat} (hv : TV tx) {p : Nat} {C : Cls} {s l r c : Int32} (hR0 : MR h tx p C s l r c) : CT a 2 mX10_next [rv a 50] S h (fun v S' h' => v = none ∧ S = S' ∧ MR h' tx (Nx tx p) C s l r c ∧ FR h h') :=
  (c_mnext hS hR0.1 hv hR0.2.1.2.2.1 (aft_le hR0.2.1.2.2.2)).weaken (fun v S' h' k => ⟨k.1, k.2.1, hR0.nx k.2.2.2.2 k.2.2.2.1 k.2.2.1, k.2.2.2.2.mono (by decide) (by decide)⟩)
def eq1 (k w : Nat) : Nat := if k = w then 1 else 0
theorem eq1_z {k w : Nat} (h : eq1 k w = 0) : ¬ k = w := by
  intro q
  rw [eq1, if_pos q] at h
  cases h
theorem eq1_y {k w : Nat} (h : ¬ eq1 k w = 0) : k = w := by
  by_cases q : k = w
  · exact q
  · rw [eq1, if_neg q] at h
    exact absurd rfl h
theorem eq1_le {k w : Nat} : eq1 k w ≤ 1 := by
  unfold eq1
  split <;> omega
theorem nmI_f {k : Nat} (h : ¬ nmI k = -1) : nm k < 4 := by
  by_cases q : nm k < 4
  · exact q
  · exact absurd (nmI_n q) h
theorem nm_dig {k : Nat} (h1 : 48 ≤ k) (h2 : k ≤ 51) : nm k = 4 := by
  unfold nm
  rw [if_neg (by omega), if_neg (by omega), if_neg (by omega), if_neg (by omega)]
theorem mkd_out : ∀ k, k ≤ 131 → ¬ (48 ≤ k ∧ k ≤ 51) → mkd k < 48 ∨ 51 < mkd k := by decide +kernel
set_option maxHeartbeats 4000000 in
set_option maxRecDepth 100000 in
theorem c_isNx {a : Am} {S : St} {h : Hp} (hS : IsSt S) {tx : List Nat} (hv : TV tx) {p : Nat} {C : Cls} {s l r c : Int32} (hR0 : MR h tx p C s l r c) {w : Nat} (hw : w < 128) : CT a 3 mX10_isNext [rv a 50, .int (nI w)] S h (fun v S' h' => v = some (.int (nI (eq1 (kd tx (Nx tx p)) w))) ∧ S = S' ∧ MR h' tx (Nx tx p) C s l r c ∧ FR h h') := by
  have hmk := mkd_lt (k := kd tx (Nx tx p))
  refine met_of (by decide +kernel) (Nat.le_of_ble_eq_true rfl) ?_
  show T a 3 mX10_isNext 0 [(0, rv a 50), (1, .int (nI w))] [] S h _
  refine tr_aload_n (pc := 0) 0 dX10_isNext_0 rfl rfl ?_
  refine tr_callV (pc := 1) (rest := []) (ci := 10) dX10_isNext_1 ml_X10_117 cv_X10_next rfl rfl (Nat.le_of_ble_eq_true rfl) (hS.1 50 (13, 45) rfl) rfl (by decide) (c_nx hS hv hR0) ?_
  rintro _ _ h1 ⟨rfl, rfl, hR1, hF1⟩
  show T a 3 mX10_isNext 4 [(0, rv a 50), (1, .int (nI w))] [] S h1 _
  refine tr_aload_n (pc := 4) 0 dX10_isNext_4 rfl rfl ?_
  refine tr_getI (pc := 5) (x := nI (mkd (kd tx (Nx tx p)))) dX10_isNext_5 (hS.1 50 (13, 45) rfl) fi_X10_106 rfl hR1.2.1.1 ?_
  refine tr_iload_n (pc := 8) 1 dX10_isNext_8 rfl rfl ?_
  refine tr_icmp_ne (pc := 9) (tgt := 16) dX10_isNext_9 (by decide) (nI_eq (by omega) (by omega)) (fun hb9 => ?_) (fun hb9 => ?_)
  · skip
    refine tr_iconst (pc := 16) (v := nI 0) dX10_isNext_16 (by decide) ?_
    exact tr_iret (pc := 17) dX10_isNext_17 rfl (by decide) (⟨by rw [eq1, if_neg (fun z => hb9 ((mkd_b hw).2 z))], rfl, hR1, hF1⟩)
  · skip
    refine tr_iconst (pc := 12) (v := nI 1) dX10_isNext_12 (by decide) ?_
    refine tr_goto (pc := 13) (tgt := 17) dX10_isNext_13 (by decide) ?_
    exact tr_iret (pc := 17) dX10_isNext_17 rfl (by decide) (⟨by rw [eq1, if_pos ((mkd_b hw).1 hb9)], rfl, hR1, hF1⟩)

set_option maxHeartbeats 4000000 in
set_option maxRecDepth 100000 in
theorem c_nxName {a : Am} {S : St} {h : Hp} (hS : IsSt S) {tx : List Nat} (hv : TV tx) {p : Nat} {C : Cls} {s l r c : Int32} (hR0 : MR h tx p C s l r c) : CT a 3 mX10_nextName [rv a 50] S h (fun v S' h' => v = some (.int (nmI (kd tx (Nx tx p)))) ∧ S = S' ∧ MR h' tx (Nx tx p) C s l r c ∧ FR h h') := by
  refine met_of (by decide +kernel) (Nat.le_of_ble_eq_true rfl) ?_
  show T a 3 mX10_nextName 0 [(0, rv a 50)] [] S h _
  refine tr_aload_n (pc := 0) 0 dX10_nextName_0 rfl rfl ?_
  refine tr_callV (pc := 1) (rest := []) (ci := 10) dX10_nextName_1 ml_X10_117 cv_X10_next rfl rfl (Nat.le_of_ble_eq_true rfl) (hS.1 50 (13, 45) rfl) rfl (by decide) (c_nx hS hv hR0) ?_
  rintro _ _ h1 ⟨rfl, rfl, hR1, hF1⟩
  show T a 3 mX10_nextName 4 [(0, rv a 50)] [] S h1 _
  refine tr_aload_n (pc := 4) 0 dX10_nextName_4 rfl rfl ?_
  refine tr_getI (pc := 5) (x := nI (mkd (kd tx (Nx tx p)))) dX10_nextName_5 (hS.1 50 (13, 45) rfl) fi_X10_106 rfl hR1.2.1.1 ?_
  refine tr_callS (pc := 8) (rest := []) dX10_nextName_8 ml_X10_120 cs_X10_nameOf rfl rfl (Nat.le_of_ble_eq_true rfl) (by decide) (c_mnameOf (kd_le hv)) ?_
  rintro _ _ _ ⟨rfl, rfl, rfl⟩
  show T a 3 mX10_nextName 11 [(0, rv a 50)] [.int (nmI (kd tx (Nx tx p)))] S h1 _
  exact tr_iret (pc := 11) dX10_nextName_11 rfl rfl (⟨rfl, rfl, hR1, hF1⟩)

def rrO (tx : List Nat) (m x q : Nat) (C : Cls) (l : Int32) (b : Nat) (h' : Hp) : Prop := match rVal tx m x q with
  | .error e => b = 0 ∧ h' 50 9 = nI e
  | .ok z => b = 1 ∧ ∃ r', MR h' tx z.2 (if z.1.1 = 7 then C ++ [(z.1.2.2.2, q)] else C) (nI z.1.1) l r' (cmp z.1 3) ∧ (z.1.1 ≠ 0 → z.1.1 ≠ 5 → r' = cmp z.1 2)
theorem rr_e {tx : List Nat} {m x q e : Nat} {C : Cls} {l : Int32} {h' : Hp} (hr : rVal tx m x q = .error e) (h9 : h' 50 9 = nI e) : rrO tx m x q C l 0 h' := by
  unfold rrO
  rw [hr]
  exact ⟨rfl, h9⟩
theorem rr_o {tx : List Nat} {m x q e : Nat} {C C' : Cls} {l r' : Int32} {h' : Hp} {z : Ln} (hr : rVal tx m x q = .ok (z, e)) (hC : C' = if z.1 = 7 then C ++ [(z.2.2.2, q)] else C) (hM : MR h' tx e C' (nI z.1) l r' (cmp z 3)) (h2 : z.1 ≠ 0 → z.1 ≠ 5 → r' = cmp z 2) : rrO tx m x q C l 1 h' := by
  unfold rrO
  rw [hr]
  exact ⟨rfl, r', by rw [← hC]; exact hM, h2⟩
set_option maxHeartbeats 4000000 in
set_option maxRecDepth 100000 in
theorem c_mreadRight {a : Am} {S : St} {h : Hp} (hS : IsSt S) {tx : List Nat} (hv : TV tx) {p : Nat} {C : Cls} {s l r c : Int32} (hR0 : MR h tx p C s l r (-1)) {m x q : Nat} (hq : q = Nx tx p) (hC32 : C.length < 32) (hm : m < 4) : CT a 4 mX10_readRight [rv a 50, .int (nI m)] S h (fun v S' h' => ∃ b, v = some (.int (nI b)) ∧ b ≤ 1 ∧ S = S' ∧ FR h h' ∧ rrO tx m x q C l b h') := by
  have hF0 : FR h h := Fm.rf
  have hmk := mkd_lt (k := kd tx q)
  refine met_of (by decide +kernel) (Nat.le_of_ble_eq_true rfl) ?_
  show T a 4 mX10_readRight 0 [(0, rv a 50), (1, .int (nI m))] [] S h _
  refine tr_aload_n (pc := 0) 0 dX10_readRight_0 rfl rfl ?_
  refine tr_callV (pc := 1) (rest := []) (ci := 10) dX10_readRight_1 ml_X10_117 cv_X10_next rfl rfl (Nat.le_of_ble_eq_true rfl) (hS.1 50 (13, 45) rfl) rfl (by decide) (c_nx hS hv hR0) ?_
  rintro _ _ h1 ⟨rfl, rfl, hR1, hG1⟩
  have hF1 : FR h h1 := hF0.trans hG1
  rw [← hq] at hR1
  show T a 4 mX10_readRight 4 [(0, rv a 50), (1, .int (nI m))] [] S h1 _
  refine tr_aload_n (pc := 4) 0 dX10_readRight_4 rfl rfl ?_
  refine tr_aload_n (pc := 5) 0 dX10_readRight_5 rfl rfl ?_
  refine tr_getI (pc := 6) (x := nI (mkd (kd tx q))) dX10_readRight_6 (hS.1 50 (13, 45) rfl) fi_X10_106 rfl hR1.2.1.1 ?_
  refine tr_callS (pc := 9) (rest := [rv a 50]) dX10_readRight_9 ml_X10_120 cs_X10_nameOf rfl rfl (Nat.le_of_ble_eq_true rfl) (by decide) (c_mnameOf (kd_le hv)) ?_
  rintro _ _ _ ⟨rfl, rfl, rfl⟩
  show T a 4 mX10_readRight 12 [(0, rv a 50), (1, .int (nI m))] [.int (nmI (kd tx q)), rv a 50] S h1 _
  refine tr_putI (pc := 12) (x := nmI (kd tx q)) dX10_readRight_12 (hS.1 50 (13, 45) rfl) fi_X10_124 rfl rfl rfl ?_
  have hR2 := hR1.p15 (z := nmI (kd tx q))
  have hF2 : FR h (hs h1 50 (upd (h1 50) 15 (nmI (kd tx q)))) := Fm.put hF1 (by decide)
  generalize hs h1 50 (upd (h1 50) 15 (nmI (kd tx q))) = h2 at hR2 hF2 ⊢
  refine tr_aload_n (pc := 15) 0 dX10_readRight_15 rfl rfl ?_
  refine tr_getI (pc := 16) (x := nI (mkd (kd tx q))) dX10_readRight_16 (hS.1 50 (13, 45) rfl) fi_X10_106 rfl hR2.2.1.1 ?_
  refine tr_sipush (pc := 19) (v := nI 1001) dX10_readRight_19 (by decide) ?_
  refine tr_icmp_eq (pc := 22) (tgt := 34) dX10_readRight_22 (by decide) (nI_eq (by omega) (by omega)) (fun hb22 => ?_) (fun hb22 => ?_)
  · skip
    have hk : kd tx q = 128 := (mkd_w _ (kd_le hv)).1.1 hb22
    refine tr_aload_n (pc := 34) 0 dX10_readRight_34 rfl rfl ?_
    refine tr_aload_n (pc := 35) 0 dX10_readRight_35 rfl rfl ?_
    refine tr_getI (pc := 36) (x := nI (mkd (kd tx q))) dX10_readRight_36 (hS.1 50 (13, 45) rfl) fi_X10_106 rfl hR2.2.1.1 ?_
    refine tr_sipush (pc := 39) (v := nI 1001) dX10_readRight_39 (by decide) ?_
    refine tr_icmp_ne (pc := 42) (tgt := 49) dX10_readRight_42 (by decide) (nI_eq (by omega) (by omega)) (fun hcc => absurd (hb22) hcc) (fun _ => ?_)
    refine tr_iconst (pc := 45) (v := nI 0) dX10_readRight_45 (by decide) ?_
    refine tr_goto (pc := 46) (tgt := 50) dX10_readRight_46 (by decide) ?_
    refine tr_putI (pc := 50) (x := nI 0) dX10_readRight_50 (hS.1 50 (13, 45) rfl) fi_X10_127 rfl rfl rfl ?_
    have hR3 := hR2.p13 (z := nI 0)
    have hF3 : FR h (hs h2 50 (upd (h2 50) 13 (nI 0))) := Fm.put hF2 (by decide)
    generalize hs h2 50 (upd (h2 50) 13 (nI 0)) = h3 at hR3 hF3 ⊢
    refine tr_aload_n (pc := 53) 0 dX10_readRight_53 rfl rfl ?_
    refine tr_callV (pc := 54) (rest := []) (ci := 10) dX10_readRight_54 ml_X10_117 cv_X10_next rfl rfl (Nat.le_of_ble_eq_true rfl) (hS.1 50 (13, 45) rfl) rfl (by decide) (c_nx hS hv hR3) ?_
    rintro _ _ h4 ⟨rfl, rfl, hR4, hG4⟩
    have hF4 : FR h h4 := hF3.trans hG4
    show T a 4 mX10_readRight 57 [(0, rv a 50), (1, .int (nI m))] [] S h4 _
    refine tr_iconst (pc := 57) (v := nI 1) dX10_readRight_57 (by decide) ?_
    exact tr_iret (pc := 58) dX10_readRight_58 rfl (by decide) (⟨1, rfl, by decide, rfl, hF4, rr_o (z := (0, x, 0, 0)) (show rVal tx m x q = .ok ((0, x, 0, 0), Nx tx q) by
        unfold rVal
        repeat (first | rw [if_pos (by omega)] | rw [if_neg (by omega)])) rfl hR4 (fun z _ => absurd rfl z)⟩)
  · skip
    have hk8 : ¬ kd tx q = 128 := fun z => hb22 ((mkd_w _ (kd_le hv)).1.2 z)
    refine tr_aload_n (pc := 25) 0 dX10_readRight_25 rfl rfl ?_
    refine tr_getI (pc := 26) (x := nI (mkd (kd tx q))) dX10_readRight_26 (hS.1 50 (13, 45) rfl) fi_X10_106 rfl hR2.2.1.1 ?_
    refine tr_bipush (pc := 29) (v := nI 71) dX10_readRight_29 (by decide) ?_
    refine tr_icmp_ne (pc := 31) (tgt := 59) dX10_readRight_31 (by decide) (nI_eq (by omega) (by omega)) (fun hb31 => ?_) (fun hb31 => ?_)
    · skip
      have hk7 : ¬ kd tx q = 71 := fun z => hb31 ((mkd_b (by decide)).2 z)
      by_cases hd : 48 ≤ kd tx q ∧ kd tx q ≤ 51
      · skip
        refine tr_aload_n (pc := 59) 0 dX10_readRight_59 rfl rfl ?_
        have hms : mkd (kd tx q) = kd tx q := mkd_s (by omega)
        have hnd := nm_dig hd.1 hd.2
        refine tr_getI (pc := 60) (x := nI (kd tx q)) dX10_readRight_60 (hS.1 50 (13, 45) rfl) fi_X10_106 rfl (hR2.2.1.1.trans (by rw [hms])) ?_
        refine tr_bipush (pc := 63) (v := nI 48) dX10_readRight_63 (by decide) ?_
        refine tr_bipush (pc := 65) (v := nI 51) dX10_readRight_65 (by decide) ?_
        refine tr_callS (pc := 67) (rest := []) dX10_readRight_67 ml_X10_99 cs_X10_in rfl rfl (Nat.le_of_ble_eq_true rfl) (by decide) (c_min_in (fun z => by have := (nI_ltI (by omega) (by omega)).1 z; omega) (fun z => by have := (nI_ltI (by omega) (by omega)).1 z; omega)) ?_
        rintro _ _ _ ⟨rfl, rfl, rfl⟩
        show T a 4 mX10_readRight 70 [(0, rv a 50), (1, .int (nI m))] [.int (nI 1)] S h2 _
        refine tr_if_eq (pc := 70) (tgt := 180) dX10_readRight_70 (by decide) (nI_z_eq (by omega)) (fun hcc => absurd hcc (by decide)) (fun _ => ?_)
        refine tr_aload_n (pc := 73) 0 dX10_readRight_73 rfl rfl ?_
        refine tr_bipush (pc := 74) (v := nI 7) dX10_readRight_74 (by decide) ?_
        refine tr_putI (pc := 76) (x := nI 7) dX10_readRight_76 (hS.1 50 (13, 45) rfl) fi_X10_127 rfl rfl rfl ?_
        have hR3 := hR2.p13 (z := nI 7)
        have hF3 : FR h (hs h2 50 (upd (h2 50) 13 (nI 7))) := Fm.put hF2 (by decide)
        generalize hs h2 50 (upd (h2 50) 13 (nI 7)) = h3 at hR3 hF3 ⊢
        refine tr_aload_n (pc := 79) 0 dX10_readRight_79 rfl rfl ?_
        refine tr_aload_n (pc := 80) 0 dX10_readRight_80 rfl rfl ?_
        refine tr_getI (pc := 81) (x := nI (kd tx q)) dX10_readRight_81 (hS.1 50 (13, 45) rfl) fi_X10_106 rfl (hR3.2.1.1.trans (by rw [hms])) ?_
        refine tr_bipush (pc := 84) (v := nI 48) dX10_readRight_84 (by decide) ?_
        refine tr_isub (pc := 86) (v := nI ((kd tx q) - 48)) dX10_readRight_86 (pk_sub (by omega)) ?_
        refine tr_putI (pc := 87) (x := nI ((kd tx q) - 48)) dX10_readRight_87 (hS.1 50 (13, 45) rfl) fi_X10_130 rfl rfl rfl ?_
        have hR4 := hR3.p16 (z := nI (kd tx q - 48))
        have hF4 : FR h (hs h3 50 (upd (h3 50) 16 (nI (kd tx q - 48)))) := Fm.put hF3 (by decide)
        generalize hs h3 50 (upd (h3 50) 16 (nI (kd tx q - 48))) = h4 at hR4 hF4 ⊢
        refine tr_aload_n (pc := 90) 0 dX10_readRight_90 rfl rfl ?_
        refine tr_getI (pc := 91) (x := nI (kd tx q - 48)) dX10_readRight_91 (hS.1 50 (13, 45) rfl) fi_X10_130 rfl hR4.2.2.2.2.2.2 ?_
        refine tr_iload_n (pc := 94) 1 dX10_readRight_94 rfl rfl ?_
        refine tr_icmp_gt (pc := 95) (tgt := 100) dX10_readRight_95 (by decide) (nI_ltI (by omega) (by omega)) (fun hb95 => ?_) (fun hb95 => ?_)
        · skip
          refine tr_aload_n (pc := 100) 0 dX10_readRight_100 rfl rfl ?_
          refine tr_getR (pc := 101) (q := 56) dX10_readRight_101 (hS.1 50 (13, 45) rfl) fi_X10_25 rfl (hS.2 50 10 56 rfl) ?_
          refine tr_aload_n (pc := 104) 0 dX10_readRight_104 rfl rfl ?_
          refine tr_getI (pc := 105) (x := nI C.length) dX10_readRight_105 (hS.1 50 (13, 45) rfl) fi_X10_133 rfl hR4.2.2.1.1 ?_
          refine tr_aload_n (pc := 108) 0 dX10_readRight_108 rfl rfl ?_
          refine tr_getI (pc := 109) (x := nI (kd tx q - 48)) dX10_readRight_109 (hS.1 50 (13, 45) rfl) fi_X10_130 rfl hR4.2.2.2.2.2.2 ?_
          refine tr_iast (pc := 112) C.length dX10_readRight_112 (hS.1 56 (0, 32) rfl) rfl hC32 (by decide) ?_
          refine tr_aload_n (pc := 113) 0 dX10_readRight_113 rfl rfl ?_
          refine tr_getR (pc := 114) (q := 57) dX10_readRight_114 (hS.1 50 (13, 45) rfl) fi_X10_28 rfl (hS.2 50 11 57 rfl) ?_
          refine tr_aload_n (pc := 117) 0 dX10_readRight_117 rfl rfl ?_
          refine tr_getI (pc := 118) (x := nI C.length) dX10_readRight_118 (hS.1 50 (13, 45) rfl) fi_X10_133 rfl hR4.2.2.1.1 ?_
          refine tr_aload_n (pc := 121) 0 dX10_readRight_121 rfl rfl ?_
          refine tr_getI (pc := 122) (x := nI q) dX10_readRight_122 (hS.1 50 (13, 45) rfl) fi_X10_103 rfl hR4.2.1.2.1 ?_
          refine tr_iast (pc := 125) C.length dX10_readRight_125 (hS.1 57 (0, 32) rfl) rfl hC32 (by decide) ?_
          refine tr_aload_n (pc := 126) 0 dX10_readRight_126 rfl rfl ?_
          refine tr_dup (pc := 127) dX10_readRight_127 rfl ?_
          refine tr_getI (pc := 128) (x := nI C.length) dX10_readRight_128 (hS.1 50 (13, 45) rfl) fi_X10_133 rfl hR4.2.2.1.1 ?_
          refine tr_iconst (pc := 131) (v := nI 1) dX10_readRight_131 (by decide) ?_
          refine tr_iadd (pc := 132) (v := nI (C.length + 1)) dX10_readRight_132 (nI_add _ _) ?_
          refine tr_putI (pc := 133) (x := nI (C.length + 1)) dX10_readRight_133 (hS.1 50 (13, 45) rfl) fi_X10_133 rfl rfl rfl ?_
          have hK5 := mr_call (k := kd tx q - 48) (q := q) hR4 rfl rfl
          have hK5 : MR (hs (hs (hs h4 56 (upd (h4 56) C.length (nI (kd tx q - 48)))) 57 (upd ((hs h4 56 (upd (h4 56) C.length (nI (kd tx q - 48)))) 57) C.length (nI q))) 50 (upd ((hs (hs h4 56 (upd (h4 56) C.length (nI (kd tx q - 48)))) 57 (upd ((hs h4 56 (upd (h4 56) C.length (nI (kd tx q - 48)))) 57) C.length (nI q))) 50) 12 (nI (C.length + 1)))) tx q (C ++ [(kd tx q - 48, q)]) _ _ _ _ ∧ FR h4 (hs (hs (hs h4 56 (upd (h4 56) C.length (nI (kd tx q - 48)))) 57 (upd ((hs h4 56 (upd (h4 56) C.length (nI (kd tx q - 48)))) 57) C.length (nI q))) 50 (upd ((hs (hs h4 56 (upd (h4 56) C.length (nI (kd tx q - 48)))) 57 (upd ((hs h4 56 (upd (h4 56) C.length (nI (kd tx q - 48)))) 57) C.length (nI q))) 50) 12 (nI (C.length + 1)))) := hK5
          generalize hs (hs (hs h4 56 (upd (h4 56) C.length (nI (kd tx q - 48)))) 57 (upd ((hs h4 56 (upd (h4 56) C.length (nI (kd tx q - 48)))) 57) C.length (nI q))) 50 (upd ((hs (hs h4 56 (upd (h4 56) C.length (nI (kd tx q - 48)))) 57 (upd ((hs h4 56 (upd (h4 56) C.length (nI (kd tx q - 48)))) 57) C.length (nI q))) 50) 12 (nI (C.length + 1))) = h5 at hK5 ⊢
          have hR5 := hK5.1
          have hF5 : FR h h5 := hF4.trans hK5.2
          refine tr_aload_n (pc := 136) 0 dX10_readRight_136 rfl rfl ?_
          refine tr_bipush (pc := 137) (v := nI 40) dX10_readRight_137 (by decide) ?_
          have hq6 := eq1_le (k := kd tx (Nx tx q)) (w := 40)
          refine tr_callV (pc := 139) (rest := []) (ci := 10) dX10_readRight_139 ml_X10_136 cv_X10_isNext rfl rfl (Nat.le_of_ble_eq_true rfl) (hS.1 50 (13, 45) rfl) rfl (by decide) (c_isNx hS hv hR5 (w := 40) (by decide)) ?_
          rintro _ _ h6 ⟨rfl, rfl, hR6, hG6⟩
          have hF6 : FR h h6 := hF5.trans hG6
          show T a 4 mX10_readRight 142 [(0, rv a 50), (1, .int (nI m))] [.int (nI (eq1 (kd tx (Nx tx q)) 40))] S h6 _
          refine tr_if_ne (pc := 142) (tgt := 147) dX10_readRight_142 (by decide) (nI_z_eq (by omega)) (fun hb142 => ?_) (fun hb142 => ?_)
          · skip
            have h40 : kd tx (Nx tx q) = 40 := eq1_y hb142
            refine tr_aload_n (pc := 147) 0 dX10_readRight_147 rfl rfl ?_
            refine tr_aload_n (pc := 148) 0 dX10_readRight_148 rfl rfl ?_
            refine tr_callV (pc := 149) (rest := [rv a 50]) (ci := 10) dX10_readRight_149 ml_X10_140 cv_X10_nextName rfl rfl (Nat.le_of_ble_eq_true rfl) (hS.1 50 (13, 45) rfl) rfl (by decide) (c_nxName hS hv hR6) ?_
            rintro _ _ h7 ⟨rfl, rfl, hR7, hG7⟩
            have hF7 : FR h h7 := hF6.trans hG7
            show T a 4 mX10_readRight 152 [(0, rv a 50), (1, .int (nI m))] [.int (nmI (kd tx (Nx tx (Nx tx q)))), rv a 50] S h7 _
            refine tr_putI (pc := 152) (x := nmI (kd tx (Nx tx (Nx tx q)))) dX10_readRight_152 (hS.1 50 (13, 45) rfl) fi_X10_124 rfl rfl rfl ?_
            have hR8 := hR7.p15 (z := nmI (kd tx (Nx tx (Nx tx q))))
            have hF8 : FR h (hs h7 50 (upd (h7 50) 15 (nmI (kd tx (Nx tx (Nx tx q)))))) := Fm.put hF7 (by decide)
            generalize hs h7 50 (upd (h7 50) 15 (nmI (kd tx (Nx tx (Nx tx q))))) = h8 at hR8 hF8 ⊢
            refine tr_aload_n (pc := 155) 0 dX10_readRight_155 rfl rfl ?_
            refine tr_getI (pc := 156) (x := nmI (kd tx (Nx tx (Nx tx q)))) dX10_readRight_156 (hS.1 50 (13, 45) rfl) fi_X10_124 rfl hR8.2.2.2.2.2.1 ?_
            refine tr_iconst (pc := 159) (v := -1) dX10_readRight_159 (by decide) ?_
            refine tr_icmp_eq (pc := 160) (tgt := 172) dX10_readRight_160 (by decide) Iff.rfl (fun hb160 => ?_) (fun hb160 => ?_)
            · skip
              have hn2 : ¬ nm (kd tx (Nx tx (Nx tx q))) < 4 := nmI_iff.1 hb160
              refine tr_iconst (pc := 172) (v := nI 0) dX10_readRight_172 (by decide) ?_
              exact tr_iret (pc := 173) dX10_readRight_173 rfl (by decide) (⟨0, rfl, by decide, rfl, hF8, rr_e (show rVal tx m x q = .error (Nx tx (Nx tx q)) by
                  unfold rVal
                  repeat (first | rw [if_pos (by omega)] | rw [if_neg (by omega)])) hR8.2.1.2.1⟩)
            · skip
              have hn2 : nm (kd tx (Nx tx (Nx tx q))) < 4 := nmI_f hb160
              refine tr_aload_n (pc := 163) 0 dX10_readRight_163 rfl rfl ?_
              refine tr_bipush (pc := 164) (v := nI 41) dX10_readRight_164 (by decide) ?_
              have hq9 := eq1_le (k := kd tx (Nx tx (Nx tx (Nx tx q)))) (w := 41)
              refine tr_callV (pc := 166) (rest := []) (ci := 10) dX10_readRight_166 ml_X10_136 cv_X10_isNext rfl rfl (Nat.le_of_ble_eq_true rfl) (hS.1 50 (13, 45) rfl) rfl (by decide) (c_isNx hS hv hR8 (w := 41) (by decide)) ?_
              rintro _ _ h9 ⟨rfl, rfl, hR9, hG9⟩
              have hF9 : FR h h9 := hF8.trans hG9
              show T a 4 mX10_readRight 169 [(0, rv a 50), (1, .int (nI m))] [.int (nI (eq1 (kd tx (Nx tx (Nx tx (Nx tx q)))) 41))] S h9 _
              refine tr_if_ne (pc := 169) (tgt := 174) dX10_readRight_169 (by decide) (nI_z_eq (by omega)) (fun hb169 => ?_) (fun hb169 => ?_)
              · skip
                have h41 : kd tx (Nx tx (Nx tx (Nx tx q))) = 41 := eq1_y hb169
                refine tr_aload_n (pc := 174) 0 dX10_readRight_174 rfl rfl ?_
                refine tr_callV (pc := 175) (rest := []) (ci := 10) dX10_readRight_175 ml_X10_117 cv_X10_next rfl rfl (Nat.le_of_ble_eq_true rfl) (hS.1 50 (13, 45) rfl) rfl (by decide) (c_nx hS hv hR9) ?_
                rintro _ _ h10 ⟨rfl, rfl, hR10, hG10⟩
                have hF10 : FR h h10 := hF9.trans hG10
                show T a 4 mX10_readRight 178 [(0, rv a 50), (1, .int (nI m))] [] S h10 _
                refine tr_iconst (pc := 178) (v := nI 1) dX10_readRight_178 (by decide) ?_
                exact tr_iret (pc := 179) dX10_readRight_179 rfl (by decide) (⟨1, rfl, by decide, rfl, hF10, rr_o (z := (7, x, nm (kd tx (Nx tx (Nx tx q))), kd tx q - 48)) (show rVal tx m x q = .ok ((7, x, nm (kd tx (Nx tx (Nx tx q))), kd tx q - 48), Nx tx (Nx tx (Nx tx (Nx tx q)))) by
                    unfold rVal
                    repeat (first | rw [if_pos (by omega)] | rw [if_neg (by omega)])) rfl hR10 (fun _ _ => nmI_y hn2)⟩)
              · skip
                have h41 : ¬ kd tx (Nx tx (Nx tx (Nx tx q))) = 41 := eq1_z hb169
                refine tr_iconst (pc := 172) (v := nI 0) dX10_readRight_172 (by decide) ?_
                exact tr_iret (pc := 173) dX10_readRight_173 rfl (by decide) (⟨0, rfl, by decide, rfl, hF9, rr_e (show rVal tx m x q = .error (Nx tx (Nx tx (Nx tx q))) by
                    unfold rVal
                    repeat (first | rw [if_pos (by omega)] | rw [if_neg (by omega)])) hR9.2.1.2.1⟩)
          · skip
            have h40 : ¬ kd tx (Nx tx q) = 40 := eq1_z hb142
            refine tr_iconst (pc := 145) (v := nI 0) dX10_readRight_145 (by decide) ?_
            exact tr_iret (pc := 146) dX10_readRight_146 rfl (by decide) (⟨0, rfl, by decide, rfl, hF6, rr_e (show rVal tx m x q = .error (Nx tx q) by
                unfold rVal
                repeat (first | rw [if_pos (by omega)] | rw [if_neg (by omega)])) hR6.2.1.2.1⟩)
        · skip
          refine tr_iconst (pc := 98) (v := nI 0) dX10_readRight_98 (by decide) ?_
          exact tr_iret (pc := 99) dX10_readRight_99 rfl (by decide) (⟨0, rfl, by decide, rfl, hF4, rr_e (show rVal tx m x q = .error (q) by
              unfold rVal
              repeat (first | rw [if_pos (by omega)] | rw [if_neg (by omega)])) hR4.2.1.2.1⟩)
      · skip
        refine tr_aload_n (pc := 59) 0 dX10_readRight_59 rfl rfl ?_
        refine tr_getI (pc := 60) (x := nI (mkd (kd tx q))) dX10_readRight_60 (hS.1 50 (13, 45) rfl) fi_X10_106 rfl hR2.2.1.1 ?_
        refine tr_bipush (pc := 63) (v := nI 48) dX10_readRight_63 (by decide) ?_
        refine tr_bipush (pc := 65) (v := nI 51) dX10_readRight_65 (by decide) ?_
        have hmo := mkd_out _ (kd_le hv) hd
        refine tr_callS (pc := 67) (rest := []) dX10_readRight_67 ml_X10_99 cs_X10_in rfl rfl (Nat.le_of_ble_eq_true rfl) (by decide) (c_min_out (by
            rcases hmo with z | z
            · exact Or.inl ((nI_ltI (by omega) (by omega)).2 z)
            · exact Or.inr ((nI_ltI (by omega) (by omega)).2 z))) ?_
        rintro _ _ _ ⟨rfl, rfl, rfl⟩
        show T a 4 mX10_readRight 70 [(0, rv a 50), (1, .int (nI m))] [.int (nI 0)] S h2 _
        refine tr_if_eq (pc := 70) (tgt := 180) dX10_readRight_70 (by decide) (nI_z_eq (by omega)) (fun _ => ?_) (fun hcc => absurd (by decide) hcc)
        refine tr_aload_n (pc := 180) 0 dX10_readRight_180 rfl rfl ?_
        refine tr_getI (pc := 181) (x := nmI (kd tx q)) dX10_readRight_181 (hS.1 50 (13, 45) rfl) fi_X10_124 rfl hR2.2.2.2.2.2.1 ?_
        refine tr_iconst (pc := 184) (v := -1) dX10_readRight_184 (by decide) ?_
        refine tr_icmp_ne (pc := 185) (tgt := 190) dX10_readRight_185 (by decide) Iff.rfl (fun hb185 => ?_) (fun hb185 => ?_)
        · skip
          have hn0 : nm (kd tx q) < 4 := nmI_f hb185
          refine tr_aload_n (pc := 190) 0 dX10_readRight_190 rfl rfl ?_
          refine tr_callV (pc := 191) (rest := []) (ci := 10) dX10_readRight_191 ml_X10_117 cv_X10_next rfl rfl (Nat.le_of_ble_eq_true rfl) (hS.1 50 (13, 45) rfl) rfl (by decide) (c_nx hS hv hR2) ?_
          rintro _ _ h3 ⟨rfl, rfl, hR3, hG3⟩
          have hF3 : FR h h3 := hF2.trans hG3
          show T a 4 mX10_readRight 194 [(0, rv a 50), (1, .int (nI m))] [] S h3 _
          refine tr_aload_n (pc := 194) 0 dX10_readRight_194 rfl rfl ?_
          refine tr_aload_n (pc := 195) 0 dX10_readRight_195 rfl rfl ?_
          refine tr_getI (pc := 196) (x := nI (mkd (kd tx (Nx tx q)))) dX10_readRight_196 (hS.1 50 (13, 45) rfl) fi_X10_106 rfl hR3.2.1.1 ?_
          refine tr_bipush (pc := 199) (v := nI 46) dX10_readRight_199 (by decide) ?_
          have hmk1 := mkd_lt (k := kd tx (Nx tx q))
          refine tr_icmp_ne (pc := 201) (tgt := 208) dX10_readRight_201 (by decide) (nI_eq (by omega) (by omega)) (fun hb201 => ?_) (fun hb201 => ?_)
          · skip
            have h46 : ¬ kd tx (Nx tx q) = 46 := fun z => hb201 ((mkd_b (by decide)).2 z)
            refine tr_iconst (pc := 208) (v := nI 1) dX10_readRight_208 (by decide) ?_
            refine tr_putI (pc := 209) (x := nI 1) dX10_readRight_209 (hS.1 50 (13, 45) rfl) fi_X10_127 rfl rfl rfl ?_
            have hR4 := hR3.p13 (z := nI 1)
            have hF4 : FR h (hs h3 50 (upd (h3 50) 13 (nI 1))) := Fm.put hF3 (by decide)
            generalize hs h3 50 (upd (h3 50) 13 (nI 1)) = h4 at hR4 hF4 ⊢
            refine tr_aload_n (pc := 212) 0 dX10_readRight_212 rfl rfl ?_
            refine tr_getI (pc := 213) (x := nI 1) dX10_readRight_213 (hS.1 50 (13, 45) rfl) fi_X10_127 rfl hR4.2.2.2.1 ?_
            refine tr_iconst (pc := 216) (v := nI 3) dX10_readRight_216 (by decide) ?_
            refine tr_icmp_ne (pc := 217) (tgt := 235) dX10_readRight_217 (by decide) (nI_eq (by omega) (by omega)) (fun _ => ?_) (fun hcc => absurd hcc (by decide))
            refine tr_iconst (pc := 235) (v := nI 1) dX10_readRight_235 (by decide) ?_
            exact tr_iret (pc := 236) dX10_readRight_236 rfl (by decide) (⟨1, rfl, by decide, rfl, hF4, rr_o (z := (1, x, nm (kd tx q), 0)) (show rVal tx m x q = .ok ((1, x, nm (kd tx q), 0), Nx tx q) by
                unfold rVal
                repeat (first | rw [if_pos (by omega)] | rw [if_neg (by omega)])) rfl hR4 (fun _ _ => nmI_y hn0)⟩)
          · skip
            have h46 : kd tx (Nx tx q) = 46 := (mkd_b (by decide)).1 hb201
            refine tr_iconst (pc := 204) (v := nI 3) dX10_readRight_204 (by decide) ?_
            refine tr_goto (pc := 205) (tgt := 209) dX10_readRight_205 (by decide) ?_
            refine tr_putI (pc := 209) (x := nI 3) dX10_readRight_209 (hS.1 50 (13, 45) rfl) fi_X10_127 rfl rfl rfl ?_
            have hR4 := hR3.p13 (z := nI 3)
            have hF4 : FR h (hs h3 50 (upd (h3 50) 13 (nI 3))) := Fm.put hF3 (by decide)
            generalize hs h3 50 (upd (h3 50) 13 (nI 3)) = h4 at hR4 hF4 ⊢
            refine tr_aload_n (pc := 212) 0 dX10_readRight_212 rfl rfl ?_
            refine tr_getI (pc := 213) (x := nI 3) dX10_readRight_213 (hS.1 50 (13, 45) rfl) fi_X10_127 rfl hR4.2.2.2.1 ?_
            refine tr_iconst (pc := 216) (v := nI 3) dX10_readRight_216 (by decide) ?_
            refine tr_icmp_ne (pc := 217) (tgt := 235) dX10_readRight_217 (by decide) (nI_eq (by omega) (by omega)) (fun hcc => absurd (by decide) hcc) (fun _ => ?_)
            refine tr_aload_n (pc := 220) 0 dX10_readRight_220 rfl rfl ?_
            refine tr_bipush (pc := 221) (v := nI 102) dX10_readRight_221 (by decide) ?_
            have hq5 := eq1_le (k := kd tx (Nx tx (Nx tx q))) (w := 102)
            refine tr_callV (pc := 223) (rest := []) (ci := 10) dX10_readRight_223 ml_X10_136 cv_X10_isNext rfl rfl (Nat.le_of_ble_eq_true rfl) (hS.1 50 (13, 45) rfl) rfl (by decide) (c_isNx hS hv hR4 (w := 102) (by decide)) ?_
            rintro _ _ h5 ⟨rfl, rfl, hR5, hG5⟩
            have hF5 : FR h h5 := hF4.trans hG5
            show T a 4 mX10_readRight 226 [(0, rv a 50), (1, .int (nI m))] [.int (nI (eq1 (kd tx (Nx tx (Nx tx q))) 102))] S h5 _
            refine tr_if_ne (pc := 226) (tgt := 231) dX10_readRight_226 (by decide) (nI_z_eq (by omega)) (fun hb226 => ?_) (fun hb226 => ?_)
            · skip
              have h102 : kd tx (Nx tx (Nx tx q)) = 102 := eq1_y hb226
              refine tr_aload_n (pc := 231) 0 dX10_readRight_231 rfl rfl ?_
              refine tr_callV (pc := 232) (rest := []) (ci := 10) dX10_readRight_232 ml_X10_117 cv_X10_next rfl rfl (Nat.le_of_ble_eq_true rfl) (hS.1 50 (13, 45) rfl) rfl (by decide) (c_nx hS hv hR5) ?_
              rintro _ _ h6 ⟨rfl, rfl, hR6, hG6⟩
              have hF6 : FR h h6 := hF5.trans hG6
              show T a 4 mX10_readRight 235 [(0, rv a 50), (1, .int (nI m))] [] S h6 _
              refine tr_iconst (pc := 235) (v := nI 1) dX10_readRight_235 (by decide) ?_
              exact tr_iret (pc := 236) dX10_readRight_236 rfl (by decide) (⟨1, rfl, by decide, rfl, hF6, rr_o (z := (3, x, nm (kd tx q), 0)) (show rVal tx m x q = .ok ((3, x, nm (kd tx q), 0), Nx tx (Nx tx (Nx tx q))) by
                  unfold rVal
                  repeat (first | rw [if_pos (by omega)] | rw [if_neg (by omega)])) rfl hR6 (fun _ _ => nmI_y hn0)⟩)
            · skip
              have h102 : ¬ kd tx (Nx tx (Nx tx q)) = 102 := eq1_z hb226
              refine tr_iconst (pc := 229) (v := nI 0) dX10_readRight_229 (by decide) ?_
              exact tr_iret (pc := 230) dX10_readRight_230 rfl (by decide) (⟨0, rfl, by decide, rfl, hF5, rr_e (show rVal tx m x q = .error (Nx tx (Nx tx q)) by
                  unfold rVal
                  repeat (first | rw [if_pos (by omega)] | rw [if_neg (by omega)])) hR5.2.1.2.1⟩)
        · skip
          have hn0 : ¬ nm (kd tx q) < 4 := nmI_iff.1 hb185
          refine tr_iconst (pc := 188) (v := nI 0) dX10_readRight_188 (by decide) ?_
          exact tr_iret (pc := 189) dX10_readRight_189 rfl (by decide) (⟨0, rfl, by decide, rfl, hF2, rr_e (show rVal tx m x q = .error (q) by
              unfold rVal
              repeat (first | rw [if_pos (by omega)] | rw [if_neg (by omega)])) hR2.2.1.2.1⟩)
    · skip
      have hk : kd tx q = 71 := (mkd_b (by decide)).1 hb31
      refine tr_aload_n (pc := 34) 0 dX10_readRight_34 rfl rfl ?_
      refine tr_aload_n (pc := 35) 0 dX10_readRight_35 rfl rfl ?_
      refine tr_getI (pc := 36) (x := nI (mkd (kd tx q))) dX10_readRight_36 (hS.1 50 (13, 45) rfl) fi_X10_106 rfl hR2.2.1.1 ?_
      refine tr_sipush (pc := 39) (v := nI 1001) dX10_readRight_39 (by decide) ?_
      refine tr_icmp_ne (pc := 42) (tgt := 49) dX10_readRight_42 (by decide) (nI_eq (by omega) (by omega)) (fun _ => ?_) (fun hcc => absurd hcc (hb22))
      refine tr_iconst (pc := 49) (v := nI 5) dX10_readRight_49 (by decide) ?_
      refine tr_putI (pc := 50) (x := nI 5) dX10_readRight_50 (hS.1 50 (13, 45) rfl) fi_X10_127 rfl rfl rfl ?_
      have hR3 := hR2.p13 (z := nI 5)
      have hF3 : FR h (hs h2 50 (upd (h2 50) 13 (nI 5))) := Fm.put hF2 (by decide)
      generalize hs h2 50 (upd (h2 50) 13 (nI 5)) = h3 at hR3 hF3 ⊢
      refine tr_aload_n (pc := 53) 0 dX10_readRight_53 rfl rfl ?_
      refine tr_callV (pc := 54) (rest := []) (ci := 10) dX10_readRight_54 ml_X10_117 cv_X10_next rfl rfl (Nat.le_of_ble_eq_true rfl) (hS.1 50 (13, 45) rfl) rfl (by decide) (c_nx hS hv hR3) ?_
      rintro _ _ h4 ⟨rfl, rfl, hR4, hG4⟩
      have hF4 : FR h h4 := hF3.trans hG4
      show T a 4 mX10_readRight 57 [(0, rv a 50), (1, .int (nI m))] [] S h4 _
      refine tr_iconst (pc := 57) (v := nI 1) dX10_readRight_57 (by decide) ?_
      exact tr_iret (pc := 58) dX10_readRight_58 rfl (by decide) (⟨1, rfl, by decide, rfl, hF4, rr_o (z := (5, x, 0, 0)) (show rVal tx m x q = .ok ((5, x, 0, 0), Nx tx q) by
          unfold rVal
          repeat (first | rw [if_pos (by omega)] | rw [if_neg (by omega)])) rfl hR4 (fun _ z => absurd rfl z)⟩)
