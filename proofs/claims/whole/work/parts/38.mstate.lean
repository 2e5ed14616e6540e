/-! ===== the reference's state ===== -/
def KM (h : Hp) (tx : List Nat) (P : Prog) (past : List Prog) (b n f : Int32) : Prop := MTx h tx ∧ NP h P ∧ (h 50 3 = nI past.length ∧ ∀ j, j < past.length → RW (h 53) (133 * j) (past.getD j [])) ∧ (h 54 0 = b ∧ h 54 1 = n ∧ h 54 2 = f)
section KMS
variable {h h' : Hp} {tx : List Nat} {P : Prog} {past : List Prog} {b n f : Int32}
theorem KM.eq (hM : KM h tx P past b n f) (h3 : h' 50 3 = h 50 3) (h6 : h' 50 6 = h 50 6) (e1 : h' 51 = h 51) (e3 : h' 53 = h 53) (e4 : h' 54 = h 54) (e5 : h' 55 = h 55) : KM h' tx P past b n f := by
  unfold KM MTx NP
  rw [h3, h6, e1, e3, e4, e5]
  exact hM
theorem KM.cf (hM : KM h tx P past b n f) (k : CF h h') : KM h' tx P past b n f :=
  hM.eq (by rw [k 50 (by decide) (by decide)]) (by rw [k 50 (by decide) (by decide)]) (k 51 (by decide) (by decide)) (k 53 (by decide) (by decide)) (k 54 (by decide) (by decide)) (k 55 (by decide) (by decide))
theorem KM.q {Fs L : List Nat} (hM : KM h tx P past b n f) (k : Fm Fs L h h') (h1 : 3 ∉ Fs) (h2 : 6 ∉ Fs) (h3 : 51 ∉ L) (h4 : 53 ∉ L) (h5 : 54 ∉ L) (h6 : 55 ∉ L) : KM h' tx P past b n f :=
  hM.eq (k.2 3 h1) (k.2 6 h2) (k.1 51 (by decide) h3) (k.1 53 (by decide) h4) (k.1 54 (by decide) h5) (k.1 55 (by decide) h6)
theorem Fm.mf {Fs L : List Nat} (k : Fm Fs L h h') (hL : ∀ o, o ∈ L → 50 ≤ o ∧ o < 76) : MF h h' := fun o ho => k.1 o (by omega) (fun q => by have := hL o q; omega)
theorem MF.trans {h1 h2 : Hp} (k1 : MF h h1) (k2 : MF h1 h2) : MF h h2 := fun o a => (k2 o a).trans (k1 o a)
theorem MF.rf : MF h h := fun _ _ => rfl
theorem MF.hs {o : Nat} {g : Nat → Int32} (k : MF h h') (ho : 50 ≤ o ∧ o < 76) : MF h (hs h' o g) := fun j a => by rw [hs_ne (by omega)]; exact k j a
theorem KM.b0 (hM : KM h tx P past b n f) : KM (hs h 54 (upd (h 54) 0 (b + nI 1))) tx P past (b + nI 1) n f := by
  obtain ⟨m1, m2, m3, m4, m5, m6⟩ := hM
  unfold KM MTx NP
  rw [hs_same, hs_ne (show 50 ≠ 54 by decide), hs_ne (show 51 ≠ 54 by decide), hs_ne (show 53 ≠ 54 by decide), hs_ne (show 55 ≠ 54 by decide), upd_s, upd_n (by decide), upd_n (by decide)]
  exact ⟨m1, m2, m3, rfl, m5, m6⟩
theorem KM.b1 (hM : KM h tx P past b n f) : KM (hs h 54 (upd (h 54) 1 (n + nI 1))) tx P past b (n + nI 1) f := by
  obtain ⟨m1, m2, m3, m4, m5, m6⟩ := hM
  unfold KM MTx NP
  rw [hs_same, hs_ne (show 50 ≠ 54 by decide), hs_ne (show 51 ≠ 54 by decide), hs_ne (show 53 ≠ 54 by decide), hs_ne (show 55 ≠ 54 by decide), upd_s, upd_n (by decide), upd_n (by decide)]
  exact ⟨m1, m2, m3, m4, rfl, m6⟩
theorem KM.b2 (hM : KM h tx P past b n f) : KM (hs h 54 (upd (h 54) 2 (f + nI 1))) tx P past b n (f + nI 1) := by
  obtain ⟨m1, m2, m3, m4, m5, m6⟩ := hM
  unfold KM MTx NP
  rw [hs_same, hs_ne (show 50 ≠ 54 by decide), hs_ne (show 51 ≠ 54 by decide), hs_ne (show 53 ≠ 54 by decide), hs_ne (show 55 ≠ 54 by decide), upd_s, upd_n (by decide), upd_n (by decide)]
  exact ⟨m1, m2, m3, m4, m5, rfl⟩
end KMS
theorem np_rw {h : Hp} {P : Prog} : NP h P ↔ RW (h 51) 0 P := by
  unfold NP RW
  simp only [Nat.zero_add]
theorem rw_copy {f g : Nat → Int32} {i j : Nat} {Q : Prog} (hV : VB Q) (hR : RW g i Q) (hc : ∀ t, t < 133 → f (j + t) = g (i + t)) : RW f j Q := by
  obtain ⟨v1, v2, v3⟩ := hV
  obtain ⟨r1, r2, r3⟩ := hR
  refine ⟨?_, fun m hm => ?_, fun m k w hm hk hw => ?_⟩
  · have := hc 0 (by decide)
    rw [Nat.add_zero, Nat.add_zero] at this
    rw [this]; exact r1
  · rw [hc _ (by omega)]; exact r2 m hm
  · have := v2 m
    rw [hc _ (by omega)]; exact r3 m k w hm hk hw
theorem mo_out {x : Int32} {N : Nat} (h : outN x (N + 1)) (hN : N < 2 ^ 30) : x < nI 0 ∨ nI N < x := by
  rcases h with h | h
  · exact Or.inl h
  · refine Or.inr (Int32.lt_of_lt_of_le ((nI_ltI (by omega) (by omega)).2 (Nat.lt_succ_self N)) h)
theorem mo_in {k N : Nat} (h : k ≤ N) (hN : N < 2 ^ 30) : ¬ nI k < nI 0 ∧ ¬ nI N < nI k := ⟨fun z => by have := (nI_ltI (by omega) (by decide)).1 z; omega, fun z => by have := (nI_ltI (by omega) (by omega)).1 z; omega⟩
set_option maxHeartbeats 4000000 in
set_option maxRecDepth 100000 in
theorem c_mref0 {a : Am} {S : St} {h : Hp} (hS : IsSt S) {tx : List Nat} {P : Prog} {past : List Prog} {b n f : Int32} (hM : KM h tx P past b n f) : CT a 0 mX10_refuse [rv a 50, .int (-2)] S h (fun v S' h' => v = some (.int (-2)) ∧ S = S' ∧ KM h' tx P past (b + nI 1) n f ∧ MF h h') := by
  refine met_of (by decide +kernel) (Nat.le_of_ble_eq_true rfl) ?_
  show T a 0 mX10_refuse 0 [(0, rv a 50), (1, .int (-2))] [] S h _
  refine tr_aload_n (pc := 0) 0 dX10_refuse_0 rfl rfl ?_
  refine tr_getR (pc := 1) (q := 54) dX10_refuse_1 (hS.1 50 (13, 45) rfl) fi_X10_19 rfl (hS.2 50 4 54 rfl) ?_
  refine tr_bipush (pc := 4) (v := -2) dX10_refuse_4 (by decide) ?_
  refine tr_iload_n (pc := 6) 1 dX10_refuse_6 rfl rfl ?_
  refine tr_isub (pc := 7) (v := nI 0) dX10_refuse_7 (by decide) ?_
  refine tr_dup2 (pc := 8) dX10_refuse_8 rfl rfl ?_
  refine tr_iald (pc := 9) (v := b) 0 dX10_refuse_9 (hS.1 54 (0, 3) rfl) rfl (by decide) (by decide) hM.2.2.2.1 ?_
  refine tr_iconst (pc := 10) (v := nI 1) dX10_refuse_10 (by decide) ?_
  refine tr_iadd (pc := 11) (v := b + (nI 1)) dX10_refuse_11 rfl ?_
  refine tr_iast (pc := 12) 0 dX10_refuse_12 (hS.1 54 (0, 3) rfl) rfl (by decide) (by decide) ?_
  refine tr_iload_n (pc := 13) 1 dX10_refuse_13 rfl rfl ?_
  exact tr_iret (pc := 14) dX10_refuse_14 rfl rfl (⟨rfl, rfl, hM.b0, MF.rf.hs (by decide)⟩)

set_option maxHeartbeats 4000000 in
set_option maxRecDepth 100000 in
theorem c_mref1 {a : Am} {S : St} {h : Hp} (hS : IsSt S) {tx : List Nat} {P : Prog} {past : List Prog} {b n f : Int32} (hM : KM h tx P past b n f) : CT a 0 mX10_refuse [rv a 50, .int (-3)] S h (fun v S' h' => v = some (.int (-3)) ∧ S = S' ∧ KM h' tx P past b (n + nI 1) f ∧ MF h h') := by
  refine met_of (by decide +kernel) (Nat.le_of_ble_eq_true rfl) ?_
  show T a 0 mX10_refuse 0 [(0, rv a 50), (1, .int (-3))] [] S h _
  refine tr_aload_n (pc := 0) 0 dX10_refuse_0 rfl rfl ?_
  refine tr_getR (pc := 1) (q := 54) dX10_refuse_1 (hS.1 50 (13, 45) rfl) fi_X10_19 rfl (hS.2 50 4 54 rfl) ?_
  refine tr_bipush (pc := 4) (v := -2) dX10_refuse_4 (by decide) ?_
  refine tr_iload_n (pc := 6) 1 dX10_refuse_6 rfl rfl ?_
  refine tr_isub (pc := 7) (v := nI 1) dX10_refuse_7 (by decide) ?_
  refine tr_dup2 (pc := 8) dX10_refuse_8 rfl rfl ?_
  refine tr_iald (pc := 9) (v := n) 1 dX10_refuse_9 (hS.1 54 (0, 3) rfl) rfl (by decide) (by decide) hM.2.2.2.2.1 ?_
  refine tr_iconst (pc := 10) (v := nI 1) dX10_refuse_10 (by decide) ?_
  refine tr_iadd (pc := 11) (v := n + (nI 1)) dX10_refuse_11 rfl ?_
  refine tr_iast (pc := 12) 1 dX10_refuse_12 (hS.1 54 (0, 3) rfl) rfl (by decide) (by decide) ?_
  refine tr_iload_n (pc := 13) 1 dX10_refuse_13 rfl rfl ?_
  exact tr_iret (pc := 14) dX10_refuse_14 rfl rfl (⟨rfl, rfl, hM.b1, MF.rf.hs (by decide)⟩)

set_option maxHeartbeats 4000000 in
set_option maxRecDepth 100000 in
theorem c_mref2 {a : Am} {S : St} {h : Hp} (hS : IsSt S) {tx : List Nat} {P : Prog} {past : List Prog} {b n f : Int32} (hM : KM h tx P past b n f) : CT a 0 mX10_refuse [rv a 50, .int (-4)] S h (fun v S' h' => v = some (.int (-4)) ∧ S = S' ∧ KM h' tx P past b n (f + nI 1) ∧ MF h h') := by
  refine met_of (by decide +kernel) (Nat.le_of_ble_eq_true rfl) ?_
  show T a 0 mX10_refuse 0 [(0, rv a 50), (1, .int (-4))] [] S h _
  refine tr_aload_n (pc := 0) 0 dX10_refuse_0 rfl rfl ?_
  refine tr_getR (pc := 1) (q := 54) dX10_refuse_1 (hS.1 50 (13, 45) rfl) fi_X10_19 rfl (hS.2 50 4 54 rfl) ?_
  refine tr_bipush (pc := 4) (v := -2) dX10_refuse_4 (by decide) ?_
  refine tr_iload_n (pc := 6) 1 dX10_refuse_6 rfl rfl ?_
  refine tr_isub (pc := 7) (v := nI 2) dX10_refuse_7 (by decide) ?_
  refine tr_dup2 (pc := 8) dX10_refuse_8 rfl rfl ?_
  refine tr_iald (pc := 9) (v := f) 2 dX10_refuse_9 (hS.1 54 (0, 3) rfl) rfl (by decide) (by decide) hM.2.2.2.2.2 ?_
  refine tr_iconst (pc := 10) (v := nI 1) dX10_refuse_10 (by decide) ?_
  refine tr_iadd (pc := 11) (v := f + (nI 1)) dX10_refuse_11 rfl ?_
  refine tr_iast (pc := 12) 2 dX10_refuse_12 (hS.1 54 (0, 3) rfl) rfl (by decide) (by decide) ?_
  refine tr_iload_n (pc := 13) 1 dX10_refuse_13 rfl rfl ?_
  exact tr_iret (pc := 14) dX10_refuse_14 rfl rfl (⟨rfl, rfl, hM.b2, MF.rf.hs (by decide)⟩)

set_option maxHeartbeats 4000000 in
set_option maxRecDepth 100000 in
theorem c_bring {a : Am} {S : St} {h : Hp} {o1 o2 n1 n2 i j : Nat} (ho1 : S.1[o1]? = some (0, n1)) (ho2 : S.1[o2]? = some (0, n2)) (hne : o1 ≠ o2) (h1 : i + 133 ≤ n1) (h2 : j + 133 ≤ n2) (hn1 : n1 < 2000) (hn2 : n2 < 2000) : CT a 0 mX10_bring [rv a o1, .int (nI i), rv a o2, .int (nI j)] S h (fun v S' h' => v = none ∧ S = S' ∧ ∃ f, (∀ t, t < 133 → f (j + t) = h o1 (i + t)) ∧ (∀ t, (t < j ∨ j + 133 ≤ t) → f t = h o2 t) ∧ hs h o2 f = h') := by
  refine met_of (by decide +kernel) (Nat.le_of_ble_eq_true rfl) ?_
  show T a 0 mX10_bring 0 [(0, rv a o1), (1, .int (nI i)), (2, rv a o2), (3, .int (nI j))] [] S h _
  refine tr_iconst (pc := 0) (v := nI 0) dX10_bring_0 (by decide) ?_
  refine tr_istore (pc := 1) (lv' := [(4, .int (nI 0)), (0, rv a o1), (1, .int (nI i)), (2, rv a o2), (3, .int (nI j))]) dX10_bring_1 (by decide) rfl ?_
  refine tr_sub (pc := 3) (lv' := [(0, rv a o1), (1, .int (nI i)), (2, rv a o2), (3, .int (nI j)), (4, .int (nI 0))]) [1, 2, 3, 4, 0] rfl ?_
  have L3 : ∀ (fu : Nat) (k : Nat) (f : Nat → Int32), 133 - k < fu → k ≤ 133 → (∀ t, t < k → f (j + t) = h o1 (i + t)) → (∀ t, (t < j ∨ j + k ≤ t) → f t = h o2 t) → T a 0 mX10_bring 3 [(0, rv a o1), (1, .int (nI i)), (2, rv a o2), (3, .int (nI j)), (4, .int (nI k))] [] S (hs h o2 f) (fun v S' h' => v = none ∧ S = S' ∧ ∃ f, (∀ t, t < 133 → f (j + t) = h o1 (i + t)) ∧ (∀ t, (t < j ∨ j + 133 ≤ t) → f t = h o2 t) ∧ hs h o2 f = h') := by
    intro fu
    induction fu with
    | zero => intro k f hu hk hf1 hf2; omega
    | succ fu ih =>
      intro k f hu hk hf1 hf2
      refine tr_iload (pc := 3) 4 dX10_bring_3 rfl ?_
      refine tr_sipush (pc := 5) (v := nI 133) dX10_bring_5 (by decide) ?_
      refine tr_icmp_ge (pc := 8) (tgt := 29) dX10_bring_8 (by decide) (nI_leI (by omega) (by omega)) (fun hb8 => ?_) (fun hb8 => ?_)
      · skip
        exact tr_vret (pc := 29) dX10_bring_29 rfl (⟨rfl, rfl, f, fun t ht => hf1 t (by omega), fun t ht => hf2 t (by omega), rfl⟩)
      · skip
        refine tr_aload_n (pc := 11) 2 dX10_bring_11 rfl rfl ?_
        refine tr_iload_n (pc := 12) 3 dX10_bring_12 rfl rfl ?_
        refine tr_iload (pc := 13) 4 dX10_bring_13 rfl ?_
        refine tr_iadd (pc := 15) (v := nI (j + k)) dX10_bring_15 (nI_add _ _) ?_
        refine tr_aload_n (pc := 16) 0 dX10_bring_16 rfl rfl ?_
        refine tr_iload_n (pc := 17) 1 dX10_bring_17 rfl rfl ?_
        refine tr_iload (pc := 18) 4 dX10_bring_18 rfl ?_
        refine tr_iadd (pc := 20) (v := nI (i + k)) dX10_bring_20 (nI_add _ _) ?_
        refine tr_iald (pc := 21) (v := h o1 (i + k)) (i + k) dX10_bring_21 ho1 rfl (by omega) (by omega) (by rw [hs_ne hne]) ?_
        refine tr_iast (pc := 22) (j + k) dX10_bring_22 ho2 rfl (by omega) (by omega) ?_
        refine tr_iinc (pc := 23) (v := nI (k + 1)) (lv' := [(4, .int (nI (k + 1))), (0, rv a o1), (1, .int (nI i)), (2, rv a o2), (3, .int (nI j))]) 4 dX10_bring_23 rfl (by rw [show Int32.ofInt 1 = nI 1 from by decide, nI_add]) (by decide) rfl ?_
        refine tr_goto (pc := 26) (tgt := 3) dX10_bring_26 (by decide) ?_
        refine tr_sub (pc := 3) (lv' := [(0, rv a o1), (1, .int (nI i)), (2, rv a o2), (3, .int (nI j)), (4, .int (nI (k + 1)))]) [1, 2, 3, 4, 0] rfl ?_
        rw [hs_hs, hs_same]
        exact ih (k + 1) (upd f (j + k) (h o1 (i + k))) (by omega) (by omega) (fun t ht => by
          by_cases q : t = k
          · subst q; exact upd_s
          · rw [upd_n (by omega)]; exact hf1 t (by omega)) (fun t ht => by
          rw [upd_n (by omega)]; exact hf2 t (by omega))
  have K := L3 134 0 (h o2) (by omega) (by omega) (fun t ht => absurd ht (by omega)) (fun t _ => rfl)
  rw [hs_self] at K
  exact K

theorem km_note {h h1 : Hp} {tx : List Nat} {P : Prog} {past past' : List Prog} {b n f : Int32} {g : Nat → Int32} {x : Int32} (hM : KM h tx P past b n f) (hx : x = nI past'.length) (h1' : h1 53 = g) (hF : Fm [3] [53] h h1) (hg : ∀ j, j < past'.length → RW g (133 * j) (past'.getD j [])) : KM (hs h1 50 (upd (h1 50) 3 x)) tx P past' b n f ∧ Fm [3] [53] h (hs h1 50 (upd (h1 50) 3 x)) := by
  have hF2 : Fm [3] [53] h (hs h1 50 (upd (h1 50) 3 x)) := hF.put (by decide)
  obtain ⟨m1, m2, m3, m4⟩ := hM
  refine ⟨⟨m1.fm hF2 (by decide) (by decide), m2.fm hF2 (by decide), ⟨?_, fun j hj => ?_⟩, ?_⟩, hF2⟩
  · rw [f50_s]; exact hx
  · rw [hs_ne (by decide), h1']; exact hg j hj
  · rw [hF2.1 54 (by decide) (by decide)]; exact m4
theorem keepP_n {past : List Prog} {P : Prog} (h : past.length < 5) : keepP past P = past ++ [P] := by
  unfold keepP
  rw [if_neg (by omega)]
theorem keepP_y {past : List Prog} {P : Prog} (h : past.length = 5) : keepP past P = past.tail ++ [P] := by
  unfold keepP
  rw [if_pos h]
theorem pg_app {past : List Prog} {P : Prog} {j : Nat} : (past ++ [P]).getD j [] = if j = past.length then P else past.getD j [] := by
  rw [List.getD_eq_getElem?_getD, List.getD_eq_getElem?_getD, List.getElem?_append]
  by_cases h : j < past.length
  · rw [if_pos h, if_neg (by omega)]
  · rw [if_neg h]
    by_cases e : j = past.length
    · rw [if_pos e, e, Nat.sub_self]; rfl
    · rw [if_neg e, List.getElem?_eq_none (by simp; omega), List.getElem?_eq_none (by omega)]
theorem pg_mem {past : List Prog} {j : Nat} (h : j < past.length) : past.getD j [] ∈ past := by
  rw [List.getD_eq_getElem?_getD, List.getElem?_eq_getElem h]
  exact List.getElem_mem h
theorem pg_tail {past : List Prog} {j : Nat} : past.tail.getD j [] = past.getD (j + 1) [] := by
  cases past with
  | nil => simp
  | cons x past => simp [List.getD_eq_getElem?_getD]
set_option maxHeartbeats 4000000 in
set_option maxRecDepth 100000 in
theorem c_note_n {a : Am} {S : St} {h : Hp} (hS : IsSt S) {tx : List Nat} {P : Prog} {past : List Prog} {b n f : Int32} (hM : KM h tx P past b n f) (hv : TV tx) (hVP : VP P) (hpv : ∀ Q ∈ past, VP Q) (hp5 : past.length ≤ 5) (hl : past.length < 5) : CT a 1 mX10_note [rv a 50] S h (fun v S' h' => v = none ∧ S = S' ∧ KM h' tx P (keepP past P) b n f ∧ Fm [3] [53] h h') := by
  obtain ⟨hX, hN, ⟨hst, hpa⟩, hrf⟩ := hM
  have hM : KM h tx P past b n f := ⟨hX, hN, ⟨hst, hpa⟩, hrf⟩
  have hVB := hVP.1
  have hV1 := hVB.1
  have hv200 := hv.1
  have hnS := nSt_le hVB
  refine met_of (by decide +kernel) (Nat.le_of_ble_eq_true rfl) ?_
  show T a 1 mX10_note 0 [(0, rv a 50)] [] S h _
  refine tr_aload_n (pc := 0) 0 dX10_note_0 rfl rfl ?_
  refine tr_getI (pc := 1) (x := nI past.length) dX10_note_1 (hS.1 50 (13, 45) rfl) fi_X10_85 rfl hst ?_
  refine tr_iconst (pc := 4) (v := nI 5) dX10_note_4 (by decide) ?_
  refine tr_icmp_ne (pc := 5) (tgt := 49) dX10_note_5 (by decide) (nI_eq (by omega) (by omega)) (fun _ => ?_) (fun hcc => absurd hcc (by omega))
  refine tr_aload_n (pc := 49) 0 dX10_note_49 rfl rfl ?_
  refine tr_getR (pc := 50) (q := 51) dX10_note_50 (hS.1 50 (13, 45) rfl) fi_X10_7 rfl (hS.2 50 0 51 rfl) ?_
  refine tr_iconst (pc := 53) (v := nI 0) dX10_note_53 (by decide) ?_
  refine tr_aload_n (pc := 54) 0 dX10_note_54 rfl rfl ?_
  refine tr_getR (pc := 55) (q := 53) dX10_note_55 (hS.1 50 (13, 45) rfl) fi_X10_16 rfl (hS.2 50 2 53 rfl) ?_
  refine tr_sipush (pc := 58) (v := nI 133) dX10_note_58 (by decide) ?_
  refine tr_aload_n (pc := 61) 0 dX10_note_61 rfl rfl ?_
  refine tr_getI (pc := 62) (x := nI past.length) dX10_note_62 (hS.1 50 (13, 45) rfl) fi_X10_85 rfl hst ?_
  refine tr_imul (pc := 65) (v := nI (133 * past.length)) dX10_note_65 (pk_mul _ _) ?_
  refine tr_callS (pc := 66) (rest := []) dX10_note_66 ml_X10_89 cs_X10_bring rfl rfl (Nat.le_of_ble_eq_true rfl) (by decide) (c_bring (o1 := 51) (o2 := 53) (i := 0) (j := 133 * past.length) (hS.1 51 _ rfl) (hS.1 53 _ rfl) (by decide) (by decide) (by omega) (by decide) (by decide)) ?_
  rintro _ _ _ ⟨rfl, rfl, g, hg1, hg2, rfl⟩
  show T a 1 mX10_note 69 [(0, rv a 50)] [] S (hs h 53 g) _
  refine tr_aload_n (pc := 69) 0 dX10_note_69 rfl rfl ?_
  refine tr_dup (pc := 70) dX10_note_70 rfl ?_
  refine tr_getI (pc := 71) (x := nI past.length) dX10_note_71 (hS.1 50 (13, 45) rfl) fi_X10_85 rfl hst ?_
  refine tr_iconst (pc := 74) (v := nI 1) dX10_note_74 (by decide) ?_
  refine tr_iadd (pc := 75) (v := nI (past.length + 1)) dX10_note_75 (nI_add _ _) ?_
  refine tr_putI (pc := 76) (x := nI (past.length + 1)) dX10_note_76 (hS.1 50 (13, 45) rfl) fi_X10_85 rfl rfl rfl ?_
  exact tr_vret (pc := 79) dX10_note_79 rfl (by
      have K := km_note (past' := past ++ [P]) (g := g) (x := nI (past.length + 1)) (h1 := hs h 53 g) hM (by simp) hs_same (Fm.rf.set (by decide) (by decide)) (fun j hj => by
        rw [pg_app]
        by_cases e : j = past.length
        · rw [if_pos e, e]
          exact rw_copy hVB (np_rw.1 hN) hg1
        · have hj2 : j < past.length := by simp at hj; omega
          rw [if_neg e]
          exact rw_copy (hpv _ (pg_mem hj2)).1 (hpa j hj2) (fun t ht => hg2 _ (by omega)))
      rw [keepP_n hl]
      exact ⟨rfl, rfl, K.1, K.2⟩)

set_option maxHeartbeats 4000000 in
set_option maxRecDepth 100000 in
theorem c_note_y {a : Am} {S : St} {h : Hp} (hS : IsSt S) {tx : List Nat} {P : Prog} {past : List Prog} {b n f : Int32} (hM : KM h tx P past b n f) (hv : TV tx) (hVP : VP P) (hpv : ∀ Q ∈ past, VP Q) (hp5 : past.length ≤ 5) (hl : past.length = 5) : CT a 1 mX10_note [rv a 50] S h (fun v S' h' => v = none ∧ S = S' ∧ KM h' tx P (keepP past P) b n f ∧ Fm [3] [53] h h') := by
  obtain ⟨hX, hN, ⟨hst, hpa⟩, hrf⟩ := hM
  have hM : KM h tx P past b n f := ⟨hX, hN, ⟨hst, hpa⟩, hrf⟩
  have hVB := hVP.1
  have hV1 := hVB.1
  have hv200 := hv.1
  have hnS := nSt_le hVB
  refine met_of (by decide +kernel) (Nat.le_of_ble_eq_true rfl) ?_
  show T a 1 mX10_note 0 [(0, rv a 50)] [] S h _
  refine tr_aload_n (pc := 0) 0 dX10_note_0 rfl rfl ?_
  refine tr_getI (pc := 1) (x := nI past.length) dX10_note_1 (hS.1 50 (13, 45) rfl) fi_X10_85 rfl hst ?_
  refine tr_iconst (pc := 4) (v := nI 5) dX10_note_4 (by decide) ?_
  refine tr_icmp_ne (pc := 5) (tgt := 49) dX10_note_5 (by decide) (nI_eq (by omega) (by omega)) (fun hcc => absurd (by omega) hcc) (fun _ => ?_)
  refine tr_iconst (pc := 8) (v := nI 0) dX10_note_8 (by decide) ?_
  refine tr_istore_n (pc := 9) (lv' := [(1, .int (nI 0)), (0, rv a 50)]) dX10_note_9 rfl (by decide) rfl ?_
  refine tr_sub (pc := 10) (lv' := [(0, rv a 50), (1, .int (nI 0))]) [1, 0] rfl ?_
  have L10 : ∀ (fu : Nat) (k : Nat) (g : Nat → Int32), 532 - k < fu → k ≤ 532 → (∀ t, t < k → g t = h 53 (t + 133)) → (∀ t, k ≤ t → g t = h 53 t) → T a 1 mX10_note 10 [(0, rv a 50), (1, .int (nI k))] [] S (hs h 53 g) (fun v S' h' => v = none ∧ S = S' ∧ KM h' tx P (keepP past P) b n f ∧ Fm [3] [53] h h') := by
    intro fu
    induction fu with
    | zero => intro k g hu hk hg1 hg2; omega
    | succ fu ih =>
      intro k g hu hk hg1 hg2
      refine tr_iload_n (pc := 10) 1 dX10_note_10 rfl rfl ?_
      refine tr_sipush (pc := 11) (v := nI 532) dX10_note_11 (by decide) ?_
      refine tr_icmp_ge (pc := 14) (tgt := 39) dX10_note_14 (by decide) (nI_leI (by omega) (by omega)) (fun hb14 => ?_) (fun hb14 => ?_)
      · skip
        refine tr_aload_n (pc := 39) 0 dX10_note_39 rfl rfl ?_
        refine tr_dup (pc := 40) dX10_note_40 rfl ?_
        refine tr_getI (pc := 41) (x := nI 5) dX10_note_41 (hS.1 50 (13, 45) rfl) fi_X10_85 rfl (hst.trans (by rw [hl])) ?_
        refine tr_iconst (pc := 44) (v := nI 1) dX10_note_44 (by decide) ?_
        refine tr_isub (pc := 45) (v := nI 4) dX10_note_45 (by decide) ?_
        refine tr_putI (pc := 46) (x := nI 4) dX10_note_46 (hS.1 50 (13, 45) rfl) fi_X10_85 rfl rfl rfl ?_
        have hg5 : (hs (hs h 53 g) 50 (upd ((hs h 53 g) 50) 3 (nI 4))) 53 = g := by rw [hs_ne (by decide), hs_same]
        have ha5 : (hs (hs h 53 g) 50 (upd ((hs h 53 g) 50) 3 (nI 4))) 51 = h 51 := by rw [hs_ne (by decide), hs_ne (by decide)]
        have hs5 : (hs (hs h 53 g) 50 (upd ((hs h 53 g) 50) 3 (nI 4))) 50 3 = nI 4 := by rw [hs_same, upd_s]
        have hF5 : Fm [3] [53] h (hs (hs h 53 g) 50 (upd ((hs h 53 g) 50) 3 (nI 4))) := (Fm.rf.set (by decide) (by decide)).put (by decide)
        generalize hs (hs h 53 g) 50 (upd ((hs h 53 g) 50) 3 (nI 4)) = h1 at hg5 ha5 hs5 hF5 ⊢
        refine tr_aload_n (pc := 49) 0 dX10_note_49 rfl rfl ?_
        refine tr_getR (pc := 50) (q := 51) dX10_note_50 (hS.1 50 (13, 45) rfl) fi_X10_7 rfl (hS.2 50 0 51 rfl) ?_
        refine tr_iconst (pc := 53) (v := nI 0) dX10_note_53 (by decide) ?_
        refine tr_aload_n (pc := 54) 0 dX10_note_54 rfl rfl ?_
        refine tr_getR (pc := 55) (q := 53) dX10_note_55 (hS.1 50 (13, 45) rfl) fi_X10_16 rfl (hS.2 50 2 53 rfl) ?_
        refine tr_sipush (pc := 58) (v := nI 133) dX10_note_58 (by decide) ?_
        refine tr_aload_n (pc := 61) 0 dX10_note_61 rfl rfl ?_
        refine tr_getI (pc := 62) (x := nI 4) dX10_note_62 (hS.1 50 (13, 45) rfl) fi_X10_85 rfl hs5 ?_
        refine tr_imul (pc := 65) (v := nI 532) dX10_note_65 (by decide) ?_
        refine tr_callS (pc := 66) (rest := []) dX10_note_66 ml_X10_89 cs_X10_bring rfl rfl (Nat.le_of_ble_eq_true rfl) (by decide) (c_bring (o1 := 51) (o2 := 53) (i := 0) (j := 532) (hS.1 51 _ rfl) (hS.1 53 _ rfl) (by decide) (by decide) (by decide) (by decide) (by decide)) ?_
        rintro _ _ _ ⟨rfl, rfl, g2, hg3, hg4, rfl⟩
        show T a 1 mX10_note 69 [(0, rv a 50), (1, .int (nI k))] [] S (hs h1 53 g2) _
        refine tr_aload_n (pc := 69) 0 dX10_note_69 rfl rfl ?_
        refine tr_dup (pc := 70) dX10_note_70 rfl ?_
        refine tr_getI (pc := 71) (x := nI 4) dX10_note_71 (hS.1 50 (13, 45) rfl) fi_X10_85 rfl hs5 ?_
        refine tr_iconst (pc := 74) (v := nI 1) dX10_note_74 (by decide) ?_
        refine tr_iadd (pc := 75) (v := nI 5) dX10_note_75 (by decide) ?_
        refine tr_putI (pc := 76) (x := nI 5) dX10_note_76 (hS.1 50 (13, 45) rfl) fi_X10_85 rfl rfl rfl ?_
        exact tr_vret (pc := 79) dX10_note_79 rfl (by
            have K := km_note (past' := past.tail ++ [P]) (g := g2) (x := nI 5) (h1 := hs h1 53 g2) hM (by simp [hl]) hs_same (hF5.set (by decide) (by decide)) (fun j hj => by
              rw [pg_app]
              by_cases e : j = past.tail.length
              · rw [if_pos e, e, List.length_tail, hl]
                refine rw_copy hVB (np_rw.1 hN) (fun t ht => ?_)
                rw [← ha5]; exact hg3 t ht
              · have hj2 : j < past.tail.length := by rw [List.length_append, List.length_singleton] at hj; omega
                have hj3 : j + 1 < past.length := by rw [List.length_tail] at hj2; omega
                rw [if_neg e, pg_tail]
                refine rw_copy (hpv _ (pg_mem hj3)).1 (hpa (j + 1) hj3) (fun t ht => ?_)
                rw [hg4 _ (by omega), hg5, hg1 _ (by omega)]
                congr 1
                omega)
            rw [keepP_y hl]
            exact ⟨rfl, rfl, K.1, K.2⟩)
      · skip
        refine tr_aload_n (pc := 17) 0 dX10_note_17 rfl rfl ?_
        refine tr_getR (pc := 18) (q := 53) dX10_note_18 (hS.1 50 (13, 45) rfl) fi_X10_16 rfl (hS.2 50 2 53 rfl) ?_
        refine tr_iload_n (pc := 21) 1 dX10_note_21 rfl rfl ?_
        refine tr_aload_n (pc := 22) 0 dX10_note_22 rfl rfl ?_
        refine tr_getR (pc := 23) (q := 53) dX10_note_23 (hS.1 50 (13, 45) rfl) fi_X10_16 rfl (hS.2 50 2 53 rfl) ?_
        refine tr_iload_n (pc := 26) 1 dX10_note_26 rfl rfl ?_
        refine tr_sipush (pc := 27) (v := nI 133) dX10_note_27 (by decide) ?_
        refine tr_iadd (pc := 30) (v := nI (k + 133)) dX10_note_30 (nI_add _ _) ?_
        refine tr_iald (pc := 31) (v := h 53 (k + 133)) (k + 133) dX10_note_31 (hS.1 53 (0, 665) rfl) rfl (by omega) (by decide) (by rw [hs_same]; exact hg2 _ (by omega)) ?_
        refine tr_iast (pc := 32) k dX10_note_32 (hS.1 53 (0, 665) rfl) rfl (by omega) (by decide) ?_
        refine tr_iinc (pc := 33) (v := nI (k + 1)) (lv' := [(1, .int (nI (k + 1))), (0, rv a 50)]) 1 dX10_note_33 rfl (by rw [show Int32.ofInt 1 = nI 1 from by decide, nI_add]) (by decide) rfl ?_
        refine tr_goto (pc := 36) (tgt := 10) dX10_note_36 (by decide) ?_
        refine tr_sub (pc := 10) (lv' := [(0, rv a 50), (1, .int (nI (k + 1)))]) [1, 0] rfl ?_
        rw [hs_hs, hs_same]
        exact ih (k + 1) (upd g k (h 53 (k + 133))) (by omega) (by omega) (fun t ht => by
          by_cases q : t = k
          · subst q; exact upd_s
          · rw [upd_n q]; exact hg1 t (by omega)) (fun t ht => by
          rw [upd_n (by omega)]; exact hg2 t (by omega))
  have K := L10 533 0 (h 53) (by omega) (by omega) (fun t ht => absurd ht (by omega)) (fun t _ => rfl)
  rw [hs_self] at K
  exact K

theorem c_note {a : Am} {S : St} {h : Hp} (hS : IsSt S) {tx : List Nat} {P : Prog} {past : List Prog} {b n f : Int32} (hM : KM h tx P past b n f) (hv : TV tx) (hVP : VP P) (hpv : ∀ Q ∈ past, VP Q) (hp5 : past.length ≤ 5) : CT a 1 mX10_note [rv a 50] S h (fun v S' h' => v = none ∧ S = S' ∧ KM h' tx P (keepP past P) b n f ∧ Fm [3] [53] h h') := by
  by_cases hl : past.length < 5
  · exact c_note_n hS hM hv hVP hpv hp5 hl
  · exact c_note_y hS hM hv hVP hpv hp5 (by omega)