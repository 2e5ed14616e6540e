/-! ===== places of faults ===== -/
theorem rVal_er {tx : List Nat} {m x p e : Nat} (hp : p ≤ tx.length) (h : rVal tx m x p = .error e) : e ≤ tx.length := by
  have b1 := Nx_le hp
  have b2 := Nx_le b1
  have b3 := Nx_le b2
  have b4 := Nx_le b3
  unfold rVal at h
  repeat' split at h
  all_goals first
    | (injection h with h; rw [← h]; assumption)
    | cases h
theorem rLine_er {tx : List Nat} {m p e : Nat} (hp : p ≤ tx.length) (h : rLine tx m p = .error e) : e ≤ tx.length := by
  have b1 := Nx_le hp
  have b2 := Nx_le b1
  have b3 := Nx_le b2
  have b4 := Nx_le b3
  have b5 := Nx_le b4
  unfold rLine at h
  repeat' split at h
  all_goals first
    | exact rVal_er b2 h
    | (injection h with h; rw [← h]; assumption)
    | cases h
theorem rBody_er {tx : List Nat} {m : Nat} : ∀ (f q : Nat) (L : List Ln) (C : Cls) (e : Nat), q ≤ tx.length → rBody tx m f q L C = .error e → e ≤ tx.length := by
  intro f
  induction f with
  | zero =>
    intro q L C e hq h
    by_cases k : kd tx q = 125
    · rw [rb_end k] at h; cases h
    · rw [rb_0 k] at h; injection h with h; rw [← h]; exact hq
  | succ f ih =>
    intro q L C e hq h
    by_cases k : kd tx q = 125
    · rw [rb_end k] at h; cases h
    · rw [rb_s k] at h
      cases hr : rLine tx m q with
      | error x => rw [hr] at h; injection h with h; rw [← h]; exact rLine_er hq hr
      | ok w =>
        obtain ⟨l, q2⟩ := w
        have k2 := (rLine_pos hq hr).1
        rw [hr] at h
        unfold rSemi at h
        by_cases hk : kd tx q2 = 59
        · simp only [hk, if_true] at h
          exact ih _ _ _ _ (Nx_le k2) h
        · simp only [hk, if_false] at h
          injection h with h; rw [← h]; exact k2
theorem rProg_er {tx : List Nat} : ∀ (f p : Nat) (P : Prog) (C : Cls) (e : Nat), INV tx P C p → P.length + f ≤ 4 → rProg tx f p P C = .error e → e ≤ tx.length := by
  intro f
  induction f with
  | zero =>
    intro p P C e hI _ h
    by_cases k : kd tx p = 131
    · rw [rp_end k] at h; cases h
    · rw [rp_0 k] at h; injection h with h; rw [← h]; exact hI.1
  | succ f ih =>
    intro p P C e hI h4 h
    by_cases k : kd tx p = 131
    · rw [rp_end k] at h; cases h
    · rw [rp_s k] at h
      cases hr : rMeth tx P.length p C with
      | error x =>
        rw [hr] at h; injection h with h; rw [← h]
        unfold rMeth at hr
        split at hr
        · exact rBody_er _ _ _ _ _ (Nx_le hI.1) hr
        · injection hr with hr; rw [← hr]; exact hI.1
      | ok w =>
        rw [hr] at h
        exact ih _ _ _ _ (rMeth_inv hI (by omega) hr) (by simp; omega) h
theorem miss_mem {n q : Nat} : ∀ {C : Cls}, miss n C = some q → ∃ z ∈ C, z.2 = q := by
  intro C
  induction C with
  | nil => intro h; cases h
  | cons c C ih =>
    intro h
    have h : (if n ≤ c.1 then some c.2 else miss n C) = some q := h
    split at h
    · injection h with h; exact ⟨c, by simp, h⟩
    · obtain ⟨z, hz, e⟩ := ih h; exact ⟨z, by simp [hz], e⟩
theorem rdA_le {tx : List Nat} {e : Nat} (h : rdA tx = .error e) : e ≤ tx.length := by
  unfold rdA at h
  cases hr : rProg tx 4 (skp tx 0) [] [] with
  | error x => rw [hr] at h; injection h with h; rw [← h]; exact rProg_er _ _ _ _ _ inv_0 (by simp) hr
  | ok z =>
    rw [hr] at h
    obtain ⟨q, i1, i2, i3, i4, i5⟩ := rProg_inv _ _ _ _ _ inv_0 (by simp) hr
    cases hm : miss z.1.length z.2 with
    | none => simp only [hm] at h; cases h
    | some q1 =>
      simp only [hm] at h
      injection h with h
      rw [← h]
      obtain ⟨y, hy, ey⟩ := miss_mem hm
      have := (i3 y hy).1
      omega
/-! ===== changes of methods keep them well ===== -/
theorem vp_drop {P : Prog} {m i : Nat} (hV : VP P) (hi : i < lnN P m) : VP (dropL P m i) := by
  obtain ⟨⟨v1, v2, v3⟩, vc⟩ := hV
  refine ⟨⟨by rw [len_drop]; exact v1, fun k => ?_, fun k j hj => ?_⟩, fun k j hj h7 => ?_⟩
  · have := v2 k
    rw [lnN_drop hi]
    split <;> omega
  · rw [lnN_drop hi] at hj
    rw [gt_drop hi]
    split at hj
    · rename_i e
      split
      · exact v3 k (j + 1) (by omega)
      · exact v3 k j (by omega)
    · rename_i e
      rw [if_neg (fun z => e z.1)]
      exact v3 k j hj
  · rw [len_drop]
    rw [lnN_drop hi] at hj
    rw [gt_drop hi] at h7 ⊢
    split at hj
    · rename_i e
      split at h7
      · rename_i e2; rw [if_pos e2]; exact vc k (j + 1) (by omega) h7
      · rename_i e2; rw [if_neg e2]; exact vc k j (by omega) h7
    · rename_i e
      rw [if_neg (fun z => e z.1)] at h7 ⊢
      exact vc k j hj h7
theorem vp_swap {P : Prog} {m i : Nat} (hV : VP P) (hi : i + 1 < lnN P m) : VP (swapL P m i) := by
  obtain ⟨⟨v1, v2, v3⟩, vc⟩ := hV
  refine ⟨⟨by rw [len_swap]; exact v1, fun k => ?_, fun k j hj => ?_⟩, fun k j hj h7 => ?_⟩
  · rw [lnN_swap hi]; exact v2 k
  · rw [lnN_swap hi] at hj
    rw [gt_swap hi]
    split
    · exact v3 m (i + 1) hi
    · split
      · exact v3 m i (by omega)
      · exact v3 k j hj
  · rw [len_swap]
    rw [lnN_swap hi] at hj
    rw [gt_swap hi] at h7 ⊢
    by_cases e1 : k = m ∧ j = i
    · rw [if_pos e1] at h7 ⊢; rw [e1.1]; exact vc m (i + 1) hi h7
    · rw [if_neg e1] at h7 ⊢
      by_cases e2 : k = m ∧ j = i + 1
      · rw [if_pos e2] at h7 ⊢; rw [e2.1]; exact vc m i (by omega) h7
      · rw [if_neg e2] at h7 ⊢; exact vc k j hj h7
theorem vp_keep {past : List Prog} {P : Prog} (h : ∀ Q ∈ past, VP Q) (hP : VP P) : ∀ Q ∈ keepP past P, VP Q := by
  intro Q hQ
  unfold keepP at hQ
  rcases List.mem_append.1 hQ with z | z
  · split at z
    · exact h Q (List.mem_of_mem_tail z)
    · exact h Q z
  · simp at z; rw [z]; exact hP
/-! ===== the class's state ===== -/
def CF (h h' : Hp) : Prop := ∀ o, 50 ≤ o → o < 76 → h' o = h o
def MF (h h' : Hp) : Prop := ∀ o, o < 50 ∨ 76 ≤ o → h' o = h o
theorem CF.rf {h : Hp} : CF h h := fun _ _ _ => rfl
theorem CF.trans {h h1 h2 : Hp} (k1 : CF h h1) (k2 : CF h1 h2) : CF h h2 := fun o a b => (k2 o a b).trans (k1 o a b)
theorem CF.hs {h h' : Hp} {o : Nat} {f : Nat → Int32} (k : CF h h') (ho : o < 50 ∨ 76 ≤ o) : CF h (hs h' o f) := fun j a b => by rw [hs_ne (by omega)]; exact k j a b
theorem CF.of {L : List Nat} {h h' : Hp} (k : Fr L h h') (hL : ∀ o, o ∈ L → o < 50 ∨ 76 ≤ o) : CF h h' := fun o a b => k o (fun q => by have := hL o q; omega)
theorem Fg.cf {h h' : Hp} (k : Fg h h') : CF h h' := fun o a b => k.1 o (by omega) b (fun q => by simp only [fL, List.mem_cons, List.not_mem_nil, or_false] at q; omega)
theorem SP.fr {S S' : St} {h h' : Hp} {r : Nat} {past : List Prog} (k : SP S h r past) (hh : ∀ o, 14 ≤ o → o ≤ 30 → h' o = h o) (hg : S'.2 15 = S.2 15) : SP S' h' r past := by
  obtain ⟨k1, k2, k3, k4⟩ := k
  refine ⟨?_, k2, by rw [hh 14 (by omega) (by omega)]; exact k3, fun j hj => ⟨?_, (k4 j hj).2⟩⟩
  · unfold KP; rw [hg]; exact k1
  · have := (k4 j hj).1
    have hk := kK_in r j
    unfold MP
    rw [hh (kK r j) (by omega) (by omega), hh (kK r j + 1) (by omega) (by omega), hh (kK r j + 2) (by omega) (by omega)]
    exact this
def KS (S : St) (h : Hp) (tx : List Nat) (P : Prog) (past : List Prog) (b n f : Int32) : Prop := IsSt S ∧ (TX h tx ∧ TV tx) ∧ (MP h 3 P ∧ VP P) ∧ ((∃ r, SP S h r past) ∧ ∀ Q ∈ past, VP Q) ∧ (h 0 9 = b ∧ h 0 10 = n ∧ h 0 11 = f) ∧ CH S h P
section CSS
variable {S S' : St} {h h' : Hp} {tx : List Nat} {P : Prog} {past : List Prog} {b n f : Int32}
theorem CH.hs0 {k : Nat} {x : Int32} (hC : CH S h P) (h1 : 12 ≠ k) (h2 : 13 ≠ k) : CH S (hs h 0 (upd (h 0) k x)) P := by
  refine ⟨hC.1, ?_⟩
  rw [hs_same, upd_n h1, upd_n h2]
  refine hC.2.imp id (fun w => ⟨w.1, w.2.1.fr (L := [0]) (Fr.rf.hs (by decide)) (by decide), w.2.2.imp id (fun z => ⟨z.1, z.2.fr (fun o ho => hs_ne (fun e => ?_))⟩)⟩)
  subst e
  rcases ho with q | q
  · revert q; decide
  · omega
theorem KS.hs0 {k : Nat} {x : Int32} (hC : KS S h tx P past b n f) (h1 : 12 ≠ k) (h2 : 13 ≠ k) : KS S (hs h 0 (upd (h 0) k x)) tx P past (upd (h 0) k x 9) (upd (h 0) k x 10) (upd (h 0) k x 11) := by
  obtain ⟨c1, c2, c3, ⟨⟨r, c4⟩, c5⟩, c6, c7⟩ := hC
  have hF : Fr [0] h (hs h 0 (upd (h 0) k x)) := Fr.rf.hs (by decide)
  exact ⟨c1, ⟨c2.1.fr hF (by decide) (by decide), c2.2⟩, ⟨c3.1.fr hF (by decide) (by decide) (by decide), c3.2⟩, ⟨⟨r, c4.fr (fun o a b => hs_ne (by omega)) rfl⟩, c5⟩, ⟨by rw [hs_same], by rw [hs_same], by rw [hs_same]⟩, c7.hs0 h1 h2⟩
theorem KS.bad (hC : KS S h tx P past b n f) : KS S (hs h 0 (upd (h 0) 9 (b + nI 1))) tx P past (b + nI 1) n f := by
  have k := hC.hs0 (k := 9) (x := b + nI 1) (by decide) (by decide)
  rw [upd_s, upd_n (by decide), upd_n (by decide), hC.2.2.2.2.1.2.1, hC.2.2.2.2.1.2.2] at k
  exact k
theorem KS.no (hC : KS S h tx P past b n f) : KS S (hs h 0 (upd (h 0) 10 (n + nI 1))) tx P past b (n + nI 1) f := by
  have k := hC.hs0 (k := 10) (x := n + nI 1) (by decide) (by decide)
  rw [upd_s, upd_n (by decide), upd_n (by decide), hC.2.2.2.2.1.1, hC.2.2.2.2.1.2.2] at k
  exact k
theorem KS.full (hC : KS S h tx P past b n f) : KS S (hs h 0 (upd (h 0) 11 (f + nI 1))) tx P past b n (f + nI 1) := by
  have k := hC.hs0 (k := 11) (x := f + nI 1) (by decide) (by decide)
  rw [upd_s, upd_n (by decide), upd_n (by decide), hC.2.2.2.2.1.1, hC.2.2.2.2.1.2.1] at k
  exact k
/-- what is found changes, nothing else -/
theorem KS.fg (hC : KS S h tx P past b n f) (hF : Fg h h') (hS : IsSt S') (hg : S'.2 15 = S.2 15) (hH : CH S' h' P) : KS S' h' tx P past b n f := by
  obtain ⟨c1, c2, c3, ⟨⟨r, c4⟩, c5⟩, c6, c7⟩ := hC
  have e : ∀ o, 1 ≤ o → o ≤ 30 → h' o = h o := fun o p q => hF.1 o (by omega) (by omega) (fun z => by simp only [fL, List.mem_cons, List.not_mem_nil, or_false] at z; omega)
  refine ⟨hS, ⟨?_, c2.2⟩, ⟨?_, c3.2⟩, ⟨⟨r, c4.fr (fun o p q => e o (by omega) q) hg⟩, c5⟩, ⟨?_, ?_, ?_⟩, hH⟩
  · unfold TX; rw [e 1 (by decide) (by decide), e 2 (by decide) (by decide)]; exact c2.1
  · unfold MP; rw [e 3 (by decide) (by decide), e (3 + 1) (by decide) (by decide), e (3 + 2) (by decide) (by decide)]; exact c3.1
  · rw [hF.2 9 (by decide)]; exact c6.1
  · rw [hF.2 10 (by decide)]; exact c6.2.1
  · rw [hF.2 11 (by decide)]; exact c6.2.2
theorem Fnd.mf (k : Fnd h P) (hF : MF h h') : Fnd h' P :=
  k.fr (L := [50, 51, 52, 53, 54, 55, 56, 57, 58, 59, 60, 61, 62, 63, 64, 65, 66, 67, 68, 69, 70, 71, 72, 73, 74, 75]) (fun o ho => hF o (by
    by_cases q : o < 50 ∨ 76 ≤ o
    · exact q
    · refine absurd ?_ ho
      simp only [List.mem_cons, List.not_mem_nil, or_false]
      omega)) (by decide)
theorem KS.mf (hC : KS S h tx P past b n f) (hF : MF h h') : KS S h' tx P past b n f := by
  obtain ⟨c1, c2, c3, ⟨⟨r, c4⟩, c5⟩, c6, c7⟩ := hC
  have e : ∀ o, o < 50 → h' o = h o := fun o p => hF o (Or.inl p)
  refine ⟨c1, ⟨?_, c2.2⟩, ⟨?_, c3.2⟩, ⟨⟨r, c4.fr (fun o p q => e o (by omega)) rfl⟩, c5⟩, ?_, c7.1, ?_⟩
  · unfold TX; rw [e 1 (by decide), e 2 (by decide)]; exact c2.1
  · unfold MP; rw [e 3 (by decide), e (3 + 1) (by decide), e (3 + 2) (by decide)]; exact c3.1
  · rw [e 0 (by decide)]; exact c6
  · rw [e 0 (by decide)]
    refine c7.2.imp id (fun w => ⟨w.1, w.2.1.mf hF, w.2.2.imp id (fun z => ⟨z.1, z.2.fr (fun o ho => hF o ?_)⟩)⟩)
    rcases ho with q | q
    · left
      simp only [tL, List.mem_cons, List.not_mem_nil, or_false] at q
      omega
    · exact Or.inr q
/-- new methods, nothing found -/
theorem KS.newP {P' : Prog} (hC : KS S h tx P past b n f) (h12 : h 0 12 = nI 0) (h13 : h 0 13 = nI 0) (hM : MP h' 3 P') (hV : VP P') (hF : Fr [3, 4, 5] h h') : KS S h' tx P' past b n f := by
  obtain ⟨c1, c2, c3, ⟨⟨r, c4⟩, c5⟩, c6, c7⟩ := hC
  refine ⟨c1, ⟨c2.1.fr hF (by decide) (by decide), c2.2⟩, ⟨hM, hV⟩, ⟨⟨r, c4.fr (fun o p q => hF o (fun z => by simp only [List.mem_cons, List.not_mem_nil, or_false] at z; omega)) rfl⟩, c5⟩, ?_, c7.1, Or.inl ?_⟩
  · rw [hF 0 (by decide)]; exact c6
  · rw [hF 0 (by decide)]; exact ⟨h12, h13⟩
theorem TQx.st {g : Nat → Nat → Option Nat} (k : TQx S) (hg : g 41 = S.2 41) : TQx (S.1, g) := by
  obtain ⟨q, cap, k1, k2, k3, k4, k5, k6⟩ := k
  refine ⟨q, cap, ?_, k2, k3, k4, k5, k6⟩
  show g 41 5 = some q ∧ g 41 6 = some (q + 1) ∧ g 41 7 = some (q + 2) ∧ g 41 8 = some (q + 3)
  rw [hg]
  exact k1
end CSS

set_option maxHeartbeats 4000000 in
set_option maxRecDepth 100000 in
theorem c_rbad {a : Am} {S : St} {h : Hp} {tx : List Nat} {P : Prog} {past : List Prog} {b n f : Int32} (hC : KS S h tx P past b n f) : CT a 0 mX9_refusedAsBad [rv a 0] S h (fun v S' h' => v = some (.int (-2)) ∧ KS S' h' tx P past (b + nI 1) n f ∧ CF h h') := by
  have hS := hC.1
  refine met_of (by decide +kernel) (Nat.le_of_ble_eq_true rfl) ?_
  show T a 0 mX9_refusedAsBad 0 [(0, rv a 0)] [] S h _
  refine tr_aload_n (pc := 0) 0 dX9_refusedAsBad_0 rfl rfl ?_
  refine tr_dup (pc := 1) dX9_refusedAsBad_1 rfl ?_
  refine tr_getI (pc := 2) (x := b) dX9_refusedAsBad_2 (hS.1 0 (12, 14) rfl) fi_X9_262 rfl hC.2.2.2.2.1.1 ?_
  refine tr_iconst (pc := 5) (v := nI 1) dX9_refusedAsBad_5 (by decide) ?_
  refine tr_iadd (pc := 6) (v := b + (nI 1)) dX9_refusedAsBad_6 rfl ?_
  refine tr_putI (pc := 7) (x := b + (nI 1)) dX9_refusedAsBad_7 (hS.1 0 (12, 14) rfl) fi_X9_262 rfl rfl rfl ?_
  refine tr_bipush (pc := 10) (v := -2) dX9_refusedAsBad_10 (by decide) ?_
  exact tr_iret (pc := 12) dX9_refusedAsBad_12 rfl rfl (⟨rfl, hC.bad, CF.rf.hs (by decide)⟩)


set_option maxHeartbeats 4000000 in
set_option maxRecDepth 100000 in
theorem c_rno {a : Am} {S : St} {h : Hp} {tx : List Nat} {P : Prog} {past : List Prog} {b n f : Int32} (hC : KS S h tx P past b n f) : CT a 0 mX9_refusedAsNo [rv a 0] S h (fun v S' h' => v = some (.int (-3)) ∧ KS S' h' tx P past b (n + nI 1) f ∧ CF h h') := by
  have hS := hC.1
  refine met_of (by decide +kernel) (Nat.le_of_ble_eq_true rfl) ?_
  show T a 0 mX9_refusedAsNo 0 [(0, rv a 0)] [] S h _
  refine tr_aload_n (pc := 0) 0 dX9_refusedAsNo_0 rfl rfl ?_
  refine tr_dup (pc := 1) dX9_refusedAsNo_1 rfl ?_
  refine tr_getI (pc := 2) (x := n) dX9_refusedAsNo_2 (hS.1 0 (12, 14) rfl) fi_X9_266 rfl hC.2.2.2.2.1.2.1 ?_
  refine tr_iconst (pc := 5) (v := nI 1) dX9_refusedAsNo_5 (by decide) ?_
  refine tr_iadd (pc := 6) (v := n + (nI 1)) dX9_refusedAsNo_6 rfl ?_
  refine tr_putI (pc := 7) (x := n + (nI 1)) dX9_refusedAsNo_7 (hS.1 0 (12, 14) rfl) fi_X9_266 rfl rfl rfl ?_
  refine tr_bipush (pc := 10) (v := -3) dX9_refusedAsNo_10 (by decide) ?_
  exact tr_iret (pc := 12) dX9_refusedAsNo_12 rfl rfl (⟨rfl, hC.no, CF.rf.hs (by decide)⟩)


set_option maxHeartbeats 4000000 in
set_option maxRecDepth 100000 in
theorem c_rfull {a : Am} {S : St} {h : Hp} {tx : List Nat} {P : Prog} {past : List Prog} {b n f : Int32} (hC : KS S h tx P past b n f) : CT a 0 mX9_refusedAsFull [rv a 0] S h (fun v S' h' => v = some (.int (-4)) ∧ KS S' h' tx P past b n (f + nI 1) ∧ CF h h') := by
  have hS := hC.1
  refine met_of (by decide +kernel) (Nat.le_of_ble_eq_true rfl) ?_
  show T a 0 mX9_refusedAsFull 0 [(0, rv a 0)] [] S h _
  refine tr_aload_n (pc := 0) 0 dX9_refusedAsFull_0 rfl rfl ?_
  refine tr_dup (pc := 1) dX9_refusedAsFull_1 rfl ?_
  refine tr_getI (pc := 2) (x := f) dX9_refusedAsFull_2 (hS.1 0 (12, 14) rfl) fi_X9_269 rfl hC.2.2.2.2.1.2.2 ?_
  refine tr_iconst (pc := 5) (v := nI 1) dX9_refusedAsFull_5 (by decide) ?_
  refine tr_iadd (pc := 6) (v := f + (nI 1)) dX9_refusedAsFull_6 rfl ?_
  refine tr_putI (pc := 7) (x := f + (nI 1)) dX9_refusedAsFull_7 (hS.1 0 (12, 14) rfl) fi_X9_269 rfl rfl rfl ?_
  refine tr_bipush (pc := 10) (v := -4) dX9_refusedAsFull_10 (by decide) ?_
  exact tr_iret (pc := 12) dX9_refusedAsFull_12 rfl rfl (⟨rfl, hC.full, CF.rf.hs (by decide)⟩)

theorem c_Fm {a : Am} {S : St} {h : Hp} {tx : List Nat} {P : Prog} {past : List Prog} {b n f : Int32} (hC : KS S h tx P past b n f) : CT a 6 mX9_findMays [rv a 0] S h (fun v S' h' => v = none ∧ S = S' ∧ KS S h' tx P past b n f ∧ Fnd h' P ∧ CF h h') :=
  (c_findMays hC.1 hC.2.2.1.2 hC.2.2.1.1 hC.2.2.2.2.2.g).weaken (fun v S' h' k => ⟨k.1, k.2.1, hC.fg k.2.2.2.2.fg hC.1 rfl (hC.2.2.2.2.2.fm k.2.2.1 k.2.2.2.1 k.2.2.2.2), k.2.2.2.1, k.2.2.2.2.fg.cf⟩)
theorem TrOk.tqx {S : St} {h : Hp} {P : Prog} (k : TrOk S h P) : TQx S := by
  obtain ⟨q, cap, k1, k2⟩ := k
  exact ⟨q, cap, k1⟩
theorem c_Fr {a : Am} {S : St} {h : Hp} {tx : List Nat} {P : Prog} {past : List Prog} {b n f : Int32} (hC : KS S h tx P past b n f) : CT a 18 mX9_findRun [rv a 0] S h (fun v S' h' => v = none ∧ KS S' h' tx P past b n f ∧ Fnd h' P ∧ TrOk S' h' P ∧ CF h h') :=
  (c_findRun hC.1 hC.2.2.1.2 hC.2.2.1.1 hC.2.2.2.2.2).weaken (fun v S' h' k => by
    obtain ⟨k1, k2, k3, k4, k5, k6, k7⟩ := k
    exact ⟨k1, hC.fg k7 (hC.1.sg k6) (k6.2.1 15 (by decide) (by decide)) ⟨k5.tqx, Or.inr ⟨k2, k4, Or.inr ⟨k3, k5⟩⟩⟩, k4, k5, k7.cf⟩)
theorem c_keep {a : Am} {S : St} {h : Hp} (hS : IsSt S) {rr : Nat} {past : List Prog} {P : Prog} (hP : SP S h rr past) (hM : MP h 3 P) (hV : VB P) : CT a 3 mX5_keep [rv a 14, rv a 3] S h (fun v S' h' => v = none ∧ S'.1 = S.1 ∧ (∀ o, o ≠ 15 → S'.2 o = S.2 o) ∧ (∃ r', SP S' h' r' (keepP past P)) ∧ Fr kL h h') := by
  by_cases hl : past.length < 5
  · exact c_keep_n hS hP hM hV hl
  · exact c_keep_y hS hP hM hV (by have := hP.2.1; omega)
set_option maxHeartbeats 4000000 in
set_option maxRecDepth 100000 in
theorem c_forget {a : Am} {S : St} {h : Hp} (hS : IsSt S) : CT a 0 mX9_forgetFindings [rv a 0] S h (fun v S' h' => v = none ∧ S = S' ∧ h' 0 12 = nI 0 ∧ h' 0 13 = nI 0 ∧ Fo 0 [12, 13] [] h h') := by
  refine met_of (by decide +kernel) (Nat.le_of_ble_eq_true rfl) ?_
  show T a 0 mX9_forgetFindings 0 [(0, rv a 0)] [] S h _
  refine tr_aload_n (pc := 0) 0 dX9_forgetFindings_0 rfl rfl ?_
  refine tr_iconst (pc := 1) (v := nI 0) dX9_forgetFindings_1 (by decide) ?_
  refine tr_putI (pc := 2) (x := nI 0) dX9_forgetFindings_2 (hS.1 0 (12, 14) rfl) fi_X9_275 rfl (by decide) (by decide) ?_
  refine tr_aload_n (pc := 5) 0 dX9_forgetFindings_5 rfl rfl ?_
  refine tr_iconst (pc := 6) (v := nI 0) dX9_forgetFindings_6 (by decide) ?_
  refine tr_putI (pc := 7) (x := nI 0) dX9_forgetFindings_7 (hS.1 0 (12, 14) rfl) fi_X9_279 rfl (by decide) (by decide) ?_
  exact tr_vret (pc := 10) dX9_forgetFindings_10 rfl (⟨rfl, rfl, by rw [hs_same, upd_n (by decide), hs_same, upd_s], by rw [hs_same, upd_s], fun o p q => by rw [hs_ne p, hs_ne p], fun k hk => by
      rw [hs_same, upd_n (fun e => hk (by rw [e]; decide)), hs_same, upd_n (fun e => hk (by rw [e]; decide))]⟩)

theorem cs_left {S S' : St} {h h1 h2 : Hp} {tx : List Nat} {P : Prog} {past past' : List Prog} {b n f : Int32} {r' : Nat} (hC : KS S h tx P past b n f) (e1 : S'.1 = S.1) (e2 : ∀ o, o ≠ 15 → S'.2 o = S.2 o) (hSP : SP S' h1 r' past') (hF1 : Fr kL h h1) (h12 : h2 0 12 = nI 0) (h13 : h2 0 13 = nI 0) (hF2 : Fo 0 [12, 13] [] h1 h2) (hv : ∀ Q ∈ past', VP Q) : KS S' h2 tx P past' b n f ∧ CF h h2 ∧ ∀ o, o = 6 ∨ o = 7 ∨ o = 8 → h2 o = h o := by
  obtain ⟨c1, c2, c3, c4, c6, c7⟩ := hC
  obtain ⟨S1, g⟩ := S'
  have e1 : S1 = S.1 := e1
  subst e1
  have e : ∀ o, o ≠ 0 → o ∉ kL → h2 o = h o := fun o p q => (hF2.1 o p (by simp)).trans (hF1 o q)
  refine ⟨⟨c1.keep e2, ⟨?_, c2.2⟩, ⟨?_, c3.2⟩, ⟨⟨r', hSP.fr (fun o p q => hF2.1 o (by omega) (by simp)) rfl⟩, hv⟩, ⟨?_, ?_, ?_⟩, c7.1.st (e2 41 (by decide)), Or.inl ⟨h12, h13⟩⟩, fun o p q => e o (by omega) (fun z => by simp only [kL, List.mem_cons, List.not_mem_nil, or_false] at z; omega), fun o ho => e o (by omega) (fun z => by simp only [kL, List.mem_cons, List.not_mem_nil, or_false] at z; omega)⟩
  · unfold TX; rw [e 1 (by decide) (by decide), e 2 (by decide) (by decide)]; exact c2.1
  · unfold MP; rw [e 3 (by decide) (by decide), e (3 + 1) (by decide) (by decide), e (3 + 2) (by decide) (by decide)]; exact c3.1
  · rw [hF2.2 9 (by decide), hF1 0 (by decide)]; exact c6.1
  · rw [hF2.2 10 (by decide), hF1 0 (by decide)]; exact c6.2.1
  · rw [hF2.2 11 (by decide), hF1 0 (by decide)]; exact c6.2.2
set_option maxHeartbeats 4000000 in
set_option maxRecDepth 100000 in
theorem c_leave {a : Am} {S : St} {h : Hp} {tx : List Nat} {P : Prog} {past : List Prog} {b n f : Int32} (hC : KS S h tx P past b n f) : CT a 4 mX9_leaveState [rv a 0] S h (fun v S' h' => v = none ∧ KS S' h' tx P (keepP past P) b n f ∧ h' 0 12 = nI 0 ∧ h' 0 13 = nI 0 ∧ CF h h' ∧ ∀ o, o = 6 ∨ o = 7 ∨ o = 8 → h' o = h o) := by
  have hS := hC.1
  refine met_of (by decide +kernel) (Nat.le_of_ble_eq_true rfl) ?_
  show T a 4 mX9_leaveState 0 [(0, rv a 0)] [] S h _
  refine tr_aload_n (pc := 0) 0 dX9_leaveState_0 rfl rfl ?_
  refine tr_getR (pc := 1) (q := 14) dX9_leaveState_1 (hS.1 0 (12, 14) rfl) fi_X9_38 rfl (hS.2 0 4 14 rfl) ?_
  refine tr_aload_n (pc := 4) 0 dX9_leaveState_4 rfl rfl ?_
  refine tr_getR (pc := 5) (q := 3) dX9_leaveState_5 (hS.1 0 (12, 14) rfl) fi_X9_19 rfl (hS.2 0 1 3 rfl) ?_
  obtain ⟨rr, hP0⟩ := hC.2.2.2.1.1
  refine tr_callV (pc := 8) (rest := []) (ci := 5) dX9_leaveState_8 ml_X9_272 cv_X5_keep rfl rfl (Nat.le_of_ble_eq_true rfl) (hS.1 14 (8, 2) rfl) rfl (by decide) (c_keep hC.1 hP0 hC.2.2.1.1 hC.2.2.1.2.1) ?_
  rintro _ S1 h1 ⟨rfl, e1, e2, ⟨r1, hSP⟩, hF1⟩
  have hS1 : IsSt S1 := by
    obtain ⟨S1, g⟩ := S1
    have e1 : S1 = S.1 := e1
    subst e1
    exact hC.1.keep e2
  show T a 4 mX9_leaveState 11 [(0, rv a 0)] [] S1 h1 _
  refine tr_aload_n (pc := 11) 0 dX9_leaveState_11 rfl rfl ?_
  refine tr_callV (pc := 12) (rest := []) (ci := 9) dX9_leaveState_12 ml_X9_178 cv_X9_forgetFindings rfl rfl (Nat.le_of_ble_eq_true rfl) (hS1.1 0 (12, 14) rfl) rfl (by decide) (c_forget hS1) ?_
  rintro _ _ h2 ⟨rfl, rfl, h12, h13, hF2⟩
  show T a 4 mX9_leaveState 15 [(0, rv a 0)] [] S1 h2 _
  exact tr_vret (pc := 15) dX9_leaveState_15 rfl (by
      have K := cs_left hC e1 e2 hSP hF1 h12 h13 hF2 (vp_keep hC.2.2.2.1.2 hC.2.2.1.2)
      exact ⟨rfl, K.1, h12, h13, K.2.1, K.2.2⟩)
