/-! ===== a run, in the reference ===== -/
def MH (h : Hp) (R : RS) : Prop := (h 50 27 = nI (R.1 0) ∧ h 50 28 = tv R.2.2.2 ∧ h 50 37 = nI (R.1 1) ∧ h 50 38 = nI (R.1 2) ∧ h 50 39 = nI (R.1 3) ∧ h 50 40 = nI (R.1 4)) ∧ (∀ t, t < R.1 0 → h 62 t = nI (R.2.1 0 t) ∧ h 63 t = tv (R.2.2.1 t) ∧ h 64 t = nI (R.2.1 1 t)) ∧ ∀ s, s < 32 → h 73 s = nI (R.2.1 2 s) ∧ h 74 s = nI (R.2.1 3 s) ∧ h 75 s = nI (R.2.1 4 s)
def mF : List Nat := [27, 28, 35, 36, 37, 38, 39, 40]
def mL : List Nat := [62, 63, 64, 65, 66, 67, 68, 69, 70, 71, 73, 74, 75]
/-- the frame at depth D -/
def FA (h : Hp) (D m i c : Nat) (g : OT) (fs : Nat) (E : Nat → OT) : Prop := (h 67 D = nI m ∧ h 68 D = nI i ∧ h 69 D = nI c ∧ h 70 D = tv g ∧ h 71 D = nI fs) ∧ ∀ x, x < 4 → h 66 (4 * D + x) = tv (E x)
/-- frames under D are as they were -/
def Lw (D : Nat) (h h' : Hp) : Prop := (∀ j, j < D → h' 67 j = h 67 j ∧ h' 68 j = h 68 j ∧ h' 69 j = h 69 j ∧ h' 70 j = h 70 j ∧ h' 71 j = h 71 j) ∧ ∀ j, j < 4 * D → h' 66 j = h 66 j
theorem Lw.rf {D : Nat} {h : Hp} : Lw D h h := ⟨fun _ _ => ⟨rfl, rfl, rfl, rfl, rfl⟩, fun _ _ => rfl⟩
theorem Lw.trans {D : Nat} {h h1 h2 : Hp} (k1 : Lw D h h1) (k2 : Lw D h1 h2) : Lw D h h2 := ⟨fun j hj => by
  obtain ⟨a1, a2, a3, a4, a5⟩ := k1.1 j hj
  obtain ⟨b1, b2, b3, b4, b5⟩ := k2.1 j hj
  exact ⟨b1.trans a1, b2.trans a2, b3.trans a3, b4.trans a4, b5.trans a5⟩, fun j hj => (k2.2 j hj).trans (k1.2 j hj)⟩
theorem Lw.mono {D D' : Nat} {h h' : Hp} (k : Lw D h h') (hD : D' ≤ D) : Lw D' h h' := ⟨fun j hj => k.1 j (by omega), fun j hj => k.2 j (by omega)⟩
theorem Lw.same {D : Nat} {h h' : Hp} (h1 : h' 66 = h 66) (h2 : h' 67 = h 67) (h3 : h' 68 = h 68) (h4 : h' 69 = h 69) (h5 : h' 70 = h 70) (h6 : h' 71 = h 71) : Lw D h h' := ⟨fun j _ => by rw [h2, h3, h4, h5, h6]; exact ⟨rfl, rfl, rfl, rfl, rfl⟩, fun j _ => by rw [h1]⟩
theorem FA.lw {D D' m i c fs : Nat} {g : OT} {E : Nat → OT} {h h' : Hp} (k : FA h D m i c g fs E) (l : Lw D' h h') (hD : D < D') : FA h' D m i c g fs E := by
  obtain ⟨b1, b2, b3, b4, b5⟩ := l.1 D hD
  refine ⟨by rw [b1, b2, b3, b4, b5]; exact k.1, fun x hx => ?_⟩
  rw [l.2 _ (by omega)]; exact k.2 x hx
/-- marks of ended calls only -/
def MB (R : RS) (f : Nat → Int32) : Prop := ∀ t, t < R.1 0 → f t = -1 ∨ ∃ e, e < R.1 3 ∧ f t = nI e
/-- marks of calls under c0 are none but those that were -/
def MKp (c0 : Nat) (R R' : RS) (f f' : Nat → Int32) : Prop := ∀ c, c < c0 → c < 2 ^ 30 → (∀ t, t < R.1 0 → f t ≠ nI c) → ∀ t, t < R'.1 0 → f' t ≠ nI c
theorem MKp.rf {c0 : Nat} {R : RS} {f : Nat → Int32} : MKp c0 R R f f := fun _ _ _ h => h
theorem MKp.trans {c0 : Nat} {R R1 R2 : RS} {f f1 f2 : Nat → Int32} (h1 : MKp c0 R R1 f f1) (h2 : MKp c0 R1 R2 f1 f2) : MKp c0 R R2 f f2 := fun c hc hb h => h2 c hc hb (h1 c hc hb h)
theorem MKp.mono {c0 c1 : Nat} {R R' : RS} {f f' : Nat → Int32} (h : MKp c1 R R' f f') (hc : c0 ≤ c1) : MKp c0 R R' f f' := fun c h1 h2 h3 => h c (by omega) h2 h3
theorem MKp.same {c0 : Nat} {R R' : RS} {f f' : Nat → Int32} (h0 : R'.1 0 = R.1 0) (hf : f' = f) : MKp c0 R R' f f' := fun c _ _ h3 t ht => by rw [hf]; exact h3 t (by omega)
theorem nI_m1 {t : Nat} (h : t < 2 ^ 31) : ¬ nI t = -1 := fun e => nI_pos h (by rw [e]; decide)
theorem MB.ne {R : RS} {f : Nat → Int32} {c : Nat} (h : MB R f) (hc : R.1 3 ≤ c) (hb : c < 2 ^ 30) : ∀ t, t < R.1 0 → f t ≠ nI c := by
  intro t ht z
  rcases h t ht with w | ⟨e, w1, w2⟩
  · rw [w] at z; exact nI_m1 (by omega) z.symm
  · rw [w2, nI_eq (by omega) (by omega)] at z; omega
theorem mk_hs {h : Hp} {f : Nat → Int32} {t : Nat} {x : Int32} : hs (hs h 65 f) 65 (upd (hs h 65 f 65) t x) = hs h 65 (upd f t x) := by
  rw [hs_same]
  funext j
  by_cases e : j = 65
  · subst e; rw [hs_same, hs_same]
  · rw [hs_ne e, hs_ne e, hs_ne e]
set_option maxHeartbeats 4000000 in
set_option maxRecDepth 100000 in
theorem c_mfollow {a : Am} {S : St} {h : Hp} (hS : IsSt S) {R : RS} {P : Prog} (hT : MH h R) (hW : WF P R) (hn : R.1 0 ≤ 4096) {c : Nat} (hc : c < 2 ^ 30) {M : Nat → Bool} (hM : ∀ t, t < R.1 0 → (M t = true ↔ h 65 t = nI c)) (hcl : Cl R.2.2.1 M (R.1 0)) {s : OT} (hs0 : okT (R.1 0) s) : CT a 0 mX10_follow [rv a 50, .int (tv s), .int (nI c)] S h (fun v S' h' => ∃ M' f, v = none ∧ S = S' ∧ hs h 65 f = h' ∧ (∀ t, t < R.1 0 → (M' t = true ↔ f t = nI c)) ∧ (∀ t, t < R.1 0 → f t = h 65 t ∨ f t = nI c) ∧ FwE R s M M' 1) := by
  refine met_of (by decide +kernel) (Nat.le_of_ble_eq_true rfl) ?_
  show T a 0 mX10_follow 0 [(0, rv a 50), (1, .int (tv s)), (2, .int (nI c))] [] S h _
  refine tr_iload_n (pc := 0) 1 dX10_follow_0 rfl rfl ?_
  refine tr_istore_n (pc := 1) (lv' := [(3, .int (tv s)), (0, rv a 50), (1, .int (tv s)), (2, .int (nI c))]) dX10_follow_1 rfl (by decide) rfl ?_
  refine tr_sub (pc := 2) (lv' := [(0, rv a 50), (2, .int (nI c)), (3, .int (tv s))]) [1, 3, 0] rfl ?_
  have L2 : ∀ (fu : Nat) (k : Nat) (x : OT) (M1 : Nat → Bool) (f1 : Nat → Int32), R.1 0 - k < fu → k ≤ cntG M1 (R.1 0) → (∀ t, t < R.1 0 → (M1 t = true ↔ f1 t = nI c)) → (∀ t, t < R.1 0 → f1 t = h 65 t ∨ f1 t = nI c) → okT (R.1 0) x → (∀ t, M t = true → M1 t = true) → (∀ t, t < R.1 0 → M1 t = true → M t = true ∨ Rch R.2.2.1 s t) → (∀ u, x = some u → Rch R.2.2.1 s u) → Cx R.2.2.1 M1 (R.1 0) x → ((M1 = M ∧ x = s) ∨ ∀ u, s = some u → M1 u = true) → T a 0 mX10_follow 2 [(0, rv a 50), (2, .int (nI c)), (3, .int (tv x))] [] S (hs h 65 f1) (fun v S' h' => ∃ M' f, v = none ∧ S = S' ∧ hs h 65 f = h' ∧ (∀ t, t < R.1 0 → (M' t = true ↔ f t = nI c)) ∧ (∀ t, t < R.1 0 → f t = h 65 t ∨ f t = nI c) ∧ FwE R s M M' 1) := by
    intro fu
    induction fu with
    | zero => intro k x M1 f1 hu hk hM1 hO hx hA hB hC hD hD2; have := cntG_le M1 (R.1 0); omega
    | succ fu ih =>
      intro k x M1 f1 hu hk hM1 hO hx hA hB hC hD hD2
      refine tr_iload_n (pc := 2) 2 dX10_follow_2 rfl rfl ?_
      cases x with
      | none => ?_
      | some t => ?_
      · skip
        show T a 0 mX10_follow 3 [(0, rv a 50), (2, .int (nI c)), (3, .int (-1))] [.int (-1)] S (hs h 65 f1) _
        refine tr_iconst (pc := 3) (v := -1) dX10_follow_3 (by decide) ?_
        refine tr_icmp_eq (pc := 4) (tgt := 34) dX10_follow_4 (by decide) Iff.rfl (fun _ => ?_) (fun hcc => absurd (rfl) hcc)
        exact tr_vret (pc := 34) dX10_follow_34 rfl (⟨M1, f1, rfl, rfl, rfl, hM1, hO, hA, hB, Or.inr ⟨cx_none hD, fun u hu => by
              rcases hD2 with ⟨w1, w2⟩ | w2
              · rw [hu] at w2; cases w2
              · exact w2 u hu⟩⟩)
      · skip
        have ht : t < R.1 0 := hx t rfl
        show T a 0 mX10_follow 3 [(0, rv a 50), (2, .int (nI c)), (3, .int (nI t))] [.int (nI t)] S (hs h 65 f1) _
        refine tr_iconst (pc := 3) (v := -1) dX10_follow_3 (by decide) ?_
        refine tr_icmp_eq (pc := 4) (tgt := 34) dX10_follow_4 (by decide) Iff.rfl (fun hcc => absurd hcc (nI_m1 (by omega))) (fun _ => ?_)
        refine tr_aload_n (pc := 7) 0 dX10_follow_7 rfl rfl ?_
        refine tr_getR (pc := 8) (q := 65) dX10_follow_8 (hS.1 50 (13, 45) rfl) fi_X10_52 rfl (hS.2 50 26 65 rfl) ?_
        refine tr_iload_n (pc := 11) 2 dX10_follow_11 rfl rfl ?_
        refine tr_iald (pc := 12) (v := f1 t) t dX10_follow_12 (hS.1 65 (0, 4100) rfl) rfl (by omega) (by decide) (by rw [hs_same]) ?_
        refine tr_iload_n (pc := 13) 1 dX10_follow_13 rfl rfl ?_
        refine tr_icmp_eq (pc := 14) (tgt := 34) dX10_follow_14 (by decide) Iff.rfl (fun q14 => ?_) (fun q14 => ?_)
        · skip
          exact tr_vret (pc := 34) dX10_follow_34 rfl (⟨M1, f1, rfl, rfl, rfl, hM1, hO, hA, hB, Or.inr ⟨cx_seen hD ((hM1 t ht).mpr q14), fun u hu => by
                rcases hD2 with ⟨w1, w2⟩ | w2
                · rw [hu] at w2; cases w2; exact (hM1 _ ht).mpr q14
                · exact w2 u hu⟩⟩)
        · skip
          have hMt : M1 t = false := by
            cases e : M1 t with
            | false => rfl
            | true => exact absurd ((hM1 t ht).mp e) q14
          refine tr_aload_n (pc := 17) 0 dX10_follow_17 rfl rfl ?_
          refine tr_getR (pc := 18) (q := 65) dX10_follow_18 (hS.1 50 (13, 45) rfl) fi_X10_52 rfl (hS.2 50 26 65 rfl) ?_
          refine tr_iload_n (pc := 21) 2 dX10_follow_21 rfl rfl ?_
          refine tr_iload_n (pc := 22) 1 dX10_follow_22 rfl rfl ?_
          refine tr_iast (pc := 23) t dX10_follow_23 (hS.1 65 (0, 4100) rfl) rfl (by omega) (by decide) ?_
          refine tr_aload_n (pc := 24) 0 dX10_follow_24 rfl rfl ?_
          refine tr_getR (pc := 25) (q := 63) dX10_follow_25 (hS.1 50 (13, 45) rfl) fi_X10_46 rfl (hS.2 50 24 63 rfl) ?_
          refine tr_iload_n (pc := 28) 2 dX10_follow_28 rfl rfl ?_
          refine tr_iald (pc := 29) (v := tv (R.2.2.1 t)) t dX10_follow_29 (hS.1 63 (0, 4100) rfl) rfl (by omega) (by decide) (hT.2.1 t ht).2.1 ?_
          refine tr_istore_n (pc := 30) (lv' := [(3, .int (tv (R.2.2.1 t))), (0, rv a 50), (2, .int (nI c))]) dX10_follow_30 rfl (by decide) rfl ?_
          refine tr_goto (pc := 31) (tgt := 2) dX10_follow_31 (by decide) ?_
          refine tr_sub (pc := 2) (lv' := [(0, rv a 50), (2, .int (nI c)), (3, .int (tv (R.2.2.1 t)))]) [1, 2, 0] rfl ?_
          rw [mk_hs]
          exact ih (k + 1) (R.2.2.1 t) (ub M1 t) _ (by have := cntG_lt ht hMt; omega) (by rw [cntG_ub ht hMt ub_s (fun j hj => ub_n hj)]; omega) (fun j hj => by
            by_cases e : j = t
            · subst e; rw [upd_s, ub_s]; simp
            · rw [upd_n e, ub_n e]; exact hM1 j hj) (fun j hj => by
            by_cases e : j = t
            · subst e; rw [upd_s]; exact Or.inr rfl
            · rw [upd_n e]; exact hO j hj) (hW.1 t ht).2.1 (fun u hu => ub_m (hA u hu)) (fun u hu1 hu2 => by
            by_cases e : u = t
            · subst e; exact Or.inr (hC u rfl)
            · rw [ub_n e] at hu2; exact hB u hu1 hu2) (fun u hu => Rch_step (hC t rfl) hu) (cx_step hD) (Or.inr (fun u hu => by
            rcases hD2 with ⟨w1, w2⟩ | w
            · rw [hu] at w2; cases w2; exact ub_s
            · exact ub_m (w u hu)))
  have e0 : hs h 65 (h 65) = h := by funext j; by_cases e : j = 65; subst e; rw [hs_same]; rw [hs_ne e]
  have z := L2 (R.1 0 + 1) 0 s M (h 65) (by omega) (Nat.zero_le _) hM (fun t _ => Or.inl rfl) hs0 (fun _ h => h) (fun t _ h => Or.inl h) (fun u hu => by rw [hu]; exact Rch_0) hcl.cx (Or.inl ⟨rfl, rfl⟩)
  rw [e0] at z
  exact z

/-- the loop that counts leaks: heap h1 from h3, t things looked at -/
def EN (R : RS) (c : Nat) (g r : OT) (h3 h1 : Hp) (t : Nat) : Prop := h1 50 40 = nI (R.1 4 + cntG (lkB R c g r) t) ∧ (∀ s, s < 32 → h1 74 s = nI (R.2.1 3 s + cntG (fun u => lkB R c g r u && decide (R.2.1 0 u = s)) t)) ∧ (∀ k, k ≠ 40 → h1 50 k = h3 50 k) ∧ ∀ o, o ≠ 50 → o ≠ 74 → h1 o = h3 o
theorem en_0 {R : RS} {c : Nat} {g r : OT} {h : Hp} {fs : Nat} (hT : h 50 40 = nI (R.1 4)) (h2 : ∀ s, s < 32 → h 74 s = nI (R.2.1 3 s)) (hf : ∀ t, t < fs → R.2.1 1 t ≠ c) : EN R c g r h h fs := by
  have z : ∀ u, u < fs → lkB R c g r u = false := fun u hu => by unfold lkB; simp [hf u hu]
  refine ⟨?_, fun s hs => ?_, fun _ _ => rfl, fun _ _ _ => rfl⟩
  · rw [cntG_0 z]; exact hT
  · rw [cntG_0 (fun u hu => by simp [z u hu])]; exact h2 s hs
theorem en_n {R : RS} {c : Nat} {g r : OT} {h3 h1 : Hp} {t : Nat} (k : EN R c g r h3 h1 t) (q : lkB R c g r t = false) : EN R c g r h3 h1 (t + 1) := by
  obtain ⟨a1, a2, a3, a4⟩ := k
  refine ⟨?_, fun s hs => ?_, a3, a4⟩
  · simp only [cntG, q]; simpa using a1
  · simp only [cntG, q]; simpa using a2 s hs
theorem en_y {R : RS} {c : Nat} {g r : OT} {h3 h1 h2 : Hp} {t : Nat} (k : EN R c g r h3 h1 t) (q : lkB R c g r t = true) (e1 : h2 50 = upd (h1 50) 40 (nI (R.1 4 + cntG (lkB R c g r) t + 1))) (e2 : h2 74 = upd (h1 74) (R.2.1 0 t) (nI (R.2.1 3 (R.2.1 0 t) + cntG (fun u => lkB R c g r u && decide (R.2.1 0 u = R.2.1 0 t)) t + 1))) (e3 : ∀ o, o ≠ 50 → o ≠ 74 → h2 o = h1 o) : EN R c g r h3 h2 (t + 1) := by
  obtain ⟨a1, a2, a3, a4⟩ := k
  refine ⟨?_, fun s hs => ?_, fun j hj => ?_, fun j j1 j2 => ?_⟩
  · rw [e1, upd_s]; simp [cntG, q, Nat.add_assoc]
  · rw [e2]
    by_cases e : s = R.2.1 0 t
    · subst e; rw [upd_s]; simp [cntG, q, Nat.add_assoc]
    · have e' : ¬ R.2.1 0 t = s := fun z => e z.symm
      rw [upd_n e, a2 s hs]; simp [cntG, e']
  · rw [e1, upd_n hj]; exact a3 j hj
  · rw [e3 j j1 j2]; exact a4 j j1 j2
theorem mh_leak {R : RS} {c : Nat} {g r : OT} {h h3 h1 : Hp} (hT : MH h R) (k : EN R c g r h3 h1 (R.1 0)) (a1 : ∀ k, k ≠ 35 → h3 50 k = h 50 k) (a2 : ∀ o, o ≠ 50 → o ≠ 65 → h3 o = h o) : MH h1 (rLeak R c g r) := by
  obtain ⟨⟨t1, t2, t3, t4, t5, t6⟩, tt, ts⟩ := hT
  obtain ⟨k1, k2, k3, k4⟩ := k
  have s0 : (rLeak R c g r).1 0 = R.1 0 := by simp [rLeak, un]
  have s1 : (rLeak R c g r).1 1 = R.1 1 := by simp [rLeak, un]
  have s2 : (rLeak R c g r).1 2 = R.1 2 := by simp [rLeak, un]
  have s3 : (rLeak R c g r).1 3 = R.1 3 := by simp [rLeak, un]
  have s4 : (rLeak R c g r).1 4 = R.1 4 + cntG (lkB R c g r) (R.1 0) := by simp [rLeak, un]
  have b0 : (rLeak R c g r).2.1 0 = R.2.1 0 := by simp [rLeak, ua]
  have b1 : (rLeak R c g r).2.1 1 = R.2.1 1 := by simp [rLeak, ua]
  have b2 : (rLeak R c g r).2.1 2 = R.2.1 2 := by simp [rLeak, ua]
  have b3 : (rLeak R c g r).2.1 3 = fun s => R.2.1 3 s + cntG (fun t => lkB R c g r t && decide (R.2.1 0 t = s)) (R.1 0) := by simp [rLeak, ua]
  have b4 : (rLeak R c g r).2.1 4 = R.2.1 4 := by simp [rLeak, ua]
  have ff : ∀ k, k ≠ 40 → k ≠ 35 → h1 50 k = h 50 k := fun k j1 j2 => (k3 k j1).trans (a1 k j2)
  have fo : ∀ o, o ≠ 50 → o ≠ 74 → o ≠ 65 → h1 o = h o := fun o j1 j2 j3 => (k4 o j1 j2).trans (a2 o j1 j3)
  refine ⟨⟨by rw [ff 27 (by decide) (by decide), s0]; exact t1, by rw [ff 28 (by decide) (by decide)]; exact t2, by rw [ff 37 (by decide) (by decide), s1]; exact t3, by rw [ff 38 (by decide) (by decide), s2]; exact t4, by rw [ff 39 (by decide) (by decide), s3]; exact t5, by rw [s4]; exact k1⟩, fun t ht => ?_, fun s hs => ?_⟩
  · rw [s0] at ht
    rw [fo 62 (by decide) (by decide) (by decide), fo 63 (by decide) (by decide) (by decide), fo 64 (by decide) (by decide) (by decide), b0, b1]
    exact tt t ht
  · rw [fo 73 (by decide) (by decide) (by decide), fo 75 (by decide) (by decide) (by decide), b2, b3, b4]
    exact ⟨(ts s hs).1, k2 s hs, (ts s hs).2.2⟩
theorem fw_all {P : Prog} {R : RS} {g r : OT} {M0 M1 M2 M3 : Nat → Bool} (hW : WF P R) (hg : okT (R.1 0) g) (hr : okT (R.1 0) r) (z0 : ∀ t, M0 t = false) (k1 : FwE R R.2.2.2 M0 M1 1) (k2 : FwE R g M1 M2 1) (k3 : FwE R r M2 M3 1) : ∀ t, t < R.1 0 → (M3 t = true ↔ rAll R g r t) := by
  obtain ⟨a1, b1, d1⟩ := k1
  obtain ⟨a2, b2, d2⟩ := k2
  obtain ⟨a3, b3, d3⟩ := k3
  obtain ⟨cl1, o1⟩ := d1.resolve_left (by decide)
  obtain ⟨cl2, o2⟩ := d2.resolve_left (by decide)
  obtain ⟨cl3, o3⟩ := d3.resolve_left (by decide)
  have hf : ∀ t, t < R.1 0 → okT (R.1 0) (R.2.2.1 t) := fun t ht => (hW.1 t ht).2.1
  intro t ht
  constructor
  · intro h3
    rcases b3 t ht h3 with h2 | w
    · rcases b2 t ht h2 with h1 | w
      · rcases b1 t ht h1 with h0 | w
        · rw [z0] at h0; cases h0
        · exact Or.inl w
      · exact Or.inr (Or.inl w)
    · exact Or.inr (Or.inr w)
  · rintro (w | w | w)
    · exact cl_reach cl3 hf hW.2 (fun u hu => a3 u (a2 u (o1 u hu))) t w
    · exact cl_reach cl3 hf hg (fun u hu => a3 u (o2 u hu)) t w
    · exact cl_reach cl3 hf hr o3 t w
/-- behind the end of a call -/
def EndP (P : Prog) (R : RS) (D c m' i' c' : Nat) (g : OT) (g' : OT) (fs' : Nat) (E E' : Nat → OT) (h h' : Hp) : Prop := h' 50 35 = nI D ∧ h' 50 36 = h 50 36 ∧ MH h' (rLeak R c g (E 3)) ∧ (∀ t, t < R.1 0 → h' 65 t = h 65 t ∨ h' 65 t = nI c) ∧ (0 < D → FA h' (D - 1) m' (i' + 1) c' g' fs' (uo E' (gt P m' i').2.1 (E 3))) ∧ Lw (D - 1) h h' ∧ Fm mF mL h h'
theorem hd_mh {h : Hp} {R : RS} {x : Int32} (hT : MH h R) : MH (hs h 50 (upd (h 50) 35 x)) R := hT
theorem f3_mh {h : Hp} {R : RS} {f : Nat → Int32} (hT : MH h R) : MH (hs h 65 f) R := hT
set_option maxHeartbeats 4000000 in
set_option maxRecDepth 100000 in
theorem c_mend {a : Am} {S : St} {h : Hp} (hS : IsSt S) {P : Prog} (hV : VB P) (hN : NP h P) {R : RS} (hT : MH h R) (hW : WF P R) (hn : R.1 0 ≤ 4096) {D m i c fs : Nat} {g : OT} {E : Nat → OT} (hD : h 50 35 = nI (D + 1)) (hD4 : D < 4) (hF : FA h D m i c g fs E) (hc : c < 2 ^ 30) (hcR : R.1 3 < 2 ^ 30) (hfs : fs ≤ R.1 0) (hmk : ∀ t, t < fs → R.2.1 1 t ≠ c) (hg : okT (R.1 0) g) (hr : okT (R.1 0) (E 3)) (hne : ∀ t, t < R.1 0 → h 65 t ≠ nI c) {m' i' c' fs' : Nat} {g' : OT} {E' : Nat → OT} (hpar : 0 < D → i' < lnN P m' ∧ FA h (D - 1) m' (i' + 1) c' g' fs' E') : CT a 1 mX10_end [rv a 50] S h (fun v S' h' => v = none ∧ S = S' ∧ EndP P R D c m' i' c' g g' fs' E E' h h') := by
  refine met_of (by decide +kernel) (Nat.le_of_ble_eq_true rfl) ?_
  show T a 1 mX10_end 0 [(0, rv a 50)] [] S h _
  refine tr_aload_n (pc := 0) 0 dX10_end_0 rfl rfl ?_
  refine tr_dup (pc := 1) dX10_end_1 rfl ?_
  refine tr_getI (pc := 2) (x := nI (D + 1)) dX10_end_2 (hS.1 50 (13, 45) rfl) fi_X10_230 rfl hD ?_
  refine tr_iconst (pc := 5) (v := nI 1) dX10_end_5 (by decide) ?_
  refine tr_isub (pc := 6) (v := nI D) dX10_end_6 (by rw [pk_sub (by omega)]; rfl) ?_
  refine tr_putI (pc := 7) (x := nI D) dX10_end_7 (hS.1 50 (13, 45) rfl) fi_X10_230 rfl rfl rfl ?_
  refine tr_aload_n (pc := 10) 0 dX10_end_10 rfl rfl ?_
  refine tr_getR (pc := 11) (q := 69) dX10_end_11 (hS.1 50 (13, 45) rfl) fi_X10_64 rfl (hS.2 50 32 69 rfl) ?_
  refine tr_aload_n (pc := 14) 0 dX10_end_14 rfl rfl ?_
  refine tr_getI (pc := 15) (x := nI D) dX10_end_15 (hS.1 50 (13, 45) rfl) fi_X10_230 rfl rfl ?_
  refine tr_iald (pc := 18) (v := nI c) D dX10_end_18 (hS.1 69 (0, 4) rfl) rfl (by omega) (by decide) hF.1.2.2.1 ?_
  refine tr_istore_n (pc := 19) (lv' := [(1, .int (nI c)), (0, rv a 50)]) dX10_end_19 rfl (by decide) rfl ?_
  refine tr_aload_n (pc := 20) 1 dX10_end_20 rfl rfl ?_
  refine tr_getR (pc := 21) (q := 66) dX10_end_21 (hS.1 50 (13, 45) rfl) fi_X10_55 rfl (hS.2 50 29 66 rfl) ?_
  refine tr_iconst (pc := 24) (v := nI 4) dX10_end_24 (by decide) ?_
  refine tr_aload_n (pc := 25) 1 dX10_end_25 rfl rfl ?_
  refine tr_getI (pc := 26) (x := nI D) dX10_end_26 (hS.1 50 (13, 45) rfl) fi_X10_230 rfl rfl ?_
  refine tr_imul (pc := 29) (v := nI (4 * D)) dX10_end_29 (pk_mul _ _) ?_
  refine tr_iconst (pc := 30) (v := nI 3) dX10_end_30 (by decide) ?_
  refine tr_iadd (pc := 31) (v := nI (4 * D + 3)) dX10_end_31 (nI_add _ _) ?_
  refine tr_iald (pc := 32) (v := tv (E 3)) (4 * D + 3) dX10_end_32 (hS.1 66 (0, 16) rfl) rfl (by omega) (by decide) (hF.2 3 (by decide)) ?_
  refine tr_istore_n (pc := 33) (lv' := [(2, .int (tv (E 3))), (1, .int (nI c)), (0, rv a 50)]) dX10_end_33 rfl (by decide) rfl ?_
  refine tr_aload_n (pc := 34) 2 dX10_end_34 rfl rfl ?_
  refine tr_aload_n (pc := 35) 2 dX10_end_35 rfl rfl ?_
  refine tr_getI (pc := 36) (x := tv R.2.2.2) dX10_end_36 (hS.1 50 (13, 45) rfl) fi_X10_239 rfl hT.1.2.1 ?_
  refine tr_iload_n (pc := 39) 1 dX10_end_39 rfl rfl ?_
  refine tr_callV (pc := 40) (rest := []) (ci := 10) dX10_end_40 ml_X10_242 cv_X10_follow rfl rfl (Nat.le_of_ble_eq_true rfl) (hS.1 50 (13, 45) rfl) rfl (by decide) (c_mfollow hS (hd_mh hT) hW hn hc (M := fun _ => false) (fun t ht => ⟨fun z => (by cases z), fun z => absurd z (hne t ht)⟩) (fun t _ z => by cases z)  hW.2) ?_
  rintro v1 S1 hh1 ⟨M1, f1, rfl, rfl, rfl, hM1, hO1, hE1⟩
  show T a 1 mX10_end 43 [(2, .int (tv (E 3))), (1, .int (nI c)), (0, rv a 50)] [] S (hs (hs h 50 (upd (h 50) 35 (nI D))) 65 f1) _
  refine tr_aload_n (pc := 43) 2 dX10_end_43 rfl rfl ?_
  refine tr_aload_n (pc := 44) 2 dX10_end_44 rfl rfl ?_
  refine tr_getR (pc := 45) (q := 70) dX10_end_45 (hS.1 50 (13, 45) rfl) fi_X10_67 rfl (hS.2 50 33 70 rfl) ?_
  refine tr_aload_n (pc := 48) 2 dX10_end_48 rfl rfl ?_
  refine tr_getI (pc := 49) (x := nI D) dX10_end_49 (hS.1 50 (13, 45) rfl) fi_X10_230 rfl rfl ?_
  refine tr_iald (pc := 52) (v := tv g) D dX10_end_52 (hS.1 70 (0, 4) rfl) rfl (by omega) (by decide) hF.1.2.2.2.1 ?_
  refine tr_iload_n (pc := 53) 1 dX10_end_53 rfl rfl ?_
  refine tr_callV (pc := 54) (rest := []) (ci := 10) dX10_end_54 ml_X10_242 cv_X10_follow rfl rfl (Nat.le_of_ble_eq_true rfl) (hS.1 50 (13, 45) rfl) rfl (by decide) (c_mfollow hS (f3_mh (hd_mh hT)) hW hn hc (fun t ht => by rw [hs_same]; exact hM1 t ht) (hE1.2.2.resolve_left (by decide)).1 hg) ?_
  rintro v2 S2 hh2 ⟨M2, f2, rfl, rfl, rfl, hM2, hO2, hE2⟩
  show T a 1 mX10_end 57 [(2, .int (tv (E 3))), (1, .int (nI c)), (0, rv a 50)] [] S (hs (hs (hs h 50 (upd (h 50) 35 (nI D))) 65 f1) 65 f2) _
  refine tr_aload_n (pc := 57) 2 dX10_end_57 rfl rfl ?_
  refine tr_iload_n (pc := 58) 0 dX10_end_58 rfl rfl ?_
  refine tr_iload_n (pc := 59) 1 dX10_end_59 rfl rfl ?_
  refine tr_callV (pc := 60) (rest := []) (ci := 10) dX10_end_60 ml_X10_242 cv_X10_follow rfl rfl (Nat.le_of_ble_eq_true rfl) (hS.1 50 (13, 45) rfl) rfl (by decide) (c_mfollow hS (f3_mh (f3_mh (hd_mh hT))) hW hn hc (fun t ht => by rw [hs_same]; exact hM2 t ht) (hE2.2.2.resolve_left (by decide)).1 hr) ?_
  rintro v3 S3 hh3 ⟨M3, f3, rfl, rfl, rfl, hM3, hO3, hE3⟩
  show T a 1 mX10_end 63 [(2, .int (tv (E 3))), (1, .int (nI c)), (0, rv a 50)] [] S (hs (hs (hs (hs h 50 (upd (h 50) 35 (nI D))) 65 f1) 65 f2) 65 f3) _
  obtain ⟨h3, e3⟩ : ∃ X, X = (hs (hs (hs (hs h 50 (upd (h 50) 35 (nI D))) 65 f1) 65 f2) 65 f3) := ⟨_, rfl⟩
  rw [← e3]
  have e5 : ∀ k, k ≠ 35 → h3 50 k = h 50 k := fun k hk => by rw [e3, hs_ne (by decide), hs_ne (by decide), hs_ne (by decide), hs_same, upd_n hk]
  have e35 : h3 50 35 = nI D := by rw [e3]; rfl
  have e6 : ∀ o, o ≠ 50 → o ≠ 65 → h3 o = h o := fun o j1 j2 => by rw [e3, hs_ne j2, hs_ne j2, hs_ne j2, hs_ne j1]
  have e65 : h3 65 = f3 := by rw [e3, hs_same]
  have hall := fw_all hW hg hr (fun _ => rfl) hE1 hE2 hE3
  have hlk : ∀ t, t < R.1 0 → (lkB R c g (E 3) t = true ↔ R.2.1 1 t = c ∧ h3 65 t = nI c) := fun t ht => by
    rw [e65, ← hM3 t ht, hall t ht]
    unfold lkB
    simp
  refine tr_aload_n (pc := 63) 2 dX10_end_63 rfl rfl ?_
  refine tr_getR (pc := 64) (q := 71) dX10_end_64 (hS.1 50 (13, 45) rfl) fi_X10_70 rfl (hS.2 50 34 71 rfl) ?_
  refine tr_aload_n (pc := 67) 2 dX10_end_67 rfl rfl ?_
  refine tr_getI (pc := 68) (x := nI D) dX10_end_68 (hS.1 50 (13, 45) rfl) fi_X10_230 rfl e35 ?_
  refine tr_iald (pc := 71) (v := nI fs) D dX10_end_71 (hS.1 71 (0, 4) rfl) rfl (by omega) (by decide) (by rw [e6 71 (by decide) (by decide)]; exact hF.1.2.2.2.2) ?_
  refine tr_istore_n (pc := 72) (lv' := [(3, .int (nI fs)), (2, .int (tv (E 3))), (1, .int (nI c)), (0, rv a 50)]) dX10_end_72 rfl (by decide) rfl ?_
  refine tr_sub (pc := 73) (lv' := [(0, rv a 50), (1, .int (nI c)), (2, .int (tv (E 3))), (3, .int (nI fs))]) [3, 2, 1, 0] rfl ?_
  have L73 : ∀ (fu : Nat) (t : Nat) (h1 : Hp), R.1 0 - t < fu → t ≤ R.1 0 → EN R c g (E 3) h3 h1 t → T a 1 mX10_end 73 [(0, rv a 50), (1, .int (nI c)), (2, .int (tv (E 3))), (3, .int (nI t))] [] S h1 (fun v S' h' => v = none ∧ S = S' ∧ EndP P R D c m' i' c' g g' fs' E E' h h') := by
    intro fu
    induction fu with
    | zero => intro t h1 hu ht hK; omega
    | succ fu ih =>
      intro t h1 hu ht hK
      obtain ⟨k1, k2, k3, k4⟩ := id hK
      refine tr_iload_n (pc := 73) 3 dX10_end_73 rfl rfl ?_
      refine tr_aload_n (pc := 74) 0 dX10_end_74 rfl rfl ?_
      refine tr_getI (pc := 75) (x := nI (R.1 0)) dX10_end_75 (hS.1 50 (13, 45) rfl) fi_X10_236 rfl (by rw [k3 27 (by decide), e5 27 (by decide)]; exact hT.1.1) ?_
      refine tr_icmp_ge (pc := 78) (tgt := 132) dX10_end_78 (by decide) (nI_leI (by omega) (by omega)) (fun q78 => ?_) (fun q78 => ?_)
      · skip
        have hte : t = R.1 0 := by omega
        subst hte
        have hmh := mh_leak hT hK e5 e6
        have hmark : ∀ u, u < R.1 0 → h1 65 u = h 65 u ∨ h1 65 u = nI c := fun u hu => by
          rw [k4 65 (by decide) (by decide), e65]
          rcases hO3 u hu with z | z
          · rw [hs_same] at z
            rcases hO2 u hu with y | y
            · rw [hs_same] at y
              rcases hO1 u hu with x | x
              · exact Or.inl (z.trans (y.trans x))
              · exact Or.inr (z.trans (y.trans x))
            · exact Or.inr (z.trans y)
          · exact Or.inr z
        have ko : ∀ o, o ≠ 50 → o ≠ 74 → o ≠ 65 → h1 o = h o := fun o j1 j2 j3 => (k4 o j1 j2).trans (e6 o j1 j3)
        have kf : ∀ k, k ≠ 35 → k ≠ 40 → h1 50 k = h 50 k := fun k j1 j2 => (k3 k j2).trans (e5 k j1)
        have k35 : h1 50 35 = nI D := (k3 35 (by decide)).trans e35
        refine tr_aload_n (pc := 132) 0 dX10_end_132 rfl rfl ?_
        refine tr_getI (pc := 133) (x := nI D) dX10_end_133 (hS.1 50 (13, 45) rfl) fi_X10_230 rfl k35 ?_
        refine tr_if_le (pc := 136) (tgt := 189) dX10_end_136 (by decide) (nI_z_le (by omega)) (fun q136 => ?_) (fun q136 => ?_)
        · skip
          exact tr_vret (pc := 189) dX10_end_189 rfl (by
              refine ⟨rfl, rfl, k35, kf 36 (by decide) (by decide), hmh, hmark, fun z => by omega, Lw.same (ko _ (by decide) (by decide) (by decide)) (ko _ (by decide) (by decide) (by decide)) (ko _ (by decide) (by decide) (by decide)) (ko _ (by decide) (by decide) (by decide)) (ko _ (by decide) (by decide) (by decide)) (ko _ (by decide) (by decide) (by decide)), ?_⟩
              refine ⟨fun j j1 j2 => ?_, fun j j1 => ?_⟩
              · simp only [mL, List.mem_cons, List.not_mem_nil, or_false, not_or] at j2
                exact ko j j1 (by omega) (by omega)
              · simp only [mF, List.mem_cons, List.not_mem_nil, or_false, not_or] at j1
                exact kf j (by omega) (by omega))
        · skip
          obtain ⟨hi', hFp⟩ := hpar (by omega)
          have hk2 := (hV.2.2 m' i' hi').2.1
          have hN1 : NP h1 P := by unfold NP; rw [ko 51 (by decide) (by decide) (by decide)]; exact hN
          refine tr_aload_n (pc := 139) 0 dX10_end_139 rfl rfl ?_
          refine tr_getR (pc := 140) (q := 67) dX10_end_140 (hS.1 50 (13, 45) rfl) fi_X10_58 rfl (hS.2 50 30 67 rfl) ?_
          refine tr_aload_n (pc := 143) 0 dX10_end_143 rfl rfl ?_
          refine tr_getI (pc := 144) (x := nI D) dX10_end_144 (hS.1 50 (13, 45) rfl) fi_X10_230 rfl k35 ?_
          refine tr_iconst (pc := 147) (v := nI 1) dX10_end_147 (by decide) ?_
          refine tr_isub (pc := 148) (v := nI (D - 1)) dX10_end_148 (pk_sub (by omega)) ?_
          refine tr_iald (pc := 149) (v := nI m') (D - 1) dX10_end_149 (hS.1 67 (0, 4) rfl) rfl (by omega) (by decide) (by rw [ko 67 (by decide) (by decide) (by decide)]; exact hFp.1.1) ?_
          refine tr_istore_n (pc := 150) (lv' := [(3, .int (nI m')), (0, rv a 50), (1, .int (nI c)), (2, .int (tv (E 3)))]) dX10_end_150 rfl (by decide) rfl ?_
          refine tr_aload_n (pc := 151) 1 dX10_end_151 rfl rfl ?_
          refine tr_getR (pc := 152) (q := 68) dX10_end_152 (hS.1 50 (13, 45) rfl) fi_X10_61 rfl (hS.2 50 31 68 rfl) ?_
          refine tr_aload_n (pc := 155) 1 dX10_end_155 rfl rfl ?_
          refine tr_getI (pc := 156) (x := nI D) dX10_end_156 (hS.1 50 (13, 45) rfl) fi_X10_230 rfl k35 ?_
          refine tr_iconst (pc := 159) (v := nI 1) dX10_end_159 (by decide) ?_
          refine tr_isub (pc := 160) (v := nI (D - 1)) dX10_end_160 (pk_sub (by omega)) ?_
          refine tr_iald (pc := 161) (v := nI (i' + 1)) (D - 1) dX10_end_161 (hS.1 68 (0, 4) rfl) rfl (by omega) (by decide) (by rw [ko 68 (by decide) (by decide) (by decide)]; exact hFp.1.2.1) ?_
          refine tr_iconst (pc := 162) (v := nI 1) dX10_end_162 (by decide) ?_
          refine tr_isub (pc := 163) (v := nI i') dX10_end_163 (by rw [pk_sub (by omega)]; rfl) ?_
          refine tr_istore (pc := 164) (lv' := [(4, .int (nI i')), (3, .int (nI m')), (0, rv a 50), (1, .int (nI c)), (2, .int (tv (E 3)))]) dX10_end_164 (by decide) rfl ?_
          refine tr_aload_n (pc := 166) 2 dX10_end_166 rfl rfl ?_
          refine tr_getR (pc := 167) (q := 66) dX10_end_167 (hS.1 50 (13, 45) rfl) fi_X10_55 rfl (hS.2 50 29 66 rfl) ?_
          refine tr_iconst (pc := 170) (v := nI 4) dX10_end_170 (by decide) ?_
          refine tr_aload_n (pc := 171) 2 dX10_end_171 rfl rfl ?_
          refine tr_getI (pc := 172) (x := nI D) dX10_end_172 (hS.1 50 (13, 45) rfl) fi_X10_230 rfl k35 ?_
          refine tr_imul (pc := 175) (v := nI (4 * D)) dX10_end_175 (pk_mul _ _) ?_
          refine tr_iconst (pc := 176) (v := nI 4) dX10_end_176 (by decide) ?_
          refine tr_isub (pc := 177) (v := nI ((4 * D) - 4)) dX10_end_177 (pk_sub (by omega)) ?_
          refine tr_aload_n (pc := 178) 2 dX10_end_178 rfl rfl ?_
          refine tr_iload_n (pc := 179) 1 dX10_end_179 rfl rfl ?_
          refine tr_iload (pc := 180) 0 dX10_end_180 rfl ?_
          refine tr_iconst (pc := 182) (v := nI 1) dX10_end_182 (by decide) ?_
          refine tr_callV (pc := 183) (rest := [.int (nI ((4 * D) - 4)), rv a 66]) (ci := 10) dX10_end_183 ml_X10_178 cv_X10_lineAt rfl rfl (Nat.le_of_ble_eq_true rfl) (hS.1 50 (13, 45) rfl) rfl (by decide) (c_mline hS hV hN1 hi' (show 1 < 4 by decide)) ?_
          rintro _ _ _ ⟨rfl, rfl, rfl⟩
          show T a 1 mX10_end 186 [(4, .int (nI i')), (3, .int (nI m')), (0, rv a 50), (1, .int (nI c)), (2, .int (tv (E 3)))] [.int (nI ((gt P m' i').2.1)), .int (nI ((4 * D) - 4)), rv a 66] S h1 _
          refine tr_iadd (pc := 186) (v := nI ((4 * D) - 4 + ((gt P m' i').2.1))) dX10_end_186 (nI_add _ _) ?_
          refine tr_iload_n (pc := 187) 4 dX10_end_187 rfl rfl ?_
          refine tr_iast (pc := 188) ((4 * D) - 4 + ((gt P m' i').2.1)) dX10_end_188 (hS.1 66 (0, 16) rfl) rfl (by omega) (by decide) ?_
          exact tr_vret (pc := 189) dX10_end_189 rfl (by
              refine ⟨rfl, rfl, k35, kf 36 (by decide) (by decide), hmh, hmark, fun z => ⟨?_, fun x hx => ?_⟩, ⟨fun j hj => ?_, fun j hj => ?_⟩, ?_⟩
              · rw [hs_ne (by decide), hs_ne (by decide), hs_ne (by decide), hs_ne (by decide), hs_ne (by decide), ko 67 (by decide) (by decide) (by decide), ko 68 (by decide) (by decide) (by decide), ko 69 (by decide) (by decide) (by decide), ko 70 (by decide) (by decide) (by decide), ko 71 (by decide) (by decide) (by decide)]
                exact hFp.1
              · rw [hs_same]
                by_cases e : x = (gt P m' i').2.1
                · subst e; rw [show 4 * (D - 1) + (gt P m' i').2.1 = 4 * D - 4 + (gt P m' i').2.1 by omega, upd_s, uo_s]
                · rw [upd_n (by omega), uo_n e, ko 66 (by decide) (by decide) (by decide)]; exact hFp.2 x hx
              · rw [hs_ne (by decide), hs_ne (by decide), hs_ne (by decide), hs_ne (by decide), hs_ne (by decide), ko 67 (by decide) (by decide) (by decide), ko 68 (by decide) (by decide) (by decide), ko 69 (by decide) (by decide) (by decide), ko 70 (by decide) (by decide) (by decide), ko 71 (by decide) (by decide) (by decide)]
                exact ⟨rfl, rfl, rfl, rfl, rfl⟩
              · rw [hs_same, upd_n (by omega), ko 66 (by decide) (by decide) (by decide)]
              · refine ⟨fun j j1 j2 => ?_, fun j j1 => ?_⟩
                · simp only [mL, List.mem_cons, List.not_mem_nil, or_false, not_or] at j2
                  rw [hs_ne (by omega)]
                  exact ko j j1 (by omega) (by omega)
                · simp only [mF, List.mem_cons, List.not_mem_nil, or_false, not_or] at j1
                  rw [hs_ne (by decide)]
                  exact kf j (by omega) (by omega))
      · skip
        have htl : t < R.1 0 := by omega
        have hw := hW.1 t htl
        have hns := nSt_le hV
        refine tr_aload_n (pc := 81) 0 dX10_end_81 rfl rfl ?_
        refine tr_getR (pc := 82) (q := 64) dX10_end_82 (hS.1 50 (13, 45) rfl) fi_X10_49 rfl (hS.2 50 25 64 rfl) ?_
        refine tr_iload_n (pc := 85) 3 dX10_end_85 rfl rfl ?_
        refine tr_iald (pc := 86) (v := nI (R.2.1 1 t)) t dX10_end_86 (hS.1 64 (0, 4100) rfl) rfl (by omega) (by decide) (by rw [k4 64 (by decide) (by decide), e6 64 (by decide) (by decide)]; exact (hT.2.1 t htl).2.2) ?_
        refine tr_iload_n (pc := 87) 1 dX10_end_87 rfl rfl ?_
        refine tr_icmp_ne (pc := 88) (tgt := 126) dX10_end_88 (by decide) (nI_eq (by omega) (by omega)) (fun q88 => ?_) (fun q88 => ?_)
        · skip
          refine tr_iinc (pc := 126) (v := nI (t + 1)) (lv' := [(3, .int (nI (t + 1))), (0, rv a 50), (1, .int (nI c)), (2, .int (tv (E 3)))]) 3 dX10_end_126 rfl (by rw [show Int32.ofInt 1 = nI 1 from by decide, nI_add]) (by decide) rfl ?_
          refine tr_goto (pc := 129) (tgt := 73) dX10_end_129 (by decide) ?_
          refine tr_sub (pc := 73) (lv' := [(0, rv a 50), (1, .int (nI c)), (2, .int (tv (E 3))), (3, .int (nI (t + 1)))]) [1, 2, 3, 0] rfl ?_
          exact ih (t + 1) h1 (by omega) (by omega) (en_n hK (by unfold lkB; simp [q88]))
        · skip
          refine tr_aload_n (pc := 91) 0 dX10_end_91 rfl rfl ?_
          refine tr_getR (pc := 92) (q := 65) dX10_end_92 (hS.1 50 (13, 45) rfl) fi_X10_52 rfl (hS.2 50 26 65 rfl) ?_
          refine tr_iload_n (pc := 95) 3 dX10_end_95 rfl rfl ?_
          refine tr_iald (pc := 96) (v := h1 65 t) t dX10_end_96 (hS.1 65 (0, 4100) rfl) rfl (by omega) (by decide) rfl ?_
          refine tr_iload_n (pc := 97) 1 dX10_end_97 rfl rfl ?_
          refine tr_icmp_ne (pc := 98) (tgt := 126) dX10_end_98 (by decide) Iff.rfl (fun q98 => ?_) (fun q98 => ?_)
          · skip
            refine tr_iinc (pc := 126) (v := nI (t + 1)) (lv' := [(3, .int (nI (t + 1))), (0, rv a 50), (1, .int (nI c)), (2, .int (tv (E 3)))]) 3 dX10_end_126 rfl (by rw [show Int32.ofInt 1 = nI 1 from by decide, nI_add]) (by decide) rfl ?_
            refine tr_goto (pc := 129) (tgt := 73) dX10_end_129 (by decide) ?_
            refine tr_sub (pc := 73) (lv' := [(0, rv a 50), (1, .int (nI c)), (2, .int (tv (E 3))), (3, .int (nI (t + 1)))]) [1, 2, 3, 0] rfl ?_
            exact ih (t + 1) h1 (by omega) (by omega) (en_n hK (by
              rw [k4 65 (by decide) (by decide)] at q98
              cases z : lkB R c g (E 3) t with
              | false => rfl
              | true => exact absurd ((hlk t htl).mp z).2 q98))
          · skip
            refine tr_aload_n (pc := 101) 0 dX10_end_101 rfl rfl ?_
            refine tr_dup (pc := 102) dX10_end_102 rfl ?_
            refine tr_getI (pc := 103) (x := nI (R.1 4 + cntG (lkB R c g (E 3)) t)) dX10_end_103 (hS.1 50 (13, 45) rfl) fi_X10_245 rfl k1 ?_
            refine tr_iconst (pc := 106) (v := nI 1) dX10_end_106 (by decide) ?_
            refine tr_iadd (pc := 107) (v := nI (R.1 4 + cntG (lkB R c g (E 3)) t + 1)) dX10_end_107 (nI_add _ _) ?_
            refine tr_putI (pc := 108) (x := nI (R.1 4 + cntG (lkB R c g (E 3)) t + 1)) dX10_end_108 (hS.1 50 (13, 45) rfl) fi_X10_245 rfl rfl rfl ?_
            refine tr_aload_n (pc := 111) 0 dX10_end_111 rfl rfl ?_
            refine tr_getR (pc := 112) (q := 74) dX10_end_112 (hS.1 50 (13, 45) rfl) fi_X10_79 rfl (hS.2 50 43 74 rfl) ?_
            refine tr_aload_n (pc := 115) 0 dX10_end_115 rfl rfl ?_
            refine tr_getR (pc := 116) (q := 62) dX10_end_116 (hS.1 50 (13, 45) rfl) fi_X10_43 rfl (hS.2 50 23 62 rfl) ?_
            refine tr_iload_n (pc := 119) 3 dX10_end_119 rfl rfl ?_
            refine tr_iald (pc := 120) (v := nI (R.2.1 0 t)) t dX10_end_120 (hS.1 62 (0, 4100) rfl) rfl (by omega) (by decide) (by rw [hs_ne (by decide), k4 62 (by decide) (by decide), e6 62 (by decide) (by decide)]; exact (hT.2.1 t htl).1) ?_
            refine tr_dup2 (pc := 121) dX10_end_121 rfl rfl ?_
            refine tr_iald (pc := 122) (v := nI (R.2.1 3 (R.2.1 0 t) + cntG (fun u => lkB R c g (E 3) u && decide (R.2.1 0 u = R.2.1 0 t)) t)) (R.2.1 0 t) dX10_end_122 (hS.1 74 (0, 32) rfl) rfl (by omega) (by decide) (by rw [hs_ne (by decide)]; exact k2 _ (by omega)) ?_
            refine tr_iconst (pc := 123) (v := nI 1) dX10_end_123 (by decide) ?_
            refine tr_iadd (pc := 124) (v := nI (R.2.1 3 (R.2.1 0 t) + cntG (fun u => lkB R c g (E 3) u && decide (R.2.1 0 u = R.2.1 0 t)) t + 1)) dX10_end_124 (nI_add _ _) ?_
            refine tr_iast (pc := 125) (R.2.1 0 t) dX10_end_125 (hS.1 74 (0, 32) rfl) rfl (by omega) (by decide) ?_
            refine tr_iinc (pc := 126) (v := nI (t + 1)) (lv' := [(3, .int (nI (t + 1))), (0, rv a 50), (1, .int (nI c)), (2, .int (tv (E 3)))]) 3 dX10_end_126 rfl (by rw [show Int32.ofInt 1 = nI 1 from by decide, nI_add]) (by decide) rfl ?_
            refine tr_goto (pc := 129) (tgt := 73) dX10_end_129 (by decide) ?_
            refine tr_sub (pc := 73) (lv' := [(0, rv a 50), (1, .int (nI c)), (2, .int (tv (E 3))), (3, .int (nI (t + 1)))]) [1, 2, 3, 0] rfl ?_
            exact ih (t + 1) _ (by omega) (by omega) (en_y hK (by rw [hlk t htl]; rw [k4 65 (by decide) (by decide)] at q98; exact ⟨q88, q98⟩) rfl rfl (fun o j1 j2 => by rw [hs_ne j2, hs_ne j1]))
  exact L73 (R.1 0 + 1) fs h3 (by omega) hfs (en_0 (by rw [e5 40 (by decide)]; exact hT.1.2.2.2.2.2) (fun s hs => by rw [e6 74 (by decide) (by decide)]; exact (hT.2.2 s hs).2.1) hmk)
