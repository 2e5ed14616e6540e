/-! ===== a call, in the class ===== -/
def NR (h : Hp) (m : Nat) (E : Nat → OT) : Prop := ∀ x, x < 4 → h 42 (m * 4 + x) = tv (E x)
/-- what is seen: as it was, or new, or of a call from c0 on -/
def SnK (c0 : Nat) (R R' : RS) (f f' : Nat → Int32) : Prop := R.1 0 ≤ R'.1 0 ∧ R.1 3 ≤ R'.1 3 ∧ ∀ t, t < R'.1 0 → (t < R.1 0 ∧ f' t = f t) ∨ f' t = nI 0 ∨ ∃ e, c0 ≤ e ∧ e < R'.1 3 ∧ f' t = nI (e + 1)
theorem SnK.rf {c0 : Nat} {R : RS} {f : Nat → Int32} : SnK c0 R R f f := ⟨Nat.le_refl _, Nat.le_refl _, fun t ht => Or.inl ⟨ht, rfl⟩⟩
theorem SnK.same {c0 : Nat} {R R' : RS} {f f' : Nat → Int32} (h0 : R'.1 0 = R.1 0) (h1 : R.1 3 ≤ R'.1 3) (hf : ∀ t, t < R.1 0 → f' t = f t) : SnK c0 R R' f f' := ⟨by omega, h1, fun t ht => Or.inl ⟨by omega, hf t (by omega)⟩⟩
theorem SnK.trans {c0 : Nat} {R R1 R2 : RS} {f f1 f2 : Nat → Int32} (h1 : SnK c0 R R1 f f1) (h2 : SnK c0 R1 R2 f1 f2) : SnK c0 R R2 f f2 := by
  obtain ⟨a1, a2, a3⟩ := h1
  obtain ⟨b1, b2, b3⟩ := h2
  refine ⟨by omega, by omega, fun t ht => ?_⟩
  rcases b3 t ht with ⟨w1, w2⟩ | w | w
  · rcases a3 t w1 with ⟨v1, v2⟩ | v | ⟨e, v1, v2, v3⟩
    · exact Or.inl ⟨v1, w2.trans v2⟩
    · exact Or.inr (Or.inl (w2.trans v))
    · exact Or.inr (Or.inr ⟨e, v1, by omega, w2.trans v3⟩)
  · exact Or.inr (Or.inl w)
  · exact Or.inr (Or.inr w)
theorem SnK.mono {c0 c1 : Nat} {R R' : RS} {f f' : Nat → Int32} (h : SnK c1 R R' f f') (hc : c0 ≤ c1) : SnK c0 R R' f f' := ⟨h.1, h.2.1, fun t ht => (h.2.2 t ht).imp id (fun w => w.imp id (fun ⟨e, v1, v2, v3⟩ => ⟨e, by omega, v2, v3⟩))⟩
theorem SnK.ne {c0 c : Nat} {R R' : RS} {f f' : Nat → Int32} (h : SnK c0 R R' f f') (hc : c < c0) (hb : R'.1 3 < 2 ^ 30) (hc2 : c < 2 ^ 30) (hs : ∀ t, t < R.1 0 → f t ≠ nI (c + 1)) : ∀ t, t < R'.1 0 → f' t ≠ nI (c + 1) := by
  intro t ht
  rcases h.2.2 t ht with ⟨w1, w2⟩ | w | ⟨e, v1, v2, v3⟩
  · rw [w2]; exact hs t w1
  · rw [w]; intro z; rw [nI_eq (by omega) (by omega)] at z; omega
  · rw [v3]; intro z; rw [nI_eq (by omega) (by omega)] at z; omega
def SnB (R : RS) (f : Nat → Int32) : Prop := ∀ t, t < R.1 0 → ∃ e, e ≤ R.1 3 ∧ f t = nI e
theorem SnB.nx {c0 : Nat} {R R' : RS} {f f' : Nat → Int32} (h : SnB R f) (k : SnK c0 R R' f f') : SnB R' f' := by
  intro t ht
  rcases k.2.2 t ht with ⟨w1, w2⟩ | w | ⟨e, v1, v2, v3⟩
  · obtain ⟨e, e1, e2⟩ := h t w1
    exact ⟨e, Nat.le_trans e1 k.2.1, w2.trans e2⟩
  · exact ⟨0, Nat.zero_le _, w⟩
  · exact ⟨e + 1, v2, v3⟩
theorem SnB.ne {R : RS} {f : Nat → Int32} (h : SnB R f) (hb : R.1 3 < 2 ^ 30) : ∀ t, t < R.1 0 → f t ≠ nI (R.1 3 + 1) := by
  intro t ht z
  obtain ⟨e, e1, e2⟩ := h t ht
  rw [e2, nI_eq (by omega) (by omega)] at z
  omega
/-- behind a line or a call: the cells hold R', the rows of names ahead of place b are as they were -/
def AfC (S : St) (h : Hp) (q : Nat) (R : RS) (b c0 : Nat) (R' : RS) (f : Bool) (S' : St) (h' : Hp) : Prop := ∃ q' cap', TQ S' q' cap' ∧ R'.1 0 ≤ cap' ∧ TH h' q' R' f ∧ Sg S S' ∧ (∀ j, j < b → h' 42 j = h 42 j) ∧ SnK c0 R R' (h (q + 3)) (h' (q' + 3)) ∧ Ft h h'
def CSpec (a : Am) (k : Nat) : Prop := ∀ (S : St) (h : Hp) (q cap : Nat) (P : Prog) (m : Nat) (g : OT) (R : RS), IsSt S → VP P → MP h 3 P → Fnd h P → TQ S q cap → TH h q R false → WF P R → R.1 0 ≤ cap → okT (R.1 0) g → m < P.length → 4 ≤ m + k → R.1 0 + 8 ^ k ≤ 4096 → R.1 3 + cB k ≤ 1000000 → SnB R (h (q + 3)) →
  CT a (3 * k + 4) mX8_callMethod [rv a 41, .int (nI m), .int (tv g)] S h (fun v S' h' => (∃ w, v = some (.int w) ∧ ((exM P k m g R).2.2 = false → w = tv (exM P k m g R).2.1)) ∧ AfC S h q R (m * 4) (R.1 3) (exM P k m g R).1 (exM P k m g R).2.2 S' h')
theorem nr_set {h : Hp} {m x : Nat} {E : Nat → OT} {v : OT} (hN : NR h m E) (hx : x < 4) : NR (hs h 42 (upd (h 42) (m * 4 + x) (tv v))) m (uo E x v) := by
  intro y hy
  rw [hs_same]
  by_cases e : y = x
  · subst e; rw [upd_s, uo_s]
  · rw [upd_n (by omega), uo_n e]; exact hN y hy
theorem th_42 {h : Hp} {q : Nat} {R : RS} {f : Bool} {g : Nat → Int32} (hT : TH h q R f) (hq : q = 43 ∨ 76 ≤ q) : TH (hs h 42 g) q R f := by
  unfold TH
  rw [hs_ne (by decide), hs_ne (by omega), hs_ne (by omega), hs_ne (by omega), hs_ne (by decide), hs_ne (by decide), hs_ne (by decide)]
  exact hT
/-- a name is set, nothing else -/
theorem af_name {S : St} {h : Hp} {q cap m x c0 : Nat} {R : RS} {f : Bool} {v : Int32} (hQ : TQ S q cap) (hn : R.1 0 ≤ cap) (hT : TH h q R f) : AfC S h q R (m * 4) c0 R f S (hs h 42 (upd (h 42) (m * 4 + x) v)) := by
  have hq := hQ.2.2.1
  exact ⟨q, cap, hQ, hn, th_42 hT hq, Sg.rf, fun j hj => by rw [hs_same, upd_n (by omega)], by rw [hs_ne (by omega)]; exact SnK.rf, Ft.rf.set (Or.inl (by decide))⟩
theorem af_rf {S : St} {h : Hp} {q cap b c0 : Nat} {R : RS} {f : Bool} (hQ : TQ S q cap) (hn : R.1 0 ≤ cap) (hT : TH h q R f) : AfC S h q R b c0 R f S h := ⟨q, cap, hQ, hn, hT, Sg.rf, fun _ _ => rfl, SnK.rf, Ft.rf⟩
theorem th_fail {h : Hp} {q : Nat} {R : RS} (hT : TH h q R false) (hq : q = 43 ∨ 76 ≤ q) : TH (hs h 41 (upd (h 41) 9 (nI 1))) q R true := by
  obtain ⟨⟨t9, t10, t11, t12, t13, t14, t4⟩, tt, ts⟩ := hT
  unfold TH
  rw [hs_same, hs_ne (by omega), hs_ne (by omega), hs_ne (by omega), hs_ne (by decide), hs_ne (by decide), hs_ne (by decide)]
  exact ⟨⟨upd_s, t10, t11, t12, t13, t14, t4⟩, tt, ts⟩
theorem af_fail {S : St} {h : Hp} {q cap b c0 : Nat} {R : RS} (hQ : TQ S q cap) (hn : R.1 0 ≤ cap) (hT : TH h q R false) : AfC S h q R b c0 R true S (hs h 41 (upd (h 41) 9 (nI 1))) := by
  have hq := hQ.2.2.1
  exact ⟨q, cap, hQ, hn, th_fail hT hq, Sg.rf, fun j _ => by rw [hs_ne (by decide)], by rw [hs_ne (by omega)]; exact SnK.rf, Ft.rf.set (Or.inl (by decide))⟩
theorem af_put {S : St} {h : Hp} {q cap b c0 t : Nat} {R : RS} {v : OT} (hQ : TQ S q cap) (hn : R.1 0 ≤ cap) (hT : TH h q R false) : AfC S h q R b c0 (rSetF R t v) false S (hs h (q + 1) (upd (h (q + 1)) t (tv v))) := by
  have hq := hQ.2.2.1
  obtain ⟨t1, tt, ts⟩ := hT
  refine ⟨q, cap, hQ, hn, ?_, Sg.rf, fun j _ => by rw [hs_ne (by omega)], by rw [hs_ne (by omega)]; exact SnK.same rfl (Nat.le_refl _) (fun _ _ => rfl), Ft.rf.set (tl_q hq (by decide))⟩
  unfold TH
  rw [hs_ne (show 41 ≠ q + 1 by omega), hs_ne (show q ≠ q + 1 by omega), hs_same, hs_ne (show q + 2 ≠ q + 1 by omega), hs_ne (show 47 ≠ q + 1 by omega), hs_ne (show 48 ≠ q + 1 by omega), hs_ne (show 49 ≠ q + 1 by omega)]
  refine ⟨t1, fun u hu => ?_, ts⟩
  obtain ⟨a1, a2, a3⟩ := tt u hu
  refine ⟨a1, ?_, a3⟩
  show upd _ _ _ u = tv (uo R.2.2.1 t v u)
  by_cases e : u = t
  · subst e; rw [upd_s, uo_s]
  · rw [upd_n e, uo_n e]; exact a2
theorem af_open {S : St} {h : Hp} {q cap b c0 : Nat} {R : RS} {v : OT} (hQ : TQ S q cap) (hn : R.1 0 ≤ cap) (hT : TH h q R false) : AfC S h q R b c0 (rOpen R v) false S (hs h 41 (upd (h 41) 4 (tv v))) := by
  have hq := hQ.2.2.1
  obtain ⟨⟨t9, t10, t11, t12, t13, t14, t4⟩, tt, ts⟩ := hT
  refine ⟨q, cap, hQ, hn, ?_, Sg.rf, fun j _ => by rw [hs_ne (by decide)], by rw [hs_ne (by omega)]; exact SnK.same rfl (Nat.le_refl _) (fun _ _ => rfl), Ft.rf.set (Or.inl (by decide))⟩
  unfold TH
  rw [hs_same, hs_ne (show q ≠ 41 by omega), hs_ne (show q + 1 ≠ 41 by omega), hs_ne (show q + 2 ≠ 41 by omega), hs_ne (by decide), hs_ne (by decide), hs_ne (by decide)]
  exact ⟨⟨t9, t10, t11, t12, t13, t14, upd_s⟩, tt, ts⟩
theorem idle_v (x : Int32) {i : Nat} (hi : i < 32) : x >>> (nI i &&& 31) &&& nI 1 = nI (if tb x i = true then 1 else 0) := by
  have h1 := shr_one x hi
  by_cases q : x.toBitVec.getLsbD i = true
  · rw [if_pos q] at h1
    rw [h1, tb_t h1]; rfl
  · rw [if_neg q] at h1
    have : tb x i = false := tb_f (by rw [h1]; decide)
    rw [h1, this]; rfl
theorem af_lock {S : St} {h : Hp} {q cap bb c0 t b : Nat} {R : RS} (hQ : TQ S q cap) (hn : R.1 0 ≤ cap) (hT : TH h q R false) (hs0 : R.2.1 0 t < 32) : AfC S h q R bb c0 (rLock R t b) false S (hs (hs (hs h 41 (upd (h 41) 11 (h 41 11 + nI 1))) 41 (upd (upd (h 41) 11 (h 41 11 + nI 1)) 12 (h 41 12 + nI b))) 49 (upd (h 49) (R.2.1 0 t) (h 49 (R.2.1 0 t) + nI 1))) := by
  have hq := hQ.2.2.1
  obtain ⟨⟨t9, t10, t11, t12, t13, t14, t4⟩, tt, ts⟩ := hT
  have s0 : (rLock R t b).1 0 = R.1 0 := by simp [rLock, un]
  have s1 : (rLock R t b).1 1 = R.1 1 + 1 := by simp [rLock, un]
  have s2 : (rLock R t b).1 2 = R.1 2 + b := by simp [rLock, un]
  have s3 : (rLock R t b).1 3 = R.1 3 := by simp [rLock, un]
  have s4 : (rLock R t b).1 4 = R.1 4 := by simp [rLock, un]
  have a0 : (rLock R t b).2.1 0 = R.2.1 0 := by simp [rLock, ua]
  have a1 : (rLock R t b).2.1 1 = R.2.1 1 := by simp [rLock, ua]
  have a2 : (rLock R t b).2.1 2 = R.2.1 2 := by simp [rLock, ua]
  have a3 : (rLock R t b).2.1 3 = R.2.1 3 := by simp [rLock, ua]
  have a4 : (rLock R t b).2.1 4 = un (R.2.1 4) (R.2.1 0 t) (R.2.1 4 (R.2.1 0 t) + 1) := by simp [rLock, ua]
  refine ⟨q, cap, hQ, by rw [s0]; exact hn, ?_, Sg.rf, fun j _ => by rw [hs_ne (by decide), hs_ne (by decide), hs_ne (by decide)], by rw [hs_ne (by omega), hs_ne (by omega), hs_ne (by omega)]; exact SnK.same s0 (by rw [s3]; exact Nat.le_refl _) (fun _ _ => rfl), ((Ft.rf.set (Or.inl (by decide))).set (Or.inl (by decide))).set (Or.inl (by decide))⟩
  unfold TH
  rw [s0, s1, s2, s3, s4, a0, a1, a2, a3, a4]
  rw [hs_ne (show 41 ≠ 49 by decide), hs_same, hs_ne (show q ≠ 49 by omega), hs_ne (show q ≠ 41 by omega), hs_ne (show q ≠ 41 by omega), hs_ne (show q + 1 ≠ 49 by omega), hs_ne (show q + 1 ≠ 41 by omega), hs_ne (show q + 1 ≠ 41 by omega), hs_ne (show q + 2 ≠ 49 by omega), hs_ne (show q + 2 ≠ 41 by omega), hs_ne (show q + 2 ≠ 41 by omega), hs_ne (show 47 ≠ 49 by decide), hs_ne (show 47 ≠ 41 by decide), hs_ne (show 47 ≠ 41 by decide), hs_ne (show 48 ≠ 49 by decide), hs_ne (show 48 ≠ 41 by decide), hs_ne (show 48 ≠ 41 by decide), hs_same]
  refine ⟨⟨t9, t10, ?_, ?_, t13, t14, t4⟩, tt, fun s hs => ⟨(ts s hs).1, (ts s hs).2.1, ?_⟩⟩
  · rw [upd_n (by decide), upd_s, t11, nI_add]
  · rw [upd_s, t12, nI_add]
  · by_cases e : s = R.2.1 0 t
    · subst e; rw [upd_s, un_s, (ts _ hs).2.2, nI_add]
    · rw [upd_n e, un_n e]; exact (ts s hs).2.2
theorem af_trans {S S1 S2 : St} {h h1 h2 : Hp} {q b c0 : Nat} {R R1 R2 : RS} {f1 f2 : Bool} (k1 : AfC S h q R b c0 R1 f1 S1 h1) (k2 : ∀ q1 cap1, TQ S1 q1 cap1 → R1.1 0 ≤ cap1 → TH h1 q1 R1 f1 → AfC S1 h1 q1 R1 b c0 R2 f2 S2 h2) : AfC S h q R b c0 R2 f2 S2 h2 := by
  obtain ⟨q1, cap1, a1, a2, a3, a4, a5, a6, a7⟩ := k1
  obtain ⟨q2, cap2, b1, b2, b3, b4, b5, b6, b7⟩ := k2 q1 cap1 a1 a2 a3
  exact ⟨q2, cap2, b1, b2, b3, a4.trans b4, fun j hj => (b5 j hj).trans (a5 j hj), a6.trans b6, a7.trans b7⟩
theorem AfC.mono {S S' : St} {h h' : Hp} {q b b' c0 c1 : Nat} {R R' : RS} {f : Bool} (k : AfC S h q R b c0 R' f S' h') (hb : b' ≤ b) (hc : c1 ≤ c0) : AfC S h q R b' c1 R' f S' h' := by
  obtain ⟨q1, cap1, a1, a2, a3, a4, a5, a6, a7⟩ := k
  exact ⟨q1, cap1, a1, a2, a3, a4, fun j hj => a5 j (by omega), a6.mono hc, a7⟩
theorem doL_c {cal : Nat → OT → RS → CR} {P : Prog} {m c i : Nat} {R : RS} {E : Nat → OT} (q : (gt P m i).1 = 7) : doL cal P m c i R E = ((cal (gt P m i).2.2.2 (E (gt P m i).2.2.1) R).1, uo E (gt P m i).2.1 (cal (gt P m i).2.2.2 (E (gt P m i).2.2.1) R).2.1, (cal (gt P m i).2.2.2 (E (gt P m i).2.2.1) R).2.2) := by
  unfold doL
  rw [q]
  rfl
set_option maxHeartbeats 4000000 in
set_option maxRecDepth 100000 in
theorem c_callFrom {a : Am} {S : St} {h : Hp} (hS : IsSt S) {k : Nat} (hK : CSpec a k) {P : Prog} (hVP : VP P) (hMP : MP h 3 P) (hFn : Fnd h P) {q cap : Nat} (hQ : TQ S q cap) {R : RS} (hT : TH h q R false) (hW : WF P R) (hn : R.1 0 ≤ cap) {m i : Nat} (hi : i < lnN P m) (hmk : 4 ≤ m + (k + 1)) {E : Nat → OT} (hE : WE R E) (hNR : NR h m E) (hb1 : R.1 0 + 8 ^ k ≤ 4096) (hb2 : R.1 3 + cB k ≤ 1000000) {c : Nat} (hc : c < R.1 3) (hsn : SnB R (h (q + 3))) (hs7 : (gt P m i).1 = 7) : CT a (3 * k + 5) mX8_callFrom [rv a 41, .int (nI m), .int (nI i), .int (tv (E (gt P m i).2.2.1))] S h (fun v S' h' => v = none ∧ AfC S h q R (m * 4) (c + 1) (doL (exM P k) P m c i R E).1 (doL (exM P k) P m c i R E).2.2 S' h' ∧ ((doL (exM P k) P m c i R E).2.2 = false → NR h' m (doL (exM P k) P m c i R E).2.1)) := by
  obtain ⟨⟨r5, r6, r7, r8⟩, ⟨z0, z1, z2, z3⟩, hq, hc1, hc2, hlev⟩ := id hQ
  obtain ⟨hV, hVC⟩ := id hVP
  obtain ⟨hV1, hV2, hV3⟩ := id hV
  have hm := lnN_lt hi
  have hok := hV3 m i hi
  obtain ⟨k1, k2, k3, k4⟩ := id hok
  have h8 := hV2 m
  have hO := mo_3 hS
  refine met_of (by decide +kernel) (Nat.le_of_ble_eq_true rfl) ?_
  show T a (3 * k + 5) mX8_callFrom 0 [(0, rv a 41), (1, .int (nI m)), (2, .int (nI i)), (3, .int (tv (E (gt P m i).2.2.1)))] [] S h _
  refine tr_aload_n (pc := 0) 0 dX8_callFrom_0 rfl rfl ?_
  refine tr_getR (pc := 1) (q := 3) dX8_callFrom_1 (hS.1 41 (11, 18) rfl) fi_X8_40 rfl (hS.2 41 0 3 rfl) ?_
  refine tr_iload_n (pc := 4) 1 dX8_callFrom_4 rfl rfl ?_
  refine tr_iload_n (pc := 5) 2 dX8_callFrom_5 rfl rfl ?_
  refine tr_callV (pc := 6) (rest := []) (ci := 2) dX8_callFrom_6 ml_X8_147 cv_X2_callee rfl rfl (Nat.le_of_ble_eq_true rfl) (hS.1 3 (5, 3) rfl) rfl (by omega) (c_callee hO hMP hV hi) ?_
  rintro _ _ _ ⟨rfl, rfl, rfl⟩
  show T a (3 * k + 5) mX8_callFrom 9 [(0, rv a 41), (1, .int (nI m)), (2, .int (nI i)), (3, .int (tv (E (gt P m i).2.2.1)))] [.int (nI ((gt P m i).2.2.2))] S h _
  refine tr_istore (pc := 9) (lv' := [(4, .int (nI ((gt P m i).2.2.2))), (0, rv a 41), (1, .int (nI m)), (2, .int (nI i)), (3, .int (tv (E (gt P m i).2.2.1)))]) dX8_callFrom_9 (by decide) rfl ?_
  refine tr_iload (pc := 11) 0 dX8_callFrom_11 rfl ?_
  refine tr_iload_n (pc := 13) 2 dX8_callFrom_13 rfl rfl ?_
  obtain ⟨hcm, hcl⟩ := hVC m i hi hs7
  refine tr_icmp_le (pc := 14) (tgt := 38) dX8_callFrom_14 (by decide) (nI_leI (by omega) (by omega)) (fun hcc => absurd hcc (by omega)) (fun _ => ?_)
  refine tr_aload_n (pc := 17) 1 dX8_callFrom_17 rfl rfl ?_
  refine tr_iload_n (pc := 18) 2 dX8_callFrom_18 rfl rfl ?_
  refine tr_aload_n (pc := 19) 1 dX8_callFrom_19 rfl rfl ?_
  refine tr_getR (pc := 20) (q := 3) dX8_callFrom_20 (hS.1 41 (11, 18) rfl) fi_X8_40 rfl (hS.2 41 0 3 rfl) ?_
  refine tr_iload_n (pc := 23) 2 dX8_callFrom_23 rfl rfl ?_
  refine tr_iload_n (pc := 24) 3 dX8_callFrom_24 rfl rfl ?_
  refine tr_callV (pc := 25) (rest := [.int (nI m), rv a 41]) (ci := 2) dX8_callFrom_25 ml_X8_112 cv_X2_name rfl rfl (Nat.le_of_ble_eq_true rfl) (hS.1 3 (5, 3) rfl) rfl (by omega) (c_name hO hMP hV hi) ?_
  rintro _ _ _ ⟨rfl, rfl, rfl⟩
  show T a (3 * k + 5) mX8_callFrom 28 [(4, .int (nI ((gt P m i).2.2.2))), (0, rv a 41), (1, .int (nI m)), (2, .int (nI i)), (3, .int (tv (E (gt P m i).2.2.1)))] [.int (nI ((gt P m i).2.1)), .int (nI m), rv a 41] S h _
  refine tr_aload_n (pc := 28) 1 dX8_callFrom_28 rfl rfl ?_
  refine tr_iload (pc := 29) 0 dX8_callFrom_29 rfl ?_
  refine tr_iload_n (pc := 31) 4 dX8_callFrom_31 rfl rfl ?_
  refine tr_callV (pc := 32) (rest := [.int (nI ((gt P m i).2.1)), .int (nI m), rv a 41]) (ci := 8) dX8_callFrom_32 ml_X8_90 cv_X8_callMethod rfl rfl (Nat.le_of_ble_eq_true rfl) (hS.1 41 (11, 18) rfl) rfl (by omega) (hK S h q cap P (gt P m i).2.2.2 (E (gt P m i).2.2.1) R hS hVP hMP hFn hQ hT hW hn (hE _) hcl (by omega) hb1 hb2 hsn) ?_
  rintro v1 S1 h1 ⟨⟨w, rfl, hw⟩, hA⟩
  obtain ⟨q1, cap1, a1, a2, a3, a4, a5, a6, a7⟩ := id hA
  have hS1 := hS.sg a4
  show T a (3 * k + 5) mX8_callFrom 35 [(4, .int (nI ((gt P m i).2.2.2))), (0, rv a 41), (1, .int (nI m)), (2, .int (nI i)), (3, .int (tv (E (gt P m i).2.2.1)))] [.int w, .int (nI ((gt P m i).2.1)), .int (nI m), rv a 41] S1 h1 _
  refine tr_callV (pc := 35) (rest := []) (ci := 8) dX8_callFrom_35 ml_X8_94 cv_X8_setName rfl rfl (Nat.le_of_ble_eq_true rfl) (hS1.1 41 _ rfl) rfl (by omega) (c_tsetName hS1 (by omega) k2) ?_
  rintro v1 S2 h2 ⟨rfl, rfl, rfl⟩
  show T a (3 * k + 5) mX8_callFrom 38 [(4, .int (nI ((gt P m i).2.2.2))), (0, rv a 41), (1, .int (nI m)), (2, .int (nI i)), (3, .int (tv (E (gt P m i).2.2.1)))] [] S1 (hs h1 42 (upd (h1 42) (m * 4 + (gt P m i).2.1) w)) _
  exact tr_vret (pc := 38) dX8_callFrom_38 rfl (by
      rw [doL_c hs7]
      refine ⟨rfl, ?_, fun hf => ?_⟩
      · exact af_trans (hA.mono (by omega) (by omega)) (fun q1 cap1 b1 b2 b3 => af_name b1 b2 b3)
      · rw [hw hf]
        refine nr_set (fun y hy => ?_) k2
        rw [a5 _ (by omega)]
        exact hNR y hy)

set_option maxHeartbeats 4000000 in
set_option maxRecDepth 100000 in
theorem c_doLine {a : Am} {S : St} {h : Hp} (hS : IsSt S) {k : Nat} (hK : CSpec a k) {P : Prog} (hVP : VP P) (hMP : MP h 3 P) (hFn : Fnd h P) {q cap : Nat} (hQ : TQ S q cap) {R : RS} (hT : TH h q R false) (hW : WF P R) (hn : R.1 0 ≤ cap) {m i : Nat} (hi : i < lnN P m) (hmk : 4 ≤ m + (k + 1)) {E : Nat → OT} (hE : WE R E) (hNR : NR h m E) (hb1 : R.1 0 + 8 ^ k ≤ 4096) (hb2 : R.1 3 + cB k ≤ 1000000) {c : Nat} (hc : c < R.1 3) (hsn : SnB R (h (q + 3))) : CT a (3 * k + 6) mX8_doLine [rv a 41, .int (nI m), .int (nI i), .int (nI (c + 1))] S h (fun v S' h' => v = none ∧ AfC S h q R (m * 4) (c + 1) (doL (exM P k) P m c i R E).1 (doL (exM P k) P m c i R E).2.2 S' h' ∧ ((doL (exM P k) P m c i R E).2.2 = false → NR h' m (doL (exM P k) P m c i R E).2.1)) := by
  obtain ⟨⟨r5, r6, r7, r8⟩, ⟨z0, z1, z2, z3⟩, hq, hc1, hc2, hlev⟩ := id hQ
  obtain ⟨hV, hVC⟩ := id hVP
  obtain ⟨hV1, hV2, hV3⟩ := id hV
  have hm := lnN_lt hi
  have hok := hV3 m i hi
  obtain ⟨k1, k2, k3, k4⟩ := id hok
  have h8 := hV2 m
  have hO := mo_3 hS
  refine met_of (by decide +kernel) (Nat.le_of_ble_eq_true rfl) ?_
  show T a (3 * k + 6) mX8_doLine 0 [(0, rv a 41), (1, .int (nI m)), (2, .int (nI i)), (3, .int (nI (c + 1)))] [] S h _
  refine tr_aload_n (pc := 0) 0 dX8_doLine_0 rfl rfl ?_
  refine tr_getR (pc := 1) (q := 3) dX8_doLine_1 (hS.1 41 (11, 18) rfl) fi_X8_40 rfl (hS.2 41 0 3 rfl) ?_
  refine tr_iload_n (pc := 4) 1 dX8_doLine_4 rfl rfl ?_
  refine tr_iload_n (pc := 5) 2 dX8_doLine_5 rfl rfl ?_
  refine tr_callV (pc := 6) (rest := []) (ci := 2) dX8_doLine_6 ml_X8_112 cv_X2_name rfl rfl (Nat.le_of_ble_eq_true rfl) (hS.1 3 (5, 3) rfl) rfl (by omega) (c_name hO hMP hV hi) ?_
  rintro _ _ _ ⟨rfl, rfl, rfl⟩
  show T a (3 * k + 6) mX8_doLine 9 [(0, rv a 41), (1, .int (nI m)), (2, .int (nI i)), (3, .int (nI (c + 1)))] [.int (nI ((gt P m i).2.1))] S h _
  refine tr_istore (pc := 9) (lv' := [(4, .int (nI ((gt P m i).2.1))), (0, rv a 41), (1, .int (nI m)), (2, .int (nI i)), (3, .int (nI (c + 1)))]) dX8_doLine_9 (by decide) rfl ?_
  refine tr_aload_n (pc := 11) 1 dX8_doLine_11 rfl rfl ?_
  refine tr_iload_n (pc := 12) 2 dX8_doLine_12 rfl rfl ?_
  refine tr_iload (pc := 13) 0 dX8_doLine_13 rfl ?_
  refine tr_callV (pc := 15) (rest := []) (ci := 8) dX8_doLine_15 ml_X8_105 cv_X8_inName rfl rfl (Nat.le_of_ble_eq_true rfl) (hS.1 41 (11, 18) rfl) rfl (by omega) (c_tinName hS (by omega) k2) ?_
  rintro _ _ _ ⟨rfl, rfl, rfl⟩
  rw [hNR _ k2]
  show T a (3 * k + 6) mX8_doLine 18 [(4, .int (nI ((gt P m i).2.1))), (0, rv a 41), (1, .int (nI m)), (2, .int (nI i)), (3, .int (nI (c + 1)))] [.int (tv (E (gt P m i).2.1))] S h _
  refine tr_istore (pc := 18) (lv' := [(5, .int (tv (E (gt P m i).2.1))), (4, .int (nI ((gt P m i).2.1))), (0, rv a 41), (1, .int (nI m)), (2, .int (nI i)), (3, .int (nI (c + 1)))]) dX8_doLine_18 (by decide) rfl ?_
  refine tr_aload_n (pc := 20) 2 dX8_doLine_20 rfl rfl ?_
  refine tr_iload_n (pc := 21) 3 dX8_doLine_21 rfl rfl ?_
  refine tr_aload_n (pc := 22) 2 dX8_doLine_22 rfl rfl ?_
  refine tr_getR (pc := 23) (q := 3) dX8_doLine_23 (hS.1 41 (11, 18) rfl) fi_X8_40 rfl (hS.2 41 0 3 rfl) ?_
  refine tr_iload_n (pc := 26) 3 dX8_doLine_26 rfl rfl ?_
  refine tr_iload_n (pc := 27) 4 dX8_doLine_27 rfl rfl ?_
  refine tr_callV (pc := 28) (rest := [.int (nI m), rv a 41]) (ci := 2) dX8_doLine_28 ml_X8_115 cv_X2_other rfl rfl (Nat.le_of_ble_eq_true rfl) (hS.1 3 (5, 3) rfl) rfl (by omega) (c_other hO hMP hV hi) ?_
  rintro _ _ _ ⟨rfl, rfl, rfl⟩
  show T a (3 * k + 6) mX8_doLine 31 [(5, .int (tv (E (gt P m i).2.1))), (4, .int (nI ((gt P m i).2.1))), (0, rv a 41), (1, .int (nI m)), (2, .int (nI i)), (3, .int (nI (c + 1)))] [.int (nI ((gt P m i).2.2.1)), .int (nI m), rv a 41] S h _
  refine tr_callV (pc := 31) (rest := []) (ci := 8) dX8_doLine_31 ml_X8_105 cv_X8_inName rfl rfl (Nat.le_of_ble_eq_true rfl) (hS.1 41 (11, 18) rfl) rfl (by omega) (c_tinName hS (by omega) k3) ?_
  rintro _ _ _ ⟨rfl, rfl, rfl⟩
  rw [hNR _ k3]
  show T a (3 * k + 6) mX8_doLine 34 [(5, .int (tv (E (gt P m i).2.1))), (4, .int (nI ((gt P m i).2.1))), (0, rv a 41), (1, .int (nI m)), (2, .int (nI i)), (3, .int (nI (c + 1)))] [.int (tv (E (gt P m i).2.2.1))] S h _
  refine tr_istore (pc := 34) (lv' := [(6, .int (tv (E (gt P m i).2.2.1))), (5, .int (tv (E (gt P m i).2.1))), (4, .int (nI ((gt P m i).2.1))), (0, rv a 41), (1, .int (nI m)), (2, .int (nI i)), (3, .int (nI (c + 1)))]) dX8_doLine_34 (by decide) rfl ?_
  refine tr_aload_n (pc := 36) 3 dX8_doLine_36 rfl rfl ?_
  refine tr_getR (pc := 37) (q := 3) dX8_doLine_37 (hS.1 41 (11, 18) rfl) fi_X8_40 rfl (hS.2 41 0 3 rfl) ?_
  refine tr_iload_n (pc := 40) 4 dX8_doLine_40 rfl rfl ?_
  refine tr_iload_n (pc := 41) 5 dX8_doLine_41 rfl rfl ?_
  refine tr_callV (pc := 42) (rest := []) (ci := 2) dX8_doLine_42 ml_X8_118 cv_X2_sort rfl rfl (Nat.le_of_ble_eq_true rfl) (hS.1 3 (5, 3) rfl) rfl (by omega) (c_sort hO hMP hV hi) ?_
  rintro _ _ _ ⟨rfl, rfl, rfl⟩
  show T a (3 * k + 6) mX8_doLine 45 [(6, .int (tv (E (gt P m i).2.2.1))), (5, .int (tv (E (gt P m i).2.1))), (4, .int (nI ((gt P m i).2.1))), (0, rv a 41), (1, .int (nI m)), (2, .int (nI i)), (3, .int (nI (c + 1)))] [.int (nI ((gt P m i).1))] S h _
  rcases (show (gt P m i).1 = 0 ∨ (gt P m i).1 = 1 ∨ (gt P m i).1 = 2 ∨ (gt P m i).1 = 3 ∨ (gt P m i).1 = 4 ∨ (gt P m i).1 = 5 ∨ (gt P m i).1 = 6 ∨ (gt P m i).1 = 7 by omega) with qs | qs | qs | qs | qs | qs | qs | qs <;> rw [qs]
  · skip
    show T a (3 * k + 6) mX8_doLine 45 [(6, .int (tv (E (gt P m i).2.2.1))), (5, .int (tv (E (gt P m i).2.1))), (4, .int (nI ((gt P m i).2.1))), (0, rv a 41), (1, .int (nI m)), (2, .int (nI i)), (3, .int (nI (c + 1)))] [.int (nI 0)] S h _
    refine tr_tabIn (pc := 45) (off := 43) (tgt := 88) dX8_doLine_45 (by decide) (by decide) (by decide) (by decide) ?_
    refine tr_aload_n (pc := 88) 3 dX8_doLine_88 rfl rfl ?_
    refine tr_iload_n (pc := 89) 4 dX8_doLine_89 rfl rfl ?_
    refine tr_iload (pc := 90) 2 dX8_doLine_90 rfl ?_
    refine tr_aload_n (pc := 92) 3 dX8_doLine_92 rfl rfl ?_
    refine tr_aload_n (pc := 93) 3 dX8_doLine_93 rfl rfl ?_
    refine tr_getR (pc := 94) (q := 31) dX8_doLine_94 (hS.1 41 (11, 18) rfl) fi_X8_44 rfl (hS.2 41 1 31 rfl) ?_
    refine tr_iload_n (pc := 97) 4 dX8_doLine_97 rfl rfl ?_
    refine tr_iload_n (pc := 98) 5 dX8_doLine_98 rfl rfl ?_
    refine tr_callV (pc := 99) (rest := [rv a 41, .int (nI ((gt P m i).2.1)), .int (nI m), rv a 41]) (ci := 4) dX8_doLine_99 ml_X8_121 cv_X4_ofLine rfl rfl (Nat.le_of_ble_eq_true rfl) (hS.1 31 (7, 4) rfl) rfl (by omega) (c_ofLine hS hV hFn.1 hi) ?_
    rintro _ _ _ ⟨rfl, rfl, rfl⟩
    rw [show siteAt P m i = nI (sno P m i) from if_pos qs]
    have hsl := sno_lt hi qs
    have hns := nSt_le hV
    show T a (3 * k + 6) mX8_doLine 102 [(6, .int (tv (E (gt P m i).2.2.1))), (5, .int (tv (E (gt P m i).2.1))), (4, .int (nI ((gt P m i).2.1))), (0, rv a 41), (1, .int (nI m)), (2, .int (nI i)), (3, .int (nI (c + 1)))] [.int (nI (sno P m i)), rv a 41, .int (nI ((gt P m i).2.1)), .int (nI m), rv a 41] S h _
    refine tr_iload_n (pc := 102) 6 dX8_doLine_102 rfl rfl ?_
    refine tr_callV (pc := 103) (rest := [.int (nI ((gt P m i).2.1)), .int (nI m), rv a 41]) (ci := 8) dX8_doLine_103 ml_X8_126 cv_X8_newThing rfl rfl (Nat.le_of_ble_eq_true rfl) (hS.1 41 (11, 18) rfl) rfl (by omega) (c_newThing (s := sno P m i) (c := c) hS hQ hT hn (by have := Nat.pow_pos (n := k) (show 0 < 8 by decide); omega) (by omega)) ?_
    rintro v1 S1 h1 ⟨rfl, q1, cap1, a1, a2, a3, a4, a5, a6, a7, a8⟩
    have hS1 := hS.sg a4
    show T a (3 * k + 6) mX8_doLine 106 [(6, .int (tv (E (gt P m i).2.2.1))), (5, .int (tv (E (gt P m i).2.1))), (4, .int (nI ((gt P m i).2.1))), (0, rv a 41), (1, .int (nI m)), (2, .int (nI i)), (3, .int (nI (c + 1)))] [.int (nI (R.1 0)), .int (nI ((gt P m i).2.1)), .int (nI m), rv a 41] S1 h1 _
    refine tr_callV (pc := 106) (rest := []) (ci := 8) dX8_doLine_106 ml_X8_94 cv_X8_setName rfl rfl (Nat.le_of_ble_eq_true rfl) (hS1.1 41 _ rfl) rfl (by omega) (c_tsetName hS1 (by omega) k2) ?_
    rintro v1 S2 h2 ⟨rfl, rfl, rfl⟩
    show T a (3 * k + 6) mX8_doLine 109 [(6, .int (tv (E (gt P m i).2.2.1))), (5, .int (tv (E (gt P m i).2.1))), (4, .int (nI ((gt P m i).2.1))), (0, rv a 41), (1, .int (nI m)), (2, .int (nI i)), (3, .int (nI (c + 1)))] [] S1 (hs h1 42 (upd (h1 42) (m * 4 + (gt P m i).2.1) (nI (R.1 0)))) _
    refine tr_goto (pc := 109) (tgt := 203) dX8_doLine_109 (by decide) ?_
    exact tr_vret (pc := 203) dX8_doLine_203 rfl (by
        unfold doL
        rw [qs]
        have hq1 := a1.2.2.1
        refine ⟨rfl, ⟨q1, cap1, a1, by show (rMake R _ c).1 0 ≤ _; rw [mk_n0]; omega, th_42 a3 hq1, a4, fun j hj => by rw [hs_same, upd_n (by omega), a5], ⟨by show _ ≤ (rMake R _ c).1 0; rw [mk_n0]; omega, by show _ ≤ (rMake R _ c).1 3; rw [mk_n3]; exact Nat.le_refl _, fun t ht => ?_⟩, a8.set (Or.inl (by decide))⟩, fun _ => ?_⟩
        · have ht : t < (rMake R (sno P m i) c).1 0 := ht
          rw [mk_n0] at ht
          rw [hs_ne (by omega)]
          by_cases e : t = R.1 0
          · subst e; exact Or.inr (Or.inl a7)
          · exact Or.inl ⟨by omega, a6 t (by omega)⟩
        · exact nr_set (v := some (R.1 0)) (fun y hy => by rw [a5]; exact hNR y hy) k2)
  · skip
    show T a (3 * k + 6) mX8_doLine 45 [(6, .int (tv (E (gt P m i).2.2.1))), (5, .int (tv (E (gt P m i).2.1))), (4, .int (nI ((gt P m i).2.1))), (0, rv a 41), (1, .int (nI m)), (2, .int (nI i)), (3, .int (nI (c + 1)))] [.int (nI 1)] S h _
    refine tr_tabIn (pc := 45) (off := 67) (tgt := 112) dX8_doLine_45 (by decide) (by decide) (by decide) (by decide) ?_
    refine tr_aload_n (pc := 112) 3 dX8_doLine_112 rfl rfl ?_
    refine tr_iload_n (pc := 113) 4 dX8_doLine_113 rfl rfl ?_
    refine tr_iload (pc := 114) 2 dX8_doLine_114 rfl ?_
    refine tr_iload (pc := 116) 0 dX8_doLine_116 rfl ?_
    refine tr_callV (pc := 118) (rest := []) (ci := 8) dX8_doLine_118 ml_X8_94 cv_X8_setName rfl rfl (Nat.le_of_ble_eq_true rfl) (hS.1 41 (11, 18) rfl) rfl (by omega) (c_tsetName hS (by omega) k2) ?_
    rintro v1 S2 h2 ⟨rfl, rfl, rfl⟩
    show T a (3 * k + 6) mX8_doLine 121 [(6, .int (tv (E (gt P m i).2.2.1))), (5, .int (tv (E (gt P m i).2.1))), (4, .int (nI ((gt P m i).2.1))), (0, rv a 41), (1, .int (nI m)), (2, .int (nI i)), (3, .int (nI (c + 1)))] [] S (hs h 42 (upd (h 42) (m * 4 + (gt P m i).2.1) (tv (E (gt P m i).2.2.1)))) _
    refine tr_goto (pc := 121) (tgt := 203) dX8_doLine_121 (by decide) ?_
    exact tr_vret (pc := 203) dX8_doLine_203 rfl (by
        unfold doL
        rw [qs]
        refine ⟨rfl, ?_, fun _ => ?_⟩
        · exact af_name hQ hn hT
        · exact nr_set hNR k2)
  · skip
    show T a (3 * k + 6) mX8_doLine 45 [(6, .int (tv (E (gt P m i).2.2.1))), (5, .int (tv (E (gt P m i).2.1))), (4, .int (nI ((gt P m i).2.1))), (0, rv a 41), (1, .int (nI m)), (2, .int (nI i)), (3, .int (nI (c + 1)))] [.int (nI 2)] S h _
    refine tr_tabIn (pc := 45) (off := 79) (tgt := 124) dX8_doLine_45 (by decide) (by decide) (by decide) (by decide) ?_
    cases hx : E (gt P m i).2.1 with
    | none => ?_
    | some t => ?_
    · skip
      show T a (3 * k + 6) mX8_doLine 124 [(6, .int (tv (E (gt P m i).2.2.1))), (5, .int (-1)), (4, .int (nI ((gt P m i).2.1))), (0, rv a 41), (1, .int (nI m)), (2, .int (nI i)), (3, .int (nI (c + 1)))] [] S h _
      refine tr_aload_n (pc := 124) 3 dX8_doLine_124 rfl rfl ?_
      refine tr_iload (pc := 125) 1 dX8_doLine_125 rfl ?_
      refine tr_iload (pc := 127) 0 dX8_doLine_127 rfl ?_
      refine tr_callV (pc := 129) (rest := []) (ci := 8) dX8_doLine_129 ml_X8_129 cv_X8_putIntoField rfl rfl (Nat.le_of_ble_eq_true rfl) (hS.1 41 (11, 18) rfl) rfl (by omega) (c_tput_n hS) ?_
      rintro v1 S2 h2 ⟨rfl, rfl, rfl⟩
      show T a (3 * k + 6) mX8_doLine 132 [(6, .int (tv (E (gt P m i).2.2.1))), (5, .int (-1)), (4, .int (nI ((gt P m i).2.1))), (0, rv a 41), (1, .int (nI m)), (2, .int (nI i)), (3, .int (nI (c + 1)))] [] S (hs h 41 (upd (h 41) 9 (nI 1))) _
      refine tr_goto (pc := 132) (tgt := 203) dX8_doLine_132 (by decide) ?_
      exact tr_vret (pc := 203) dX8_doLine_203 rfl (by
          unfold doL
          rw [qs]
          simp only [hx]
          exact ⟨trivial, af_fail hQ hn hT, fun w => by cases w⟩)
    · skip
      have ht : t < R.1 0 := hE _ t hx
      show T a (3 * k + 6) mX8_doLine 124 [(6, .int (tv (E (gt P m i).2.2.1))), (5, .int (nI t)), (4, .int (nI ((gt P m i).2.1))), (0, rv a 41), (1, .int (nI m)), (2, .int (nI i)), (3, .int (nI (c + 1)))] [] S h _
      refine tr_aload_n (pc := 124) 3 dX8_doLine_124 rfl rfl ?_
      refine tr_iload (pc := 125) 1 dX8_doLine_125 rfl ?_
      refine tr_iload (pc := 127) 0 dX8_doLine_127 rfl ?_
      refine tr_callV (pc := 129) (rest := []) (ci := 8) dX8_doLine_129 ml_X8_129 cv_X8_putIntoField rfl rfl (Nat.le_of_ble_eq_true rfl) (hS.1 41 (11, 18) rfl) rfl (by omega) (c_tput_s hS hQ hT.1.2.1 hn ht) ?_
      rintro v1 S2 h2 ⟨rfl, rfl, rfl⟩
      show T a (3 * k + 6) mX8_doLine 132 [(6, .int (tv (E (gt P m i).2.2.1))), (5, .int (nI t)), (4, .int (nI ((gt P m i).2.1))), (0, rv a 41), (1, .int (nI m)), (2, .int (nI i)), (3, .int (nI (c + 1)))] [] S (hs h (q + 1) (upd (h (q + 1)) t (tv (E (gt P m i).2.2.1)))) _
      refine tr_goto (pc := 132) (tgt := 203) dX8_doLine_132 (by decide) ?_
      exact tr_vret (pc := 203) dX8_doLine_203 rfl (by
          unfold doL
          rw [qs]
          simp only [hx]
          refine ⟨trivial, af_put hQ hn hT, fun _ y hy => ?_⟩
          rw [hs_ne (by omega)]
          exact hNR y hy)
  · skip
    show T a (3 * k + 6) mX8_doLine 45 [(6, .int (tv (E (gt P m i).2.2.1))), (5, .int (tv (E (gt P m i).2.1))), (4, .int (nI ((gt P m i).2.1))), (0, rv a 41), (1, .int (nI m)), (2, .int (nI i)), (3, .int (nI (c + 1)))] [.int (nI 3)] S h _
    refine tr_tabIn (pc := 45) (off := 90) (tgt := 135) dX8_doLine_45 (by decide) (by decide) (by decide) (by decide) ?_
    cases hx : E (gt P m i).2.2.1 with
    | none => ?_
    | some t => ?_
    · skip
      show T a (3 * k + 6) mX8_doLine 135 [(6, .int (-1)), (5, .int (tv (E (gt P m i).2.1))), (4, .int (nI ((gt P m i).2.1))), (0, rv a 41), (1, .int (nI m)), (2, .int (nI i)), (3, .int (nI (c + 1)))] [] S h _
      refine tr_aload_n (pc := 135) 3 dX8_doLine_135 rfl rfl ?_
      refine tr_iload_n (pc := 136) 4 dX8_doLine_136 rfl rfl ?_
      refine tr_iload (pc := 137) 2 dX8_doLine_137 rfl ?_
      refine tr_aload_n (pc := 139) 3 dX8_doLine_139 rfl rfl ?_
      refine tr_iload (pc := 140) 0 dX8_doLine_140 rfl ?_
      refine tr_callV (pc := 142) (rest := [.int (nI ((gt P m i).2.1)), .int (nI m), rv a 41]) (ci := 8) dX8_doLine_142 ml_X8_133 cv_X8_takeFromField rfl rfl (Nat.le_of_ble_eq_true rfl) (hS.1 41 (11, 18) rfl) rfl (by omega) (c_ttake_n hS) ?_
      rintro v1 S2 h2 ⟨rfl, rfl, rfl⟩
      show T a (3 * k + 6) mX8_doLine 145 [(6, .int (-1)), (5, .int (tv (E (gt P m i).2.1))), (4, .int (nI ((gt P m i).2.1))), (0, rv a 41), (1, .int (nI m)), (2, .int (nI i)), (3, .int (nI (c + 1)))] [.int (-1), .int (nI ((gt P m i).2.1)), .int (nI m), rv a 41] S (hs h 41 (upd (h 41) 9 (nI 1))) _
      refine tr_callV (pc := 145) (rest := []) (ci := 8) dX8_doLine_145 ml_X8_94 cv_X8_setName rfl rfl (Nat.le_of_ble_eq_true rfl) (hS.1 41 (11, 18) rfl) rfl (by omega) (c_tsetName hS (by omega) k2) ?_
      rintro v1 S2 h2 ⟨rfl, rfl, rfl⟩
      show T a (3 * k + 6) mX8_doLine 148 [(6, .int (-1)), (5, .int (tv (E (gt P m i).2.1))), (4, .int (nI ((gt P m i).2.1))), (0, rv a 41), (1, .int (nI m)), (2, .int (nI i)), (3, .int (nI (c + 1)))] [] S (hs (hs h 41 (upd (h 41) 9 (nI 1))) 42 (upd (hs h 41 (upd (h 41) 9 (nI 1)) 42) (m * 4 + (gt P m i).2.1) (-1))) _
      refine tr_goto (pc := 148) (tgt := 203) dX8_doLine_148 (by decide) ?_
      exact tr_vret (pc := 203) dX8_doLine_203 rfl (by
          unfold doL
          rw [qs]
          simp only [hx]
          exact ⟨trivial, af_trans (af_fail hQ hn hT) (fun q1 cap1 b1 b2 b3 => af_name b1 b2 b3), fun w => by cases w⟩)
    · skip
      have ht : t < R.1 0 := hE _ t hx
      show T a (3 * k + 6) mX8_doLine 135 [(6, .int (nI t)), (5, .int (tv (E (gt P m i).2.1))), (4, .int (nI ((gt P m i).2.1))), (0, rv a 41), (1, .int (nI m)), (2, .int (nI i)), (3, .int (nI (c + 1)))] [] S h _
      refine tr_aload_n (pc := 135) 3 dX8_doLine_135 rfl rfl ?_
      refine tr_iload_n (pc := 136) 4 dX8_doLine_136 rfl rfl ?_
      refine tr_iload (pc := 137) 2 dX8_doLine_137 rfl ?_
      refine tr_aload_n (pc := 139) 3 dX8_doLine_139 rfl rfl ?_
      refine tr_iload (pc := 140) 0 dX8_doLine_140 rfl ?_
      refine tr_callV (pc := 142) (rest := [.int (nI ((gt P m i).2.1)), .int (nI m), rv a 41]) (ci := 8) dX8_doLine_142 ml_X8_133 cv_X8_takeFromField rfl rfl (Nat.le_of_ble_eq_true rfl) (hS.1 41 (11, 18) rfl) rfl (by omega) (c_ttake_s hS hQ hT.1.2.1 hn ht) ?_
      rintro _ _ _ ⟨rfl, rfl, rfl⟩
      rw [(hT.2.1 t ht).2.1]
      show T a (3 * k + 6) mX8_doLine 145 [(6, .int (nI t)), (5, .int (tv (E (gt P m i).2.1))), (4, .int (nI ((gt P m i).2.1))), (0, rv a 41), (1, .int (nI m)), (2, .int (nI i)), (3, .int (nI (c + 1)))] [.int (tv (R.2.2.1 t)), .int (nI ((gt P m i).2.1)), .int (nI m), rv a 41] S h _
      refine tr_callV (pc := 145) (rest := []) (ci := 8) dX8_doLine_145 ml_X8_94 cv_X8_setName rfl rfl (Nat.le_of_ble_eq_true rfl) (hS.1 41 (11, 18) rfl) rfl (by omega) (c_tsetName hS (by omega) k2) ?_
      rintro v1 S2 h2 ⟨rfl, rfl, rfl⟩
      show T a (3 * k + 6) mX8_doLine 148 [(6, .int (nI t)), (5, .int (tv (E (gt P m i).2.1))), (4, .int (nI ((gt P m i).2.1))), (0, rv a 41), (1, .int (nI m)), (2, .int (nI i)), (3, .int (nI (c + 1)))] [] S (hs h 42 (upd (h 42) (m * 4 + (gt P m i).2.1) (tv (R.2.2.1 t)))) _
      refine tr_goto (pc := 148) (tgt := 203) dX8_doLine_148 (by decide) ?_
      exact tr_vret (pc := 203) dX8_doLine_203 rfl (by
          unfold doL
          rw [qs]
          simp only [hx]
          refine ⟨trivial, ?_, fun _ => ?_⟩
          · exact af_name hQ hn hT
          · exact nr_set hNR k2)
  · skip
    show T a (3 * k + 6) mX8_doLine 45 [(6, .int (tv (E (gt P m i).2.2.1))), (5, .int (tv (E (gt P m i).2.1))), (4, .int (nI ((gt P m i).2.1))), (0, rv a 41), (1, .int (nI m)), (2, .int (nI i)), (3, .int (nI (c + 1)))] [.int (nI 4)] S h _
    refine tr_tabIn (pc := 45) (off := 106) (tgt := 151) dX8_doLine_45 (by decide) (by decide) (by decide) (by decide) ?_
    refine tr_aload_n (pc := 151) 3 dX8_doLine_151 rfl rfl ?_
    refine tr_iload (pc := 152) 1 dX8_doLine_152 rfl ?_
    refine tr_putI (pc := 154) (x := tv (E (gt P m i).2.1)) dX8_doLine_154 (hS.1 41 (11, 18) rfl) fi_X8_15 rfl rfl rfl ?_
    refine tr_goto (pc := 157) (tgt := 203) dX8_doLine_157 (by decide) ?_
    exact tr_vret (pc := 203) dX8_doLine_203 rfl (by
        unfold doL
        rw [qs]
        refine ⟨rfl, af_open hQ hn hT, fun _ y hy => ?_⟩
        rw [hs_ne (by decide)]
        exact hNR y hy)
  · skip
    show T a (3 * k + 6) mX8_doLine 45 [(6, .int (tv (E (gt P m i).2.2.1))), (5, .int (tv (E (gt P m i).2.1))), (4, .int (nI ((gt P m i).2.1))), (0, rv a 41), (1, .int (nI m)), (2, .int (nI i)), (3, .int (nI (c + 1)))] [.int (nI 5)] S h _
    refine tr_tabIn (pc := 45) (off := 115) (tgt := 160) dX8_doLine_45 (by decide) (by decide) (by decide) (by decide) ?_
    refine tr_aload_n (pc := 160) 3 dX8_doLine_160 rfl rfl ?_
    refine tr_iload_n (pc := 161) 4 dX8_doLine_161 rfl rfl ?_
    refine tr_iload (pc := 162) 2 dX8_doLine_162 rfl ?_
    refine tr_aload_n (pc := 164) 3 dX8_doLine_164 rfl rfl ?_
    refine tr_getI (pc := 165) (x := tv R.2.2.2) dX8_doLine_165 (hS.1 41 (11, 18) rfl) fi_X8_15 rfl hT.1.2.2.2.2.2.2 ?_
    refine tr_callV (pc := 168) (rest := []) (ci := 8) dX8_doLine_168 ml_X8_94 cv_X8_setName rfl rfl (Nat.le_of_ble_eq_true rfl) (hS.1 41 (11, 18) rfl) rfl (by omega) (c_tsetName hS (by omega) k2) ?_
    rintro v1 S2 h2 ⟨rfl, rfl, rfl⟩
    show T a (3 * k + 6) mX8_doLine 171 [(6, .int (tv (E (gt P m i).2.2.1))), (5, .int (tv (E (gt P m i).2.1))), (4, .int (nI ((gt P m i).2.1))), (0, rv a 41), (1, .int (nI m)), (2, .int (nI i)), (3, .int (nI (c + 1)))] [] S (hs h 42 (upd (h 42) (m * 4 + (gt P m i).2.1) (tv R.2.2.2))) _
    refine tr_goto (pc := 171) (tgt := 203) dX8_doLine_171 (by decide) ?_
    exact tr_vret (pc := 203) dX8_doLine_203 rfl (by
        unfold doL
        rw [qs]
        refine ⟨rfl, ?_, fun _ => ?_⟩
        · exact af_name hQ hn hT
        · exact nr_set hNR k2)
  · skip
    show T a (3 * k + 6) mX8_doLine 45 [(6, .int (tv (E (gt P m i).2.2.1))), (5, .int (tv (E (gt P m i).2.1))), (4, .int (nI ((gt P m i).2.1))), (0, rv a 41), (1, .int (nI m)), (2, .int (nI i)), (3, .int (nI (c + 1)))] [.int (nI 6)] S h _
    refine tr_tabIn (pc := 45) (off := 129) (tgt := 174) dX8_doLine_45 (by decide) (by decide) (by decide) (by decide) ?_
    cases hx : E (gt P m i).2.1 with
    | none => ?_
    | some t => ?_
    · skip
      show T a (3 * k + 6) mX8_doLine 174 [(6, .int (tv (E (gt P m i).2.2.1))), (5, .int (-1)), (4, .int (nI ((gt P m i).2.1))), (0, rv a 41), (1, .int (nI m)), (2, .int (nI i)), (3, .int (nI (c + 1)))] [] S h _
      refine tr_aload_n (pc := 174) 3 dX8_doLine_174 rfl rfl ?_
      refine tr_iload (pc := 175) 1 dX8_doLine_175 rfl ?_
      refine tr_aload_n (pc := 177) 3 dX8_doLine_177 rfl rfl ?_
      refine tr_getR (pc := 178) (q := 38) dX8_doLine_178 (hS.1 41 (11, 18) rfl) fi_X8_48 rfl (hS.2 41 2 38 rfl) ?_
      refine tr_iload_n (pc := 181) 4 dX8_doLine_181 rfl rfl ?_
      refine tr_callV (pc := 182) (rest := [.int (-1), rv a 41]) (ci := 0) dX8_doLine_182 ml_X8_136 cv_X0_idleLines rfl rfl (Nat.le_of_ble_eq_true rfl) (hS.1 38 (3, 5) rfl) rfl (by omega) (c_fidle hS hV hFn.2.2 hm) ?_
      rintro _ _ _ ⟨rfl, rfl, rfl⟩
      show T a (3 * k + 6) mX8_doLine 185 [(6, .int (tv (E (gt P m i).2.2.1))), (5, .int (-1)), (4, .int (nI ((gt P m i).2.1))), (0, rv a 41), (1, .int (nI m)), (2, .int (nI i)), (3, .int (nI (c + 1)))] [.int (idl P m), .int (-1), rv a 41] S h _
      refine tr_iload_n (pc := 185) 5 dX8_doLine_185 rfl rfl ?_
      refine tr_ishr (pc := 186) (v := (idl P m) >>> (nI i &&& 31)) dX8_doLine_186 rfl ?_
      refine tr_iconst (pc := 187) (v := nI 1) dX8_doLine_187 (by decide) ?_
      refine tr_iand (pc := 188) (v := nI (if tb (idl P m) i = true then 1 else 0)) dX8_doLine_188 (idle_v _ (by omega)) ?_
      refine tr_callV (pc := 189) (rest := []) (ci := 8) dX8_doLine_189 ml_X8_141 cv_X8_lock rfl rfl (Nat.le_of_ble_eq_true rfl) (hS.1 41 (11, 18) rfl) rfl (by omega) (c_tlock_n hS) ?_
      rintro v1 S2 h2 ⟨rfl, rfl, rfl⟩
      show T a (3 * k + 6) mX8_doLine 192 [(6, .int (tv (E (gt P m i).2.2.1))), (5, .int (-1)), (4, .int (nI ((gt P m i).2.1))), (0, rv a 41), (1, .int (nI m)), (2, .int (nI i)), (3, .int (nI (c + 1)))] [] S (hs h 41 (upd (h 41) 9 (nI 1))) _
      refine tr_goto (pc := 192) (tgt := 203) dX8_doLine_192 (by decide) ?_
      exact tr_vret (pc := 203) dX8_doLine_203 rfl (by
          unfold doL
          rw [qs]
          simp only [hx]
          exact ⟨trivial, af_fail hQ hn hT, fun w => by cases w⟩)
    · skip
      have ht : t < R.1 0 := hE _ t hx
      have hst := (hW.1 t ht).1
      have hns := nSt_le hV
      show T a (3 * k + 6) mX8_doLine 174 [(6, .int (tv (E (gt P m i).2.2.1))), (5, .int (nI t)), (4, .int (nI ((gt P m i).2.1))), (0, rv a 41), (1, .int (nI m)), (2, .int (nI i)), (3, .int (nI (c + 1)))] [] S h _
      refine tr_aload_n (pc := 174) 3 dX8_doLine_174 rfl rfl ?_
      refine tr_iload (pc := 175) 1 dX8_doLine_175 rfl ?_
      refine tr_aload_n (pc := 177) 3 dX8_doLine_177 rfl rfl ?_
      refine tr_getR (pc := 178) (q := 38) dX8_doLine_178 (hS.1 41 (11, 18) rfl) fi_X8_48 rfl (hS.2 41 2 38 rfl) ?_
      refine tr_iload_n (pc := 181) 4 dX8_doLine_181 rfl rfl ?_
      refine tr_callV (pc := 182) (rest := [.int (nI t), rv a 41]) (ci := 0) dX8_doLine_182 ml_X8_136 cv_X0_idleLines rfl rfl (Nat.le_of_ble_eq_true rfl) (hS.1 38 (3, 5) rfl) rfl (by omega) (c_fidle hS hV hFn.2.2 hm) ?_
      rintro _ _ _ ⟨rfl, rfl, rfl⟩
      show T a (3 * k + 6) mX8_doLine 185 [(6, .int (tv (E (gt P m i).2.2.1))), (5, .int (nI t)), (4, .int (nI ((gt P m i).2.1))), (0, rv a 41), (1, .int (nI m)), (2, .int (nI i)), (3, .int (nI (c + 1)))] [.int (idl P m), .int (nI t), rv a 41] S h _
      refine tr_iload_n (pc := 185) 5 dX8_doLine_185 rfl rfl ?_
      refine tr_ishr (pc := 186) (v := (idl P m) >>> (nI i &&& 31)) dX8_doLine_186 rfl ?_
      refine tr_iconst (pc := 187) (v := nI 1) dX8_doLine_187 (by decide) ?_
      refine tr_iand (pc := 188) (v := nI (if tb (idl P m) i = true then 1 else 0)) dX8_doLine_188 (idle_v _ (by omega)) ?_
      refine tr_callV (pc := 189) (rest := []) (ci := 8) dX8_doLine_189 ml_X8_141 cv_X8_lock rfl rfl (Nat.le_of_ble_eq_true rfl) (hS.1 41 (11, 18) rfl) rfl (by omega) (c_tlock_s hS hQ hT.1.2.1 hn ht (hT.2.1 t ht).1 (by omega)) ?_
      rintro v1 S2 h2 ⟨rfl, rfl, rfl⟩
      show T a (3 * k + 6) mX8_doLine 192 [(6, .int (tv (E (gt P m i).2.2.1))), (5, .int (nI t)), (4, .int (nI ((gt P m i).2.1))), (0, rv a 41), (1, .int (nI m)), (2, .int (nI i)), (3, .int (nI (c + 1)))] [] S (hs (hs (hs h 41 (upd (h 41) 11 (h 41 11 + nI 1))) 41 (upd (upd (h 41) 11 (h 41 11 + nI 1)) 12 (h 41 12 + nI (if tb (idl P m) i = true then 1 else 0)))) 49 (upd (h 49) (R.2.1 0 t) (h 49 (R.2.1 0 t) + nI 1))) _
      refine tr_goto (pc := 192) (tgt := 203) dX8_doLine_192 (by decide) ?_
      exact tr_vret (pc := 203) dX8_doLine_203 rfl (by
          unfold doL
          rw [qs]
          simp only [hx]
          refine ⟨trivial, af_lock hQ hn hT (by omega), fun _ y hy => ?_⟩
          rw [hs_ne (by decide), hs_ne (by decide), hs_ne (by decide)]
          exact hNR y hy)
  · skip
    show T a (3 * k + 6) mX8_doLine 45 [(6, .int (tv (E (gt P m i).2.2.1))), (5, .int (tv (E (gt P m i).2.1))), (4, .int (nI ((gt P m i).2.1))), (0, rv a 41), (1, .int (nI m)), (2, .int (nI i)), (3, .int (nI (c + 1)))] [.int (nI 7)] S h _
    refine tr_tabOut (pc := 45) (tgt := 195) dX8_doLine_45 (by decide) (by decide) ?_
    refine tr_aload_n (pc := 195) 3 dX8_doLine_195 rfl rfl ?_
    refine tr_iload_n (pc := 196) 4 dX8_doLine_196 rfl rfl ?_
    refine tr_iload_n (pc := 197) 5 dX8_doLine_197 rfl rfl ?_
    refine tr_iload (pc := 198) 0 dX8_doLine_198 rfl ?_
    
    refine tr_callV (pc := 200) (rest := []) (ci := 8) dX8_doLine_200 ml_X8_144 cv_X8_callFrom rfl rfl (Nat.le_of_ble_eq_true rfl) (hS.1 41 (11, 18) rfl) rfl (by omega) (c_callFrom hS hK hVP hMP hFn hQ hT hW hn hi hmk hE hNR hb1 hb2 hc hsn qs) ?_
    rintro v1 S1 h1 hA
    obtain ⟨rfl, hA1, hA2⟩ := hA
    show T a (3 * k + 6) mX8_doLine 203 [(6, .int (tv (E (gt P m i).2.2.1))), (5, .int (tv (E (gt P m i).2.1))), (4, .int (nI ((gt P m i).2.1))), (0, rv a 41), (1, .int (nI m)), (2, .int (nI i)), (3, .int (nI (c + 1)))] [] S1 h1 _
    exact tr_vret (pc := 203) dX8_doLine_203 rfl (⟨rfl, hA1, hA2⟩)
