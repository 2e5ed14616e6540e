/-! ===== the class Trial: its cells ===== -/
def tot0 : Nat := (shp.map (·.2)).sum
/-- the rows of things: four from q on, of cap places -/
def TQ (S : St) (q cap : Nat) : Prop := (S.2 41 5 = some q ∧ S.2 41 6 = some (q + 1) ∧ S.2 41 7 = some (q + 2) ∧ S.2 41 8 = some (q + 3)) ∧ (S.1[q]? = some (0, cap) ∧ S.1[q + 1]? = some (0, cap) ∧ S.1[q + 2]? = some (0, cap) ∧ S.1[q + 3]? = some (0, cap)) ∧ (q = 43 ∨ 76 ≤ q) ∧ cap ≤ 4096 ∧ 32 ≤ cap ∧ ∃ lev, cap = 32 * 2 ^ lev ∧ S.1.length = 76 + 4 * lev ∧ tot S = tot0 + 8 * (cap - 32)
def TH (h : Hp) (q : Nat) (R : RS) (f : Bool) : Prop := (h 41 9 = bI f ∧ h 41 10 = nI (R.1 0) ∧ h 41 11 = nI (R.1 1) ∧ h 41 12 = nI (R.1 2) ∧ h 41 13 = nI (R.1 3) ∧ h 41 14 = nI (R.1 4) ∧ h 41 4 = tv R.2.2.2) ∧ (∀ t, t < R.1 0 → h q t = nI (R.2.1 0 t) ∧ h (q + 1) t = tv (R.2.2.1 t) ∧ h (q + 2) t = nI (R.2.1 1 t + 1)) ∧ ∀ s, s < 32 → h 47 s = nI (R.2.1 2 s) ∧ h 48 s = nI (R.2.1 3 s) ∧ h 49 s = nI (R.2.1 4 s)
/-- cells may be made, and the rows of things may move -/
def Sg (S S' : St) : Prop := (∀ (o : Nat) (kn : Nat × Nat), S.1[o]? = some kn → S'.1[o]? = some kn) ∧ (∀ o, o ≠ 41 → o < 76 → S'.2 o = S.2 o) ∧ ∀ k, k < 5 ∨ 8 < k → S'.2 41 k = S.2 41 k
theorem Sg.rf {S : St} : Sg S S := ⟨fun _ _ h => h, fun _ _ _ => rfl, fun _ _ => rfl⟩
theorem Sg.trans {S S1 S2 : St} (h1 : Sg S S1) (h2 : Sg S1 S2) : Sg S S2 := ⟨fun o kn h => h2.1 o kn (h1.1 o kn h), fun o a b => (h2.2.1 o a b).trans (h1.2.1 o a b), fun k a => (h2.2.2 k a).trans (h1.2.2 k a)⟩
theorem rfT_big {o k q : Nat} (h : (rfT.getD o []).getD k none = some q) : o < 76 := by
  rcases Nat.lt_or_ge o 76 with z | z
  · exact z
  · rw [List.getD_eq_getElem?_getD (l := rfT), List.getElem?_eq_none (by exact z)] at h
    simp at h
theorem rfT_41 : ∀ k, k ∈ [5, 6, 7, 8] → (rfT.getD 41 []).getD k none = none := by decide
theorem IsSt.sg {S S' : St} (hS : IsSt S) (h : Sg S S') : IsSt S' := by
  refine ⟨fun o kn ho => h.1 o kn (hS.1 o kn ho), fun o k q hq => ?_⟩
  have hb := rfT_big hq
  by_cases e : o = 41
  · subst e
    rw [h.2.2 k ?_]
    · exact hS.2 41 k q hq
    · rcases Nat.lt_or_ge k 5 with z | z
      · exact Or.inl z
      · rcases Nat.lt_or_ge 8 k with z2 | z2
        · exact Or.inr z2
        · exfalso
          have e2 := rfT_41 k (by simp; omega)
          rw [e2] at hq
          cases hq
  · rw [h.2.1 o e hb]
    exact hS.2 o k q hq
theorem KP.sg {S S' : St} {r : Nat} (h : KP S r) (hg : Sg S S') : KP S' r := fun j hj => by rw [hg.2.1 15 (by decide) (by decide)]; exact h j hj
/-- the trial's own cells may change -/
def tL : List Nat := [41, 42, 43, 44, 45, 46, 47, 48, 49]
def Ft (h h' : Hp) : Prop := ∀ o, o < 76 → o ∉ tL → h' o = h o
theorem Ft.rf {h : Hp} : Ft h h := fun _ _ _ => rfl
theorem Ft.trans {h h1 h2 : Hp} (k1 : Ft h h1) (k2 : Ft h1 h2) : Ft h h2 := fun o a b => (k2 o a b).trans (k1 o a b)
theorem Ft.set {h h' : Hp} {o : Nat} {f : Nat → Int32} (k : Ft h h') (ho : o ∈ tL ∨ 76 ≤ o) : Ft h (hs h' o f) := fun j a b => by
  rw [hs_ne (fun q => by
    rcases ho with z | z
    · exact b (by rw [q]; exact z)
    · omega)]
  exact k j a b
theorem tl_q {q j : Nat} (hq : q = 43 ∨ 76 ≤ q) (hj : j < 4) : q + j ∈ tL ∨ 76 ≤ q + j := by
  rcases hq with e | e
  · left; subst e; unfold tL; simp; omega
  · right; omega
theorem MP.ft {h h' : Hp} {P : Prog} (hM : MP h 3 P) (k : Ft h h') : MP h' 3 P := by
  unfold MP
  rw [k 3 (by decide) (by decide), k (3 + 1) (by decide) (by decide), k (3 + 2) (by decide) (by decide)]
  exact hM
theorem Fnd.ft {h h' : Hp} {P : Prog} (hM : Fnd h P) (k : Ft h h') : Fnd h' P := by
  unfold Fnd SC MC FC FO
  rw [k 31 (by decide) (by decide), k 32 (by decide) (by decide), k 33 (by decide) (by decide), k 34 (by decide) (by decide), k 35 (by decide) (by decide), k 36 (by decide) (by decide), k 37 (by decide) (by decide), k 39 (by decide) (by decide), k 40 (by decide) (by decide)]
  exact hM
theorem nS_old {S : St} {o : Nat} {kn kk : Nat × Nat} (h : S.1[o]? = some kn) : (nS S kk).1[o]? = some kn := by
  show (S.1 ++ [kk])[o]? = _
  rw [List.getElem?_append_left (List.getElem?_eq_some_iff.mp h).1]
  exact h
theorem nS_new {S : St} {kk : Nat × Nat} : (nS S kk).1[S.1.length]? = some kk := by
  show (S.1 ++ [kk])[S.1.length]? = _
  simp
theorem lt_of_get {S : St} {o : Nat} {kn : Nat × Nat} (h : S.1[o]? = some kn) : o < S.1.length := (List.getElem?_eq_some_iff.mp h).1
set_option maxHeartbeats 4000000 in
set_option maxRecDepth 100000 in
theorem c_copyOf {a : Am} {S : St} {h : Hp} {o n N : Nat} (ho : S.1[o]? = some (0, n)) (hn : n < N) (hN : N ≤ 100000) : CT a 1 mJ7_copyOf_59c91 [rv a o, .int (nI N)] S h (fun v S' h' => v = some (rv a S.1.length) ∧ nS S (0, N) = S' ∧ (∀ t, t < n → h' S.1.length t = h o t) ∧ ∀ j, j ≠ S.1.length → h' j = h j) := by
  have hol := lt_of_get ho
  refine met_of (by decide +kernel) (Nat.le_of_ble_eq_true rfl) ?_
  show T a 1 mJ7_copyOf_59c91 0 [(0, rv a o), (1, .int (nI N))] [] S h _
  refine tr_iload_n (pc := 0) 1 dJ7_copyOf_59c91_0 rfl rfl ?_
  refine tr_aload_n (pc := 1) 0 dJ7_copyOf_59c91_1 rfl rfl ?_
  refine tr_alenI (pc := 2) (v := nI n) dJ7_copyOf_59c91_2 ho rfl ?_
  refine tr_icmp_ne (pc := 3) (tgt := 14) dJ7_copyOf_59c91_3 (by decide) (nI_eq (by omega) (by omega)) (fun _ => ?_) (fun hcc => absurd hcc (by omega))
  refine tr_iload_n (pc := 14) 1 dJ7_copyOf_59c91_14 rfl rfl ?_
  refine tr_newI (pc := 15) (n := N) dJ7_copyOf_59c91_15 rfl (by omega) ?_
  refine tr_astore_n (pc := 17) (lv' := [(2, rv a S.1.length), (0, rv a o), (1, .int (nI N))]) dJ7_copyOf_59c91_17 rfl (by decide) rfl ?_
  refine tr_aload_n (pc := 18) 1 dJ7_copyOf_59c91_18 rfl rfl ?_
  refine tr_iconst (pc := 19) (v := nI 0) dJ7_copyOf_59c91_19 (by decide) ?_
  refine tr_aload_n (pc := 20) 0 dJ7_copyOf_59c91_20 rfl rfl ?_
  refine tr_iconst (pc := 21) (v := nI 0) dJ7_copyOf_59c91_21 (by decide) ?_
  refine tr_aload_n (pc := 22) 1 dJ7_copyOf_59c91_22 rfl rfl ?_
  refine tr_alenI (pc := 23) (v := nI n) dJ7_copyOf_59c91_23 (nS_old ho) rfl ?_
  refine tr_iload_n (pc := 24) 2 dJ7_copyOf_59c91_24 rfl rfl ?_
  refine tr_min (pc := 25) (v := nI n) dJ7_copyOf_59c91_25 ml_J7_304 (Nat.le_of_ble_eq_true rfl) (by omega) (if_neg (by rw [nI_ltI (by omega) (by omega)]; omega)) ?_
  refine tr_acopy (pc := 28) 0 0 n dJ7_copyOf_59c91_28 ml_J7_150 (Nat.le_of_ble_eq_true rfl) (by omega) (nS_old ho) nS_new rfl rfl rfl (by omega) (by omega) (by omega) (by omega) ?_
  refine tr_aload_n (pc := 31) 0 dJ7_copyOf_59c91_31 rfl rfl ?_
  exact tr_aret (pc := 32) dJ7_copyOf_59c91_32 rfl (by
      refine ⟨rfl, rfl, fun t ht => ?_, fun j hj => ?_⟩
      · have e : nH S h o = h o := hs_ne (by omega)
        rw [hs_same, pk_cpy_in (by omega) (by omega), e]
        simp
      · rw [hs_ne hj]; exact hs_ne hj)

set_option maxHeartbeats 4000000 in
set_option maxRecDepth 100000 in
theorem c_isT_s {a : Am} {S : St} {h : Hp} (hS : IsSt S) {N : Nat} (h10 : h 41 10 = nI N) (hN : N < 2 ^ 30) {t : Nat} (ht : t < N) : CT a 0 mX8_isThing [rv a 41, .int (nI t)] S h (Rt (nI 1) S h) := by
  refine met_of (by decide +kernel) (Nat.le_of_ble_eq_true rfl) ?_
  show T a 0 mX8_isThing 0 [(0, rv a 41), (1, .int (nI t))] [] S h _
  refine tr_iload_n (pc := 0) 1 dX8_isThing_0 rfl rfl ?_
  refine tr_if_lt (pc := 1) (tgt := 16) dX8_isThing_1 (by decide) (nI_z_lt (by omega)) (fun hcc => absurd hcc (by decide)) (fun _ => ?_)
  refine tr_iload_n (pc := 4) 1 dX8_isThing_4 rfl rfl ?_
  refine tr_aload_n (pc := 5) 0 dX8_isThing_5 rfl rfl ?_
  refine tr_getI (pc := 6) (x := nI N) dX8_isThing_6 (hS.1 41 (11, 18) rfl) fi_X8_56 rfl h10 ?_
  refine tr_icmp_ge (pc := 9) (tgt := 16) dX8_isThing_9 (by decide) (nI_leI (by omega) (by omega)) (fun hcc => absurd hcc (by omega)) (fun _ => ?_)
  refine tr_iconst (pc := 12) (v := nI 1) dX8_isThing_12 (by decide) ?_
  refine tr_goto (pc := 13) (tgt := 17) dX8_isThing_13 (by decide) ?_
  exact tr_iret (pc := 17) dX8_isThing_17 rfl (by decide) (⟨rfl, rfl, rfl⟩)

set_option maxHeartbeats 4000000 in
set_option maxRecDepth 100000 in
theorem c_isT_n {a : Am} {S : St} {h : Hp} (hS : IsSt S) : CT a 0 mX8_isThing [rv a 41, .int (-1)] S h (Rt (nI 0) S h) := by
  refine met_of (by decide +kernel) (Nat.le_of_ble_eq_true rfl) ?_
  show T a 0 mX8_isThing 0 [(0, rv a 41), (1, .int (-1))] [] S h _
  refine tr_iload_n (pc := 0) 1 dX8_isThing_0 rfl rfl ?_
  refine tr_if_lt (pc := 1) (tgt := 16) dX8_isThing_1 (by decide) Iff.rfl (fun _ => ?_) (fun hcc => absurd (by decide) hcc)
  refine tr_iconst (pc := 16) (v := nI 0) dX8_isThing_16 (by decide) ?_
  exact tr_iret (pc := 17) dX8_isThing_17 rfl (by decide) (⟨rfl, rfl, rfl⟩)

set_option maxHeartbeats 4000000 in
set_option maxRecDepth 100000 in
theorem c_tinName {a : Am} {S : St} {h : Hp} (hS : IsSt S) {m x : Nat} (hm : m < 4) (hx : x < 4) : CT a 1 mX8_inName [rv a 41, .int (nI m), .int (nI x)] S h (Rt (h 42 (m * 4 + x)) S h) := by
  refine met_of (by decide +kernel) (Nat.le_of_ble_eq_true rfl) ?_
  show T a 1 mX8_inName 0 [(0, rv a 41), (1, .int (nI m)), (2, .int (nI x))] [] S h _
  refine tr_iload_n (pc := 0) 1 dX8_inName_0 rfl rfl ?_
  refine tr_iconst (pc := 1) (v := nI 4) dX8_inName_1 (by decide) ?_
  refine tr_callSN (pc := 2) (rest := []) dX8_inName_2 nl_X8_71 cs_X9_isOutside rfl rfl (Nat.le_of_ble_eq_true rfl) (by omega) (c_isOut_in hm (by omega)) ?_
  rintro _ _ _ ⟨rfl, rfl, rfl⟩
  show T a 1 mX8_inName 5 [(0, rv a 41), (1, .int (nI m)), (2, .int (nI x))] [.int (nI 0)] S h _
  refine tr_if_ne (pc := 5) (tgt := 16) dX8_inName_5 (by decide) (nI_z_eq (by omega)) (fun hcc => absurd (by decide) hcc) (fun _ => ?_)
  refine tr_iload_n (pc := 8) 2 dX8_inName_8 rfl rfl ?_
  refine tr_iconst (pc := 9) (v := nI 4) dX8_inName_9 (by decide) ?_
  refine tr_callSN (pc := 10) (rest := []) dX8_inName_10 nl_X8_71 cs_X9_isOutside rfl rfl (Nat.le_of_ble_eq_true rfl) (by omega) (c_isOut_in hx (by omega)) ?_
  rintro _ _ _ ⟨rfl, rfl, rfl⟩
  show T a 1 mX8_inName 13 [(0, rv a 41), (1, .int (nI m)), (2, .int (nI x))] [.int (nI 0)] S h _
  refine tr_if_eq (pc := 13) (tgt := 20) dX8_inName_13 (by decide) (nI_z_eq (by omega)) (fun _ => ?_) (fun hcc => absurd (by decide) hcc)
  refine tr_aload_n (pc := 20) 0 dX8_inName_20 rfl rfl ?_
  refine tr_getR (pc := 21) (q := 42) dX8_inName_21 (hS.1 41 (11, 18) rfl) fi_X8_9 rfl (hS.2 41 3 42 rfl) ?_
  refine tr_iload_n (pc := 24) 1 dX8_inName_24 rfl rfl ?_
  refine tr_iconst (pc := 25) (v := nI 4) dX8_inName_25 (by decide) ?_
  refine tr_imul (pc := 26) (v := nI (m * 4)) dX8_inName_26 (pk_mul _ _) ?_
  refine tr_iload_n (pc := 27) 2 dX8_inName_27 rfl rfl ?_
  refine tr_iadd (pc := 28) (v := nI (m * 4 + x)) dX8_inName_28 (nI_add _ _) ?_
  refine tr_iald (pc := 29) (v := h 42 (m * 4 + x)) (m * 4 + x) dX8_inName_29 (hS.1 42 (0, 16) rfl) rfl (by omega) (by decide) rfl ?_
  exact tr_iret (pc := 30) dX8_inName_30 rfl rfl (⟨rfl, rfl, rfl⟩)

set_option maxHeartbeats 4000000 in
set_option maxRecDepth 100000 in
theorem c_tsetName {a : Am} {S : St} {h : Hp} (hS : IsSt S) {m x : Nat} (hm : m < 4) (hx : x < 4) {v : Int32} : CT a 1 mX8_setName [rv a 41, .int (nI m), .int (nI x), .int v] S h (Rv S (hs h 42 (upd (h 42) (m * 4 + x) v))) := by
  refine met_of (by decide +kernel) (Nat.le_of_ble_eq_true rfl) ?_
  show T a 1 mX8_setName 0 [(0, rv a 41), (1, .int (nI m)), (2, .int (nI x)), (3, .int v)] [] S h _
  refine tr_iload_n (pc := 0) 1 dX8_setName_0 rfl rfl ?_
  refine tr_iconst (pc := 1) (v := nI 4) dX8_setName_1 (by decide) ?_
  refine tr_callSN (pc := 2) (rest := []) dX8_setName_2 nl_X8_71 cs_X9_isOutside rfl rfl (Nat.le_of_ble_eq_true rfl) (by omega) (c_isOut_in hm (by omega)) ?_
  rintro _ _ _ ⟨rfl, rfl, rfl⟩
  show T a 1 mX8_setName 5 [(0, rv a 41), (1, .int (nI m)), (2, .int (nI x)), (3, .int v)] [.int (nI 0)] S h _
  refine tr_if_ne (pc := 5) (tgt := 27) dX8_setName_5 (by decide) (nI_z_eq (by omega)) (fun hcc => absurd (by decide) hcc) (fun _ => ?_)
  refine tr_iload_n (pc := 8) 2 dX8_setName_8 rfl rfl ?_
  refine tr_iconst (pc := 9) (v := nI 4) dX8_setName_9 (by decide) ?_
  refine tr_callSN (pc := 10) (rest := []) dX8_setName_10 nl_X8_71 cs_X9_isOutside rfl rfl (Nat.le_of_ble_eq_true rfl) (by omega) (c_isOut_in hx (by omega)) ?_
  rintro _ _ _ ⟨rfl, rfl, rfl⟩
  show T a 1 mX8_setName 13 [(0, rv a 41), (1, .int (nI m)), (2, .int (nI x)), (3, .int v)] [.int (nI 0)] S h _
  refine tr_if_ne (pc := 13) (tgt := 27) dX8_setName_13 (by decide) (nI_z_eq (by omega)) (fun hcc => absurd (by decide) hcc) (fun _ => ?_)
  refine tr_aload_n (pc := 16) 0 dX8_setName_16 rfl rfl ?_
  refine tr_getR (pc := 17) (q := 42) dX8_setName_17 (hS.1 41 (11, 18) rfl) fi_X8_9 rfl (hS.2 41 3 42 rfl) ?_
  refine tr_iload_n (pc := 20) 1 dX8_setName_20 rfl rfl ?_
  refine tr_iconst (pc := 21) (v := nI 4) dX8_setName_21 (by decide) ?_
  refine tr_imul (pc := 22) (v := nI (m * 4)) dX8_setName_22 (pk_mul _ _) ?_
  refine tr_iload_n (pc := 23) 2 dX8_setName_23 rfl rfl ?_
  refine tr_iadd (pc := 24) (v := nI (m * 4 + x)) dX8_setName_24 (nI_add _ _) ?_
  refine tr_iload_n (pc := 25) 3 dX8_setName_25 rfl rfl ?_
  refine tr_iast (pc := 26) (m * 4 + x) dX8_setName_26 (hS.1 42 (0, 16) rfl) rfl (by omega) (by decide) ?_
  exact tr_vret (pc := 27) dX8_setName_27 rfl (⟨rfl, rfl, rfl⟩)

set_option maxHeartbeats 4000000 in
set_option maxRecDepth 100000 in
theorem c_tput_s {a : Am} {S : St} {h : Hp} (hS : IsSt S) {q cap : Nat} (hQ : TQ S q cap) {N : Nat} (h10 : h 41 10 = nI N) (hNc : N ≤ cap) {t : Nat} (ht : t < N) {v : Int32} : CT a 1 mX8_putIntoField [rv a 41, .int (nI t), .int v] S h (Rv S (hs h (q + 1) (upd (h (q + 1)) t v))) := by
  obtain ⟨⟨r5, r6, r7, r8⟩, ⟨z0, z1, z2, z3⟩, hq, hc1, hc2, hlev⟩ := id hQ
  refine met_of (by decide +kernel) (Nat.le_of_ble_eq_true rfl) ?_
  show T a 1 mX8_putIntoField 0 [(0, rv a 41), (1, .int (nI t)), (2, .int v)] [] S h _
  refine tr_aload_n (pc := 0) 0 dX8_putIntoField_0 rfl rfl ?_
  refine tr_iload_n (pc := 1) 1 dX8_putIntoField_1 rfl rfl ?_
  refine tr_callV (pc := 2) (rest := []) (ci := 8) dX8_putIntoField_2 ml_X8_75 cv_X8_isThing rfl rfl (Nat.le_of_ble_eq_true rfl) (hS.1 41 (11, 18) rfl) rfl (by decide) (c_isT_s hS h10 (by omega) ht) ?_
  rintro _ _ _ ⟨rfl, rfl, rfl⟩
  show T a 1 mX8_putIntoField 5 [(0, rv a 41), (1, .int (nI t)), (2, .int v)] [.int (nI 1)] S h _
  refine tr_if_eq (pc := 5) (tgt := 18) dX8_putIntoField_5 (by decide) (nI_z_eq (by omega)) (fun hcc => absurd hcc (by decide)) (fun _ => ?_)
  refine tr_aload_n (pc := 8) 0 dX8_putIntoField_8 rfl rfl ?_
  refine tr_getR (pc := 9) (q := q + 1) dX8_putIntoField_9 (hS.1 41 (11, 18) rfl) fi_X8_22 rfl r6 ?_
  refine tr_iload_n (pc := 12) 1 dX8_putIntoField_12 rfl rfl ?_
  refine tr_iload_n (pc := 13) 2 dX8_putIntoField_13 rfl rfl ?_
  refine tr_iast (pc := 14) t dX8_putIntoField_14 z1 rfl (by omega) (by omega) ?_
  refine tr_goto (pc := 15) (tgt := 23) dX8_putIntoField_15 (by decide) ?_
  exact tr_vret (pc := 23) dX8_putIntoField_23 rfl (⟨rfl, rfl, rfl⟩)

set_option maxHeartbeats 4000000 in
set_option maxRecDepth 100000 in
theorem c_tput_n {a : Am} {S : St} {h : Hp} (hS : IsSt S) {v : Int32} : CT a 1 mX8_putIntoField [rv a 41, .int (-1), .int v] S h (Rv S (hs h 41 (upd (h 41) 9 (nI 1)))) := by
  refine met_of (by decide +kernel) (Nat.le_of_ble_eq_true rfl) ?_
  show T a 1 mX8_putIntoField 0 [(0, rv a 41), (1, .int (-1)), (2, .int v)] [] S h _
  refine tr_aload_n (pc := 0) 0 dX8_putIntoField_0 rfl rfl ?_
  refine tr_iload_n (pc := 1) 1 dX8_putIntoField_1 rfl rfl ?_
  refine tr_callV (pc := 2) (rest := []) (ci := 8) dX8_putIntoField_2 ml_X8_75 cv_X8_isThing rfl rfl (Nat.le_of_ble_eq_true rfl) (hS.1 41 (11, 18) rfl) rfl (by decide) (c_isT_n hS) ?_
  rintro _ _ _ ⟨rfl, rfl, rfl⟩
  show T a 1 mX8_putIntoField 5 [(0, rv a 41), (1, .int (-1)), (2, .int v)] [.int (nI 0)] S h _
  refine tr_if_eq (pc := 5) (tgt := 18) dX8_putIntoField_5 (by decide) (nI_z_eq (by omega)) (fun _ => ?_) (fun hcc => absurd (by decide) hcc)
  refine tr_aload_n (pc := 18) 0 dX8_putIntoField_18 rfl rfl ?_
  refine tr_iconst (pc := 19) (v := nI 1) dX8_putIntoField_19 (by decide) ?_
  refine tr_putI (pc := 20) (x := nI 1) dX8_putIntoField_20 (hS.1 41 (11, 18) rfl) fi_X8_52 rfl (by decide) (by decide) ?_
  exact tr_vret (pc := 23) dX8_putIntoField_23 rfl (⟨rfl, rfl, rfl⟩)

set_option maxHeartbeats 4000000 in
set_option maxRecDepth 100000 in
theorem c_ttake_s {a : Am} {S : St} {h : Hp} (hS : IsSt S) {q cap : Nat} (hQ : TQ S q cap) {N : Nat} (h10 : h 41 10 = nI N) (hNc : N ≤ cap) {t : Nat} (ht : t < N) : CT a 1 mX8_takeFromField [rv a 41, .int (nI t)] S h (Rt (h (q + 1) t) S h) := by
  obtain ⟨⟨r5, r6, r7, r8⟩, ⟨z0, z1, z2, z3⟩, hq, hc1, hc2, hlev⟩ := id hQ
  refine met_of (by decide +kernel) (Nat.le_of_ble_eq_true rfl) ?_
  show T a 1 mX8_takeFromField 0 [(0, rv a 41), (1, .int (nI t))] [] S h _
  refine tr_aload_n (pc := 0) 0 dX8_takeFromField_0 rfl rfl ?_
  refine tr_iload_n (pc := 1) 1 dX8_takeFromField_1 rfl rfl ?_
  refine tr_callV (pc := 2) (rest := []) (ci := 8) dX8_takeFromField_2 ml_X8_75 cv_X8_isThing rfl rfl (Nat.le_of_ble_eq_true rfl) (hS.1 41 (11, 18) rfl) rfl (by decide) (c_isT_s hS h10 (by omega) ht) ?_
  rintro _ _ _ ⟨rfl, rfl, rfl⟩
  show T a 1 mX8_takeFromField 5 [(0, rv a 41), (1, .int (nI t))] [.int (nI 1)] S h _
  refine tr_if_eq (pc := 5) (tgt := 15) dX8_takeFromField_5 (by decide) (nI_z_eq (by omega)) (fun hcc => absurd hcc (by decide)) (fun _ => ?_)
  refine tr_aload_n (pc := 8) 0 dX8_takeFromField_8 rfl rfl ?_
  refine tr_getR (pc := 9) (q := q + 1) dX8_takeFromField_9 (hS.1 41 (11, 18) rfl) fi_X8_22 rfl r6 ?_
  refine tr_iload_n (pc := 12) 1 dX8_takeFromField_12 rfl rfl ?_
  refine tr_iald (pc := 13) (v := h (q + 1) t) t dX8_takeFromField_13 z1 rfl (by omega) (by omega) rfl ?_
  exact tr_iret (pc := 14) dX8_takeFromField_14 rfl rfl (⟨rfl, rfl, rfl⟩)

set_option maxHeartbeats 4000000 in
set_option maxRecDepth 100000 in
theorem c_ttake_n {a : Am} {S : St} {h : Hp} (hS : IsSt S) : CT a 1 mX8_takeFromField [rv a 41, .int (-1)] S h (fun v S' h' => v = some (.int (-1)) ∧ S = S' ∧ hs h 41 (upd (h 41) 9 (nI 1)) = h') := by
  refine met_of (by decide +kernel) (Nat.le_of_ble_eq_true rfl) ?_
  show T a 1 mX8_takeFromField 0 [(0, rv a 41), (1, .int (-1))] [] S h _
  refine tr_aload_n (pc := 0) 0 dX8_takeFromField_0 rfl rfl ?_
  refine tr_iload_n (pc := 1) 1 dX8_takeFromField_1 rfl rfl ?_
  refine tr_callV (pc := 2) (rest := []) (ci := 8) dX8_takeFromField_2 ml_X8_75 cv_X8_isThing rfl rfl (Nat.le_of_ble_eq_true rfl) (hS.1 41 (11, 18) rfl) rfl (by decide) (c_isT_n hS) ?_
  rintro _ _ _ ⟨rfl, rfl, rfl⟩
  show T a 1 mX8_takeFromField 5 [(0, rv a 41), (1, .int (-1))] [.int (nI 0)] S h _
  refine tr_if_eq (pc := 5) (tgt := 15) dX8_takeFromField_5 (by decide) (nI_z_eq (by omega)) (fun _ => ?_) (fun hcc => absurd (by decide) hcc)
  refine tr_aload_n (pc := 15) 0 dX8_takeFromField_15 rfl rfl ?_
  refine tr_iconst (pc := 16) (v := nI 1) dX8_takeFromField_16 (by decide) ?_
  refine tr_putI (pc := 17) (x := nI 1) dX8_takeFromField_17 (hS.1 41 (11, 18) rfl) fi_X8_52 rfl (by decide) (by decide) ?_
  refine tr_iconst (pc := 20) (v := -1) dX8_takeFromField_20 (by decide) ?_
  exact tr_iret (pc := 21) dX8_takeFromField_21 rfl rfl (⟨rfl, rfl, rfl⟩)

theorem q_ne {q j k : Nat} (hq : q = 43 ∨ 76 ≤ q) (hj : j < 4) (hk : k < 43 ∨ (46 < k ∧ k < 76)) : q + j ≠ k := by omega
theorem q_ne0 {q k : Nat} (hq : q = 43 ∨ 76 ≤ q) (hk : k < 43 ∨ (46 < k ∧ k < 76)) : q ≠ k := by omega
set_option maxHeartbeats 4000000 in
set_option maxRecDepth 100000 in
theorem c_tlock_s {a : Am} {S : St} {h : Hp} (hS : IsSt S) {q cap : Nat} (hQ : TQ S q cap) {N : Nat} (h10 : h 41 10 = nI N) (hNc : N ≤ cap) {t s : Nat} (ht : t < N) (hst : h q t = nI s) (hs32 : s < 32) {x : Int32} : CT a 1 mX8_lock [rv a 41, .int (nI t), .int x] S h (Rv S (hs (hs (hs h 41 (upd (h 41) 11 (h 41 11 + nI 1))) 41 (upd (upd (h 41) 11 (h 41 11 + nI 1)) 12 (h 41 12 + x))) 49 (upd (h 49) s (h 49 s + nI 1)))) := by
  obtain ⟨⟨r5, r6, r7, r8⟩, ⟨z0, z1, z2, z3⟩, hq, hc1, hc2, hlev⟩ := id hQ
  refine met_of (by decide +kernel) (Nat.le_of_ble_eq_true rfl) ?_
  show T a 1 mX8_lock 0 [(0, rv a 41), (1, .int (nI t)), (2, .int x)] [] S h _
  refine tr_aload_n (pc := 0) 0 dX8_lock_0 rfl rfl ?_
  refine tr_iload_n (pc := 1) 1 dX8_lock_1 rfl rfl ?_
  refine tr_callV (pc := 2) (rest := []) (ci := 8) dX8_lock_2 ml_X8_75 cv_X8_isThing rfl rfl (Nat.le_of_ble_eq_true rfl) (hS.1 41 (11, 18) rfl) rfl (by decide) (c_isT_s hS h10 (by omega) ht) ?_
  rintro _ _ _ ⟨rfl, rfl, rfl⟩
  show T a 1 mX8_lock 5 [(0, rv a 41), (1, .int (nI t)), (2, .int x)] [.int (nI 1)] S h _
  refine tr_if_eq (pc := 5) (tgt := 46) dX8_lock_5 (by decide) (nI_z_eq (by omega)) (fun hcc => absurd hcc (by decide)) (fun _ => ?_)
  refine tr_aload_n (pc := 8) 0 dX8_lock_8 rfl rfl ?_
  refine tr_dup (pc := 9) dX8_lock_9 rfl ?_
  refine tr_getI (pc := 10) (x := h 41 11) dX8_lock_10 (hS.1 41 (11, 18) rfl) fi_X8_59 rfl rfl ?_
  refine tr_iconst (pc := 13) (v := nI 1) dX8_lock_13 (by decide) ?_
  refine tr_iadd (pc := 14) (v := (h 41 11) + (nI 1)) dX8_lock_14 rfl ?_
  refine tr_putI (pc := 15) (x := (h 41 11) + (nI 1)) dX8_lock_15 (hS.1 41 (11, 18) rfl) fi_X8_59 rfl rfl rfl ?_
  refine tr_aload_n (pc := 18) 0 dX8_lock_18 rfl rfl ?_
  refine tr_dup (pc := 19) dX8_lock_19 rfl ?_
  refine tr_getI (pc := 20) (x := h 41 12) dX8_lock_20 (hS.1 41 (11, 18) rfl) fi_X8_62 rfl rfl ?_
  refine tr_iload_n (pc := 23) 2 dX8_lock_23 rfl rfl ?_
  refine tr_iadd (pc := 24) (v := (h 41 12) + x) dX8_lock_24 rfl ?_
  refine tr_putI (pc := 25) (x := (h 41 12) + x) dX8_lock_25 (hS.1 41 (11, 18) rfl) fi_X8_62 rfl rfl rfl ?_
  refine tr_aload_n (pc := 28) 0 dX8_lock_28 rfl rfl ?_
  refine tr_getR (pc := 29) (q := 49) dX8_lock_29 (hS.1 41 (11, 18) rfl) fi_X8_37 rfl (hS.2 41 17 49 rfl) ?_
  refine tr_aload_n (pc := 32) 0 dX8_lock_32 rfl rfl ?_
  refine tr_getR (pc := 33) (q := q) dX8_lock_33 (hS.1 41 (11, 18) rfl) fi_X8_19 rfl r5 ?_
  refine tr_iload_n (pc := 36) 1 dX8_lock_36 rfl rfl ?_
  refine tr_iald (pc := 37) (v := nI s) t dX8_lock_37 z0 rfl (by omega) (by omega) (by rw [hs_ne (q_ne0 hq (by decide)), hs_ne (q_ne0 hq (by decide))]; exact hst) ?_
  refine tr_dup2 (pc := 38) dX8_lock_38 rfl rfl ?_
  refine tr_iald (pc := 39) (v := h 49 s) s dX8_lock_39 (hS.1 49 (0, 32) rfl) rfl (by omega) (by decide) rfl ?_
  refine tr_iconst (pc := 40) (v := nI 1) dX8_lock_40 (by decide) ?_
  refine tr_iadd (pc := 41) (v := (h 49 s) + (nI 1)) dX8_lock_41 rfl ?_
  refine tr_iast (pc := 42) s dX8_lock_42 (hS.1 49 (0, 32) rfl) rfl (by omega) (by decide) ?_
  refine tr_goto (pc := 43) (tgt := 51) dX8_lock_43 (by decide) ?_
  exact tr_vret (pc := 51) dX8_lock_51 rfl (⟨rfl, rfl, rfl⟩)

set_option maxHeartbeats 4000000 in
set_option maxRecDepth 100000 in
theorem c_tlock_n {a : Am} {S : St} {h : Hp} (hS : IsSt S) {x : Int32} : CT a 1 mX8_lock [rv a 41, .int (-1), .int x] S h (Rv S (hs h 41 (upd (h 41) 9 (nI 1)))) := by
  refine met_of (by decide +kernel) (Nat.le_of_ble_eq_true rfl) ?_
  show T a 1 mX8_lock 0 [(0, rv a 41), (1, .int (-1)), (2, .int x)] [] S h _
  refine tr_aload_n (pc := 0) 0 dX8_lock_0 rfl rfl ?_
  refine tr_iload_n (pc := 1) 1 dX8_lock_1 rfl rfl ?_
  refine tr_callV (pc := 2) (rest := []) (ci := 8) dX8_lock_2 ml_X8_75 cv_X8_isThing rfl rfl (Nat.le_of_ble_eq_true rfl) (hS.1 41 (11, 18) rfl) rfl (by decide) (c_isT_n hS) ?_
  rintro _ _ _ ⟨rfl, rfl, rfl⟩
  show T a 1 mX8_lock 5 [(0, rv a 41), (1, .int (-1)), (2, .int x)] [.int (nI 0)] S h _
  refine tr_if_eq (pc := 5) (tgt := 46) dX8_lock_5 (by decide) (nI_z_eq (by omega)) (fun _ => ?_) (fun hcc => absurd (by decide) hcc)
  refine tr_aload_n (pc := 46) 0 dX8_lock_46 rfl rfl ?_
  refine tr_iconst (pc := 47) (v := nI 1) dX8_lock_47 (by decide) ?_
  refine tr_putI (pc := 48) (x := nI 1) dX8_lock_48 (hS.1 41 (11, 18) rfl) fi_X8_52 rfl (by decide) (by decide) ?_
  exact tr_vret (pc := 51) dX8_lock_51 rfl (⟨rfl, rfl, rfl⟩)

/-- a reference put into a field of an object -/
abbrev pR (S : St) (o k q : Nat) : St := (S.1, gs S.2 o (va_up (S.2 o) k (some q)))
theorem pR_o {S : St} {o k q j : Nat} (h : j ≠ o) : (pR S o k q).2 j = S.2 j := gs_ne h
theorem pR_s {S : St} {o k q : Nat} : (pR S o k q).2 o k = some q := by show gs S.2 o _ o k = _; rw [gs_same]; simp [va_up]
theorem pR_n {S : St} {o k q j : Nat} (h : j ≠ k) : (pR S o k q).2 o j = S.2 o j := by show gs S.2 o _ o j = _; rw [gs_same]; simp [va_up, h]
theorem nS_2 {S : St} {kk : Nat × Nat} {j : Nat} (h : j ≠ S.1.length) : (nS S kk).2 j = S.2 j := gs_ne h
theorem tot_n {S : St} {kk : Nat × Nat} : tot (nS S kk) = tot S + kk.2 := by simp [tot]
theorem tot_p {S : St} {o k q : Nat} : tot (pR S o k q) = tot S := rfl
theorem len_n {S : St} {kk : Nat × Nat} : (nS S kk).1.length = S.1.length + 1 := by simp
theorem mm_tq {S : St} {q cap : Nat} (hQ : TQ S q cap) (hc : cap < 4096) (hS : IsSt S) {S1 S2 S3 S4 : St} (e1 : S1 = pR (nS S (0, 2 * cap)) 41 5 S.1.length) (e2 : S2 = pR (nS S1 (0, 2 * cap)) 41 6 S1.1.length) (e3 : S3 = pR (nS S2 (0, 2 * cap)) 41 7 S2.1.length) (e4 : S4 = pR (nS S3 (0, 2 * cap)) 41 8 S3.1.length) : TQ S4 S.1.length (2 * cap) ∧ Sg S S4 := by
  obtain ⟨⟨r5, r6, r7, r8⟩, ⟨z0, z1, z2, z3⟩, hq, hc1, hc2, lev, l1, l2, l3⟩ := hQ
  have n1 : S1.1.length = S.1.length + 1 := by rw [e1]; exact len_n
  have n2 : S2.1.length = S.1.length + 2 := by rw [e2]; exact (len_n (S := S1)).trans (by omega)
  have n3 : S3.1.length = S.1.length + 3 := by rw [e3]; exact (len_n (S := S2)).trans (by omega)
  have n4 : S4.1.length = S.1.length + 4 := by rw [e4]; exact (len_n (S := S3)).trans (by omega)
  have t1 : tot S1 = tot S + 2 * cap := by rw [e1]; exact tot_n
  have t2 : tot S2 = tot S + 4 * cap := by rw [e2]; exact (tot_n (S := S1)).trans (by show tot S1 + 2 * cap = _; omega)
  have t3 : tot S3 = tot S + 6 * cap := by rw [e3]; exact (tot_n (S := S2)).trans (by show tot S2 + 2 * cap = _; omega)
  have t4 : tot S4 = tot S + 8 * cap := by rw [e4]; exact (tot_n (S := S3)).trans (by show tot S3 + 2 * cap = _; omega)
  have o1 : ∀ (o : Nat) (kn : Nat × Nat), S.1[o]? = some kn → S1.1[o]? = some kn := fun o kn h => by rw [e1]; exact nS_old h
  have o2 : ∀ (o : Nat) (kn : Nat × Nat), S1.1[o]? = some kn → S2.1[o]? = some kn := fun o kn h => by rw [e2]; exact nS_old h
  have o3 : ∀ (o : Nat) (kn : Nat × Nat), S2.1[o]? = some kn → S3.1[o]? = some kn := fun o kn h => by rw [e3]; exact nS_old h
  have o4 : ∀ (o : Nat) (kn : Nat × Nat), S3.1[o]? = some kn → S4.1[o]? = some kn := fun o kn h => by rw [e4]; exact nS_old h
  have k1 : S1.1[S.1.length]? = some (0, 2 * cap) := by rw [e1]; exact nS_new
  have k2 : S2.1[S1.1.length]? = some (0, 2 * cap) := by rw [e2]; exact nS_new
  have k3 : S3.1[S2.1.length]? = some (0, 2 * cap) := by rw [e3]; exact nS_new
  have k4 : S4.1[S3.1.length]? = some (0, 2 * cap) := by rw [e4]; exact nS_new
  rw [n1] at k2
  rw [n2] at k3
  rw [n3] at k4
  have hL : 76 ≤ S.1.length := by omega
  have f1 : ∀ j, S1.2 41 j = if j = 5 then some S.1.length else S.2 41 j := fun j => by
    rw [e1]
    by_cases w : j = 5
    · subst w; rw [pR_s, if_pos rfl]
    · rw [pR_n w, if_neg w, nS_2 (by omega)]
  have f2 : ∀ j, S2.2 41 j = if j = 6 then some (S.1.length + 1) else S1.2 41 j := fun j => by
    rw [e2]
    by_cases w : j = 6
    · subst w; rw [pR_s, if_pos rfl, n1]
    · rw [pR_n w, if_neg w, nS_2 (by omega)]
  have f3 : ∀ j, S3.2 41 j = if j = 7 then some (S.1.length + 2) else S2.2 41 j := fun j => by
    rw [e3]
    by_cases w : j = 7
    · subst w; rw [pR_s, if_pos rfl, n2]
    · rw [pR_n w, if_neg w, nS_2 (by omega)]
  have f4 : ∀ j, S4.2 41 j = if j = 8 then some (S.1.length + 3) else S3.2 41 j := fun j => by
    rw [e4]
    by_cases w : j = 8
    · subst w; rw [pR_s, if_pos rfl, n3]
    · rw [pR_n w, if_neg w, nS_2 (by omega)]
  have hp : 2 ^ lev < 128 := by omega
  have hcap2 : 2 * cap = 32 * 2 ^ (lev + 1) := by rw [Nat.pow_succ]; omega
  have hle : lev + 1 ≤ 7 := by
    rcases Nat.lt_or_ge lev 7 with w | w
    · omega
    · have := Nat.pow_le_pow_right (show 0 < 2 by decide) w
      omega
  have hcap3 : 2 * cap ≤ 4096 := by
    have := Nat.pow_le_pow_right (show 0 < 2 by decide) hle
    omega
  refine ⟨⟨⟨?_, ?_, ?_, ?_⟩, ⟨?_, ?_, ?_, ?_⟩, Or.inr hL, hcap3, by omega, lev + 1, hcap2, by omega, by omega⟩, ⟨fun o kn h => o4 _ _ (o3 _ _ (o2 _ _ (o1 _ _ h))), fun o w1 w2 => ?_, fun k w => ?_⟩⟩
  · rw [f4, f3, f2, f1]; rfl
  · rw [f4, f3, f2]; rfl
  · rw [f4, f3]; rfl
  · rw [f4]; rfl
  · exact o4 _ _ (o3 _ _ (o2 _ _ k1))
  · exact o4 _ _ (o3 _ _ k2)
  · exact o4 _ _ k3
  · exact k4
  · rw [e4, pR_o w1, nS_2 (by omega), e3, pR_o w1, nS_2 (by omega), e2, pR_o w1, nS_2 (by omega), e1, pR_o w1, nS_2 (by omega)]
  · rw [f4, f3, f2, f1, if_neg (by omega), if_neg (by omega), if_neg (by omega), if_neg (by omega)]
set_option maxHeartbeats 4000000 in
set_option maxRecDepth 100000 in
theorem c_more {a : Am} {S : St} {h : Hp} (hS : IsSt S) {q cap : Nat} (hQ : TQ S q cap) (hcc : cap < 4096) : CT a 2 mX8_makeMoreRoom [rv a 41] S h (fun v S' h' => v = none ∧ TQ S' S.1.length (2 * cap) ∧ Sg S S' ∧ (∀ j t, j < 4 → t < cap → h' (S.1.length + j) t = h (q + j) t) ∧ ∀ j, j < S.1.length → h' j = h j) := by
  obtain ⟨⟨r5, r6, r7, r8⟩, ⟨z0, z1, z2, z3⟩, hq, hc1, hc2, hlev⟩ := id hQ
  have y0_41 : S.1[41]? = some (11, 18) := hS.1 41 _ rfl
  have y0_0 := z0
  have y0_1 := z1
  have y0_2 := z2
  have y0_3 := z3
  have u0_1 := r6
  have u0_2 := r7
  have u0_3 := r8
  refine met_of (by decide +kernel) (Nat.le_of_ble_eq_true rfl) ?_
  show T a 2 mX8_makeMoreRoom 0 [(0, rv a 41)] [] S h _
  refine tr_aload_n (pc := 0) 0 dX8_makeMoreRoom_0 rfl rfl ?_
  refine tr_getR (pc := 1) (q := q) dX8_makeMoreRoom_1 (hS.1 41 (11, 18) rfl) fi_X8_19 rfl r5 ?_
  refine tr_alenI (pc := 4) (v := nI cap) dX8_makeMoreRoom_4 z0 rfl ?_
  refine tr_iconst (pc := 5) (v := nI 2) dX8_makeMoreRoom_5 (by decide) ?_
  refine tr_imul (pc := 6) (v := nI (2 * cap)) dX8_makeMoreRoom_6 (by rw [pk_mul, Nat.mul_comm]) ?_
  refine tr_istore_n (pc := 7) (lv' := [(1, .int (nI (2 * cap))), (0, rv a 41)]) dX8_makeMoreRoom_7 rfl (by decide) rfl ?_
  refine tr_aload_n (pc := 8) 1 dX8_makeMoreRoom_8 rfl rfl ?_
  refine tr_aload_n (pc := 9) 1 dX8_makeMoreRoom_9 rfl rfl ?_
  refine tr_getR (pc := 10) (q := q) dX8_makeMoreRoom_10 (hS.1 41 (11, 18) rfl) fi_X8_19 rfl r5 ?_
  refine tr_iload_n (pc := 13) 0 dX8_makeMoreRoom_13 rfl rfl ?_
  refine tr_callS (pc := 14) (rest := [rv a 41]) dX8_makeMoreRoom_14 ml_X8_153 cs_J7_copyOf_59c91 rfl rfl (Nat.le_of_ble_eq_true rfl) (by decide) (c_copyOf y0_0 (by omega) (by omega)) ?_
  rintro v1 S1a h1 ⟨rfl, rfl, ha1, hk1⟩
  show T a 2 mX8_makeMoreRoom 17 [(1, .int (nI (2 * cap))), (0, rv a 41)] [rv a S.1.length, rv a 41] (nS S (0, 2 * cap)) h1 _
  refine tr_putR (pc := 17) dX8_makeMoreRoom_17 (nS_old y0_41) fi_X8_19 rfl (Or.inl rfl) (fun _ => rfl) (fun _ => rfl) ?_
  obtain ⟨S1b, eS1⟩ : ∃ X, X = pR (nS S (0, 2 * cap)) 41 5 S.1.length := ⟨_, rfl⟩
  rw [show ((nS S (0, 2 * cap)).1, gs (nS S (0, 2 * cap)).2 41 (va_up ((nS S (0, 2 * cap)).2 41) 5 (some S.1.length))) = S1b from eS1.symm]
  have y1_41 : S1b.1[41]? = some (11, 18) := by rw [eS1]; exact nS_old y0_41
  have y1_0 : S1b.1[q]? = some (0, cap) := by rw [eS1]; exact nS_old y0_0
  have y1_1 : S1b.1[q + 1]? = some (0, cap) := by rw [eS1]; exact nS_old y0_1
  have y1_2 : S1b.1[q + 2]? = some (0, cap) := by rw [eS1]; exact nS_old y0_2
  have y1_3 : S1b.1[q + 3]? = some (0, cap) := by rw [eS1]; exact nS_old y0_3
  have u1_1 : S1b.2 41 6 = some (q + 1) := by rw [eS1, pR_n (by decide), nS_2 (by have := lt_of_get y0_41; omega)]; exact u0_1
  have u1_2 : S1b.2 41 7 = some (q + 2) := by rw [eS1, pR_n (by decide), nS_2 (by have := lt_of_get y0_41; omega)]; exact u0_2
  have u1_3 : S1b.2 41 8 = some (q + 3) := by rw [eS1, pR_n (by decide), nS_2 (by have := lt_of_get y0_41; omega)]; exact u0_3
  refine tr_aload_n (pc := 20) 1 dX8_makeMoreRoom_20 rfl rfl ?_
  refine tr_aload_n (pc := 21) 1 dX8_makeMoreRoom_21 rfl rfl ?_
  refine tr_getR (pc := 22) (q := q + 1) dX8_makeMoreRoom_22 y1_41 fi_X8_22 rfl u1_1 ?_
  refine tr_iload_n (pc := 25) 0 dX8_makeMoreRoom_25 rfl rfl ?_
  refine tr_callS (pc := 26) (rest := [rv a 41]) dX8_makeMoreRoom_26 ml_X8_153 cs_J7_copyOf_59c91 rfl rfl (Nat.le_of_ble_eq_true rfl) (by decide) (c_copyOf y1_1 (by omega) (by omega)) ?_
  rintro v2 S2a h2 ⟨rfl, rfl, ha2, hk2⟩
  show T a 2 mX8_makeMoreRoom 29 [(1, .int (nI (2 * cap))), (0, rv a 41)] [rv a S1b.1.length, rv a 41] (nS S1b (0, 2 * cap)) h2 _
  refine tr_putR (pc := 29) dX8_makeMoreRoom_29 (nS_old y1_41) fi_X8_22 rfl (Or.inl rfl) (fun _ => rfl) (fun _ => rfl) ?_
  obtain ⟨S2b, eS2⟩ : ∃ X, X = pR (nS S1b (0, 2 * cap)) 41 6 S1b.1.length := ⟨_, rfl⟩
  rw [show ((nS S1b (0, 2 * cap)).1, gs (nS S1b (0, 2 * cap)).2 41 (va_up ((nS S1b (0, 2 * cap)).2 41) 6 (some S1b.1.length))) = S2b from eS2.symm]
  have y2_41 : S2b.1[41]? = some (11, 18) := by rw [eS2]; exact nS_old y1_41
  have y2_0 : S2b.1[q]? = some (0, cap) := by rw [eS2]; exact nS_old y1_0
  have y2_1 : S2b.1[q + 1]? = some (0, cap) := by rw [eS2]; exact nS_old y1_1
  have y2_2 : S2b.1[q + 2]? = some (0, cap) := by rw [eS2]; exact nS_old y1_2
  have y2_3 : S2b.1[q + 3]? = some (0, cap) := by rw [eS2]; exact nS_old y1_3
  have u2_2 : S2b.2 41 7 = some (q + 2) := by rw [eS2, pR_n (by decide), nS_2 (by have := lt_of_get y1_41; omega)]; exact u1_2
  have u2_3 : S2b.2 41 8 = some (q + 3) := by rw [eS2, pR_n (by decide), nS_2 (by have := lt_of_get y1_41; omega)]; exact u1_3
  refine tr_aload_n (pc := 32) 1 dX8_makeMoreRoom_32 rfl rfl ?_
  refine tr_aload_n (pc := 33) 1 dX8_makeMoreRoom_33 rfl rfl ?_
  refine tr_getR (pc := 34) (q := q + 2) dX8_makeMoreRoom_34 y2_41 fi_X8_25 rfl u2_2 ?_
  refine tr_iload_n (pc := 37) 0 dX8_makeMoreRoom_37 rfl rfl ?_
  refine tr_callS (pc := 38) (rest := [rv a 41]) dX8_makeMoreRoom_38 ml_X8_153 cs_J7_copyOf_59c91 rfl rfl (Nat.le_of_ble_eq_true rfl) (by decide) (c_copyOf y2_2 (by omega) (by omega)) ?_
  rintro v3 S3a h3 ⟨rfl, rfl, ha3, hk3⟩
  show T a 2 mX8_makeMoreRoom 41 [(1, .int (nI (2 * cap))), (0, rv a 41)] [rv a S2b.1.length, rv a 41] (nS S2b (0, 2 * cap)) h3 _
  refine tr_putR (pc := 41) dX8_makeMoreRoom_41 (nS_old y2_41) fi_X8_25 rfl (Or.inl rfl) (fun _ => rfl) (fun _ => rfl) ?_
  obtain ⟨S3b, eS3⟩ : ∃ X, X = pR (nS S2b (0, 2 * cap)) 41 7 S2b.1.length := ⟨_, rfl⟩
  rw [show ((nS S2b (0, 2 * cap)).1, gs (nS S2b (0, 2 * cap)).2 41 (va_up ((nS S2b (0, 2 * cap)).2 41) 7 (some S2b.1.length))) = S3b from eS3.symm]
  have y3_41 : S3b.1[41]? = some (11, 18) := by rw [eS3]; exact nS_old y2_41
  have y3_0 : S3b.1[q]? = some (0, cap) := by rw [eS3]; exact nS_old y2_0
  have y3_1 : S3b.1[q + 1]? = some (0, cap) := by rw [eS3]; exact nS_old y2_1
  have y3_2 : S3b.1[q + 2]? = some (0, cap) := by rw [eS3]; exact nS_old y2_2
  have y3_3 : S3b.1[q + 3]? = some (0, cap) := by rw [eS3]; exact nS_old y2_3
  have u3_3 : S3b.2 41 8 = some (q + 3) := by rw [eS3, pR_n (by decide), nS_2 (by have := lt_of_get y2_41; omega)]; exact u2_3
  refine tr_aload_n (pc := 44) 1 dX8_makeMoreRoom_44 rfl rfl ?_
  refine tr_aload_n (pc := 45) 1 dX8_makeMoreRoom_45 rfl rfl ?_
  refine tr_getR (pc := 46) (q := q + 3) dX8_makeMoreRoom_46 y3_41 fi_X8_28 rfl u3_3 ?_
  refine tr_iload_n (pc := 49) 0 dX8_makeMoreRoom_49 rfl rfl ?_
  refine tr_callS (pc := 50) (rest := [rv a 41]) dX8_makeMoreRoom_50 ml_X8_153 cs_J7_copyOf_59c91 rfl rfl (Nat.le_of_ble_eq_true rfl) (by decide) (c_copyOf y3_3 (by omega) (by omega)) ?_
  rintro v4 S4a h4 ⟨rfl, rfl, ha4, hk4⟩
  show T a 2 mX8_makeMoreRoom 53 [(1, .int (nI (2 * cap))), (0, rv a 41)] [rv a S3b.1.length, rv a 41] (nS S3b (0, 2 * cap)) h4 _
  refine tr_putR (pc := 53) dX8_makeMoreRoom_53 (nS_old y3_41) fi_X8_28 rfl (Or.inl rfl) (fun _ => rfl) (fun _ => rfl) ?_
  obtain ⟨S4b, eS4⟩ : ∃ X, X = pR (nS S3b (0, 2 * cap)) 41 8 S3b.1.length := ⟨_, rfl⟩
  rw [show ((nS S3b (0, 2 * cap)).1, gs (nS S3b (0, 2 * cap)).2 41 (va_up ((nS S3b (0, 2 * cap)).2 41) 8 (some S3b.1.length))) = S4b from eS4.symm]
  have y4_41 : S4b.1[41]? = some (11, 18) := by rw [eS4]; exact nS_old y3_41
  have y4_0 : S4b.1[q]? = some (0, cap) := by rw [eS4]; exact nS_old y3_0
  have y4_1 : S4b.1[q + 1]? = some (0, cap) := by rw [eS4]; exact nS_old y3_1
  have y4_2 : S4b.1[q + 2]? = some (0, cap) := by rw [eS4]; exact nS_old y3_2
  have y4_3 : S4b.1[q + 3]? = some (0, cap) := by rw [eS4]; exact nS_old y3_3
  exact tr_vret (pc := 56) dX8_makeMoreRoom_56 rfl (by
      have K := mm_tq hQ hcc hS eS1 eS2 eS3 eS4
      have hol := lt_of_get z3
      have n1 : S1b.1.length = S.1.length + 1 := by rw [eS1]; exact len_n
      have n2 : S2b.1.length = S.1.length + 2 := by rw [eS2]; exact (len_n (S := S1b)).trans (by omega)
      have n3 : S3b.1.length = S.1.length + 3 := by rw [eS3]; exact (len_n (S := S2b)).trans (by omega)
      rw [n1] at ha2 hk2
      rw [n2] at ha3 hk3
      rw [n3] at ha4 hk4
      refine ⟨rfl, K.1, K.2, fun j t hj ht => ?_, fun j hj => by rw [hk4 j (by omega), hk3 j (by omega), hk2 j (by omega), hk1 j (by omega)]⟩
      match j, hj with
      | 0, _ => rw [hk4 _ (by omega), hk3 _ (by omega), hk2 _ (by omega)]; exact ha1 t ht
      | 1, _ => rw [hk4 _ (by omega), hk3 _ (by omega), ha2 t ht, hk1 _ (by omega)]
      | 2, _ => rw [hk4 _ (by omega), ha3 t ht, hk2 _ (by omega), hk1 _ (by omega)]
      | 3, _ => rw [ha4 t ht, hk3 _ (by omega), hk2 _ (by omega), hk1 _ (by omega)])
