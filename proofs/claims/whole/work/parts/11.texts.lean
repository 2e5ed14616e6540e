/-- THE TEXT as the class holds it -/
def TX (h : Hp) (tx : List Nat) : Prop := h 1 1 = nI tx.length ∧ ∀ j, j < tx.length → h 2 j = nI (tx.getD j 0)
def TV (tx : List Nat) : Prop := tx.length ≤ 200 ∧ ∀ c ∈ tx, c < 128
theorem byte_nI : ∀ c, c < 128 → (nI c).toInt8.toInt32 = nI c ∧ vp_nar .byte (nI c) = nI c := by decide +kernel
theorem tx_add {h : Hp} {tx : List Nat} {c : Nat} (hT : TX h tx) : TX (hs (hs h 2 (upd (h 2) tx.length (nI c))) 1 (upd (h 1) 1 (nI (tx.length + 1)))) (tx ++ [c]) := by
  refine ⟨?_, fun j hj => ?_⟩
  · rw [hs_same, upd_s]; simp
  · rw [hs_ne (by decide), hs_same, List.getD_eq_getElem?_getD, List.getElem?_append]
    by_cases q : j < tx.length
    · rw [upd_n (by omega), if_pos q, hT.2 j q, List.getD_eq_getElem?_getD]
    · have e : j = tx.length := by simp at hj; omega
      subst e
      rw [upd_s, if_neg q]
      simp
theorem TX.fr {L : List Nat} {h h' : Hp} {tx : List Nat} (hT : TX h tx) (k : Fr L h h') (h1 : 1 ∉ L) (h2 : 2 ∉ L) : TX h' tx := by
  unfold TX
  rw [k 1 h1, k 2 h2]
  exact hT
set_option maxHeartbeats 4000000 in
set_option maxRecDepth 100000 in
theorem c_length {a : Am} {S : St} {h : Hp} (hS : IsSt S) {tx : List Nat} (hT : TX h tx) (hv : TV tx) : CT a 0 mX6_length [rv a 1] S h (Rt (nI tx.length) S h) := by
  refine met_of (by decide +kernel) (Nat.le_of_ble_eq_true rfl) ?_
  show T a 0 mX6_length 0 [(0, rv a 1)] [] S h _
  refine tr_aload_n (pc := 0) 0 dX6_length_0 rfl rfl ?_
  refine tr_getI (pc := 1) (x := nI tx.length) dX6_length_1 (hS.1 1 (9, 2) rfl) fi_X6_15 rfl hT.1 ?_
  exact tr_iret (pc := 4) dX6_length_4 rfl rfl (⟨rfl, rfl, rfl⟩)

set_option maxHeartbeats 4000000 in
set_option maxRecDepth 100000 in
theorem c_isFull_n {a : Am} {S : St} {h : Hp} (hS : IsSt S) {tx : List Nat} (hT : TX h tx) (hv : TV tx) (hl : tx.length < 200) : CT a 0 mX6_isFull [rv a 1] S h (Rt (nI 0) S h) := by
  refine met_of (by decide +kernel) (Nat.le_of_ble_eq_true rfl) ?_
  show T a 0 mX6_isFull 0 [(0, rv a 1)] [] S h _
  refine tr_aload_n (pc := 0) 0 dX6_isFull_0 rfl rfl ?_
  refine tr_getI (pc := 1) (x := nI tx.length) dX6_isFull_1 (hS.1 1 (9, 2) rfl) fi_X6_15 rfl hT.1 ?_
  refine tr_sipush (pc := 4) (v := nI 200) dX6_isFull_4 (by decide) ?_
  refine tr_icmp_lt (pc := 7) (tgt := 14) dX6_isFull_7 (by decide) (nI_ltI (by omega) (by omega)) (fun _ => ?_) (fun hcc => absurd (by omega) hcc)
  refine tr_iconst (pc := 14) (v := nI 0) dX6_isFull_14 (by decide) ?_
  exact tr_iret (pc := 15) dX6_isFull_15 rfl (by decide) (⟨rfl, rfl, rfl⟩)

set_option maxHeartbeats 4000000 in
set_option maxRecDepth 100000 in
theorem c_isFull_y {a : Am} {S : St} {h : Hp} (hS : IsSt S) {tx : List Nat} (hT : TX h tx) (hv : TV tx) (hl : tx.length = 200) : CT a 0 mX6_isFull [rv a 1] S h (Rt (nI 1) S h) := by
  refine met_of (by decide +kernel) (Nat.le_of_ble_eq_true rfl) ?_
  show T a 0 mX6_isFull 0 [(0, rv a 1)] [] S h _
  refine tr_aload_n (pc := 0) 0 dX6_isFull_0 rfl rfl ?_
  refine tr_getI (pc := 1) (x := nI tx.length) dX6_isFull_1 (hS.1 1 (9, 2) rfl) fi_X6_15 rfl hT.1 ?_
  refine tr_sipush (pc := 4) (v := nI 200) dX6_isFull_4 (by decide) ?_
  refine tr_icmp_lt (pc := 7) (tgt := 14) dX6_isFull_7 (by decide) (nI_ltI (by omega) (by omega)) (fun hcc => absurd hcc (by omega)) (fun _ => ?_)
  refine tr_iconst (pc := 10) (v := nI 1) dX6_isFull_10 (by decide) ?_
  refine tr_goto (pc := 11) (tgt := 15) dX6_isFull_11 (by decide) ?_
  exact tr_iret (pc := 15) dX6_isFull_15 rfl (by decide) (⟨rfl, rfl, rfl⟩)

set_option maxHeartbeats 4000000 in
set_option maxRecDepth 100000 in
theorem c_append {a : Am} {S : St} {h : Hp} (hS : IsSt S) {tx : List Nat} (hT : TX h tx) (hv : TV tx) {c : Nat} (hc : c < 128) (hl : tx.length < 200) : CT a 0 mX6_append [rv a 1, .int (nI c)] S h (fun v S' h' => v = none ∧ S = S' ∧ TX h' (tx ++ [c]) ∧ Fr [1, 2] h h') := by
  refine met_of (by decide +kernel) (Nat.le_of_ble_eq_true rfl) ?_
  show T a 0 mX6_append 0 [(0, rv a 1), (1, .int (nI c))] [] S h _
  refine tr_aload_n (pc := 0) 0 dX6_append_0 rfl rfl ?_
  refine tr_getI (pc := 1) (x := nI tx.length) dX6_append_1 (hS.1 1 (9, 2) rfl) fi_X6_15 rfl hT.1 ?_
  refine tr_sipush (pc := 4) (v := nI 200) dX6_append_4 (by decide) ?_
  refine tr_icmp_ge (pc := 7) (tgt := 31) dX6_append_7 (by decide) (nI_leI (by omega) (by omega)) (fun hcc => absurd hcc (by omega)) (fun _ => ?_)
  refine tr_aload_n (pc := 10) 0 dX6_append_10 rfl rfl ?_
  refine tr_getR (pc := 11) (q := 2) dX6_append_11 (hS.1 1 (9, 2) rfl) fi_X6_9 rfl (hS.2 1 0 2 rfl) ?_
  refine tr_aload_n (pc := 14) 0 dX6_append_14 rfl rfl ?_
  refine tr_getI (pc := 15) (x := nI tx.length) dX6_append_15 (hS.1 1 (9, 2) rfl) fi_X6_15 rfl hT.1 ?_
  refine tr_iload_n (pc := 18) 1 dX6_append_18 rfl rfl ?_
  refine tr_i2b (pc := 19) (v := nI c) dX6_append_19 (byte_nI c hc).1 ?_
  refine tr_bast (pc := 20) tx.length dX6_append_20 (hS.1 2 (1, 200) rfl) rfl (by omega) (by decide) ?_
  refine tr_aload_n (pc := 21) 0 dX6_append_21 rfl rfl ?_
  refine tr_dup (pc := 22) dX6_append_22 rfl ?_
  rw [(byte_nI c hc).2]
  refine tr_getI (pc := 23) (x := nI tx.length) dX6_append_23 (hS.1 1 (9, 2) rfl) fi_X6_15 rfl hT.1 ?_
  refine tr_iconst (pc := 26) (v := nI 1) dX6_append_26 (by decide) ?_
  refine tr_iadd (pc := 27) (v := nI (tx.length + 1)) dX6_append_27 (nI_add _ _) ?_
  refine tr_putI (pc := 28) (x := nI (tx.length + 1)) dX6_append_28 (hS.1 1 (9, 2) rfl) fi_X6_15 rfl rfl rfl ?_
  exact tr_vret (pc := 31) dX6_append_31 rfl (⟨rfl, rfl, tx_add hT, (Fr.rf.hs (by decide)).hs (by decide)⟩)

set_option maxHeartbeats 4000000 in
set_option maxRecDepth 100000 in
theorem c_empty {a : Am} {S : St} {h : Hp} (hS : IsSt S) : CT a 0 mX6_empty [rv a 1] S h (fun v S' h' => v = none ∧ S = S' ∧ TX h' [] ∧ Fr [1, 2] h h') := by
  refine met_of (by decide +kernel) (Nat.le_of_ble_eq_true rfl) ?_
  show T a 0 mX6_empty 0 [(0, rv a 1)] [] S h _
  refine tr_aload_n (pc := 0) 0 dX6_empty_0 rfl rfl ?_
  refine tr_iconst (pc := 1) (v := nI 0) dX6_empty_1 (by decide) ?_
  refine tr_putI (pc := 2) (x := nI 0) dX6_empty_2 (hS.1 1 (9, 2) rfl) fi_X6_15 rfl rfl rfl ?_
  exact tr_vret (pc := 5) dX6_empty_5 rfl (⟨rfl, rfl, ⟨rfl, fun j hj => by simp at hj⟩, Fr.rf.hs (by decide)⟩)

set_option maxHeartbeats 4000000 in
set_option maxRecDepth 100000 in
theorem c_at_in {a : Am} {S : St} {h : Hp} (hS : IsSt S) {tx : List Nat} (hT : TX h tx) (hv : TV tx) {j : Nat} (hj : j < tx.length) : CT a 1 mX6_at [rv a 1, .int (nI j)] S h (Rt (nI (tx.getD j 0)) S h) := by
  obtain ⟨hv1, hv2⟩ := id hv
  refine met_of (by decide +kernel) (Nat.le_of_ble_eq_true rfl) ?_
  show T a 1 mX6_at 0 [(0, rv a 1), (1, .int (nI j))] [] S h _
  refine tr_iload_n (pc := 0) 1 dX6_at_0 rfl rfl ?_
  refine tr_aload_n (pc := 1) 0 dX6_at_1 rfl rfl ?_
  refine tr_getI (pc := 2) (x := nI tx.length) dX6_at_2 (hS.1 1 (9, 2) rfl) fi_X6_15 rfl hT.1 ?_
  refine tr_callSN (pc := 5) (rest := []) dX6_at_5 nl_X6_19 cs_X9_isOutside rfl rfl (Nat.le_of_ble_eq_true rfl) (by omega) (c_isOut_in hj (by omega)) ?_
  rintro _ _ _ ⟨rfl, rfl, rfl⟩
  show T a 1 mX6_at 8 [(0, rv a 1), (1, .int (nI j))] [.int (nI 0)] S h _
  refine tr_if_eq (pc := 8) (tgt := 15) dX6_at_8 (by decide) (nI_z_eq (by omega)) (fun _ => ?_) (fun hcc => absurd (by decide) hcc)
  refine tr_aload_n (pc := 15) 0 dX6_at_15 rfl rfl ?_
  refine tr_getR (pc := 16) (q := 2) dX6_at_16 (hS.1 1 (9, 2) rfl) fi_X6_9 rfl (hS.2 1 0 2 rfl) ?_
  refine tr_iload_n (pc := 19) 1 dX6_at_19 rfl rfl ?_
  refine tr_bald (pc := 20) (v := nI (tx.getD j 0)) j dX6_at_20 (hS.1 2 (1, 200) rfl) rfl (by omega) (by decide) (hT.2 j hj) ?_
  exact tr_iret (pc := 21) dX6_at_21 rfl rfl (⟨rfl, rfl, rfl⟩)

set_option maxHeartbeats 4000000 in
set_option maxRecDepth 100000 in
theorem c_at_out {a : Am} {S : St} {h : Hp} (hS : IsSt S) {tx : List Nat} (hT : TX h tx) (hv : TV tx) {j : Nat} (hj : tx.length ≤ j) (hj2 : j < 2 ^ 30) : CT a 1 mX6_at [rv a 1, .int (nI j)] S h (Rt (-1) S h) := by
  obtain ⟨hv1, hv2⟩ := id hv
  refine met_of (by decide +kernel) (Nat.le_of_ble_eq_true rfl) ?_
  show T a 1 mX6_at 0 [(0, rv a 1), (1, .int (nI j))] [] S h _
  refine tr_iload_n (pc := 0) 1 dX6_at_0 rfl rfl ?_
  refine tr_aload_n (pc := 1) 0 dX6_at_1 rfl rfl ?_
  refine tr_getI (pc := 2) (x := nI tx.length) dX6_at_2 (hS.1 1 (9, 2) rfl) fi_X6_15 rfl hT.1 ?_
  refine tr_callSN (pc := 5) (rest := []) dX6_at_5 nl_X6_19 cs_X9_isOutside rfl rfl (Nat.le_of_ble_eq_true rfl) (by omega) (c_isOut_out (Or.inr (nI_le hj (by omega)))) ?_
  rintro _ _ _ ⟨rfl, rfl, rfl⟩
  show T a 1 mX6_at 8 [(0, rv a 1), (1, .int (nI j))] [.int (nI 1)] S h _
  refine tr_if_eq (pc := 8) (tgt := 15) dX6_at_8 (by decide) (nI_z_eq (by omega)) (fun hcc => absurd hcc (by decide)) (fun _ => ?_)
  refine tr_iconst (pc := 11) (v := -1) dX6_at_11 (by decide) ?_
  refine tr_goto (pc := 12) (tgt := 21) dX6_at_12 (by decide) ?_
  exact tr_iret (pc := 21) dX6_at_21 rfl rfl (⟨rfl, rfl, rfl⟩)

theorem mp_like {h : Hp} {o p : Nat} {P : Prog} (hM : MP h p P) (hV : VB P) (hd : o + 3 ≤ p ∨ p + 3 ≤ o) {h1 h2 h3 : Hp} (e1 : h1 = hs h o (upd (h o) 0 (nI P.length))) (e2 : h2 = hs h1 (o + 1) (va_cpy (h1 (p + 1)) (h1 (o + 1)) 0 0 4)) (e3 : h3 = hs h2 (o + 2) (va_cpy (h2 (p + 2)) (h2 (o + 2)) 0 0 32)) : MP h3 o P ∧ Fr [o, o + 1, o + 2] h h3 := by
  obtain ⟨hV1, hV2, hV3⟩ := hV
  subst e1
  have a1 : h2 (p + 2) = h (p + 2) := by rw [e2, hs_ne (by omega), hs_ne (by omega)]
  have a2 : h2 (o + 1) = va_cpy (h (p + 1)) (h (o + 1)) 0 0 4 := by rw [e2, hs_same, hs_ne (by omega), hs_ne (by omega)]
  have a3 : h2 o = upd (h o) 0 (nI P.length) := by rw [e2, hs_ne (by omega), hs_same]
  refine ⟨⟨?_, fun m hm => ?_, fun m i hm hi => ?_⟩, ?_⟩
  · rw [e3, hs_ne (by omega), a3, upd_s]
  · rw [e3, hs_ne (by omega), a2, pk_cpy_in (by omega) (by omega)]
    simpa using hM.2.1 m hm
  · have h8 := hV2 m
    rw [e3, hs_same, pk_cpy_in (by omega) (by omega), a1]
    simpa using hM.2.2 m i hm hi
  · rw [e3, e2]
    exact ((Fr.rf.hs (by simp)).hs (by simp)).hs (by simp)
set_option maxHeartbeats 4000000 in
set_option maxRecDepth 100000 in
theorem c_like {a : Am} {S : St} {h : Hp} {o p : Nat} {P : Prog} (hO : MO S o) (hQ : MO S p) (hM : MP h p P) (hV : VB P) (hd : o + 3 ≤ p ∨ p + 3 ≤ o) : CT a 1 mX2_becomeLike [rv a o, rv a p] S h (fun v S' h' => v = none ∧ S = S' ∧ MP h' o P ∧ Fr [o, o + 1, o + 2] h h') := by
  refine met_of (by decide +kernel) (Nat.le_of_ble_eq_true rfl) ?_
  show T a 1 mX2_becomeLike 0 [(0, rv a o), (1, rv a p)] [] S h _
  refine tr_aload_n (pc := 0) 0 dX2_becomeLike_0 rfl rfl ?_
  refine tr_aload_n (pc := 1) 1 dX2_becomeLike_1 rfl rfl ?_
  refine tr_getI (pc := 2) (x := nI P.length) dX2_becomeLike_2 hQ.1 fi_X2_18 rfl hM.1 ?_
  refine tr_putI (pc := 5) (x := nI P.length) dX2_becomeLike_5 hO.1 fi_X2_18 rfl rfl rfl ?_
  refine tr_aload_n (pc := 8) 1 dX2_becomeLike_8 rfl rfl ?_
  refine tr_getR (pc := 9) (q := p + 1) dX2_becomeLike_9 hQ.1 fi_X2_9 rfl hQ.2.2.2.1 ?_
  refine tr_iconst (pc := 12) (v := nI 0) dX2_becomeLike_12 (by decide) ?_
  refine tr_aload_n (pc := 13) 0 dX2_becomeLike_13 rfl rfl ?_
  refine tr_getR (pc := 14) (q := o + 1) dX2_becomeLike_14 hO.1 fi_X2_9 rfl hO.2.2.2.1 ?_
  refine tr_iconst (pc := 17) (v := nI 0) dX2_becomeLike_17 (by decide) ?_
  refine tr_iconst (pc := 18) (v := nI 4) dX2_becomeLike_18 (by decide) ?_
  refine tr_acopy (pc := 19) 0 0 4 dX2_becomeLike_19 ml_X2_43 (Nat.le_of_ble_eq_true rfl) (by omega) hQ.2.1 hO.2.1 rfl rfl rfl (by omega) (by omega) (by decide) (by decide) ?_
  refine tr_aload_n (pc := 22) 1 dX2_becomeLike_22 rfl rfl ?_
  refine tr_getR (pc := 23) (q := p + 2) dX2_becomeLike_23 hQ.1 fi_X2_15 rfl hQ.2.2.2.2 ?_
  refine tr_iconst (pc := 26) (v := nI 0) dX2_becomeLike_26 (by decide) ?_
  refine tr_aload_n (pc := 27) 0 dX2_becomeLike_27 rfl rfl ?_
  refine tr_getR (pc := 28) (q := o + 2) dX2_becomeLike_28 hO.1 fi_X2_15 rfl hO.2.2.2.2 ?_
  refine tr_iconst (pc := 31) (v := nI 0) dX2_becomeLike_31 (by decide) ?_
  refine tr_bipush (pc := 32) (v := nI 32) dX2_becomeLike_32 (by decide) ?_
  refine tr_acopy (pc := 34) 0 0 32 dX2_becomeLike_34 ml_X2_43 (Nat.le_of_ble_eq_true rfl) (by omega) hQ.2.2.1 hO.2.2.1 rfl rfl rfl (by omega) (by omega) (by decide) (by decide) ?_
  exact tr_vret (pc := 37) dX2_becomeLike_37 rfl (by
      have K := mp_like hM hV hd rfl rfl rfl
      exact ⟨rfl, rfl, K.1, K.2⟩)

/-- the j-th of the kept methods when the row has been turned r times -/
def kK (r j : Nat) : Nat := 16 + 3 * ((r + j) % 5)
theorem kK_in (r j : Nat) : kK r j = 16 ∨ kK r j = 19 ∨ kK r j = 22 ∨ kK r j = 25 ∨ kK r j = 28 := by
  unfold kK
  omega
theorem kK_inj {r i j : Nat} (hi : i < 5) (hj : j < 5) (h : kK r i = kK r j) : i = j := by
  unfold kK at h
  omega
theorem mo_k {S : St} (hS : IsSt S) (r j : Nat) : MO S (kK r j) := by
  rcases kK_in r j with e | e | e | e | e <;> rw [e]
  · exact ⟨hS.1 16 _ rfl, hS.1 17 _ rfl, hS.1 18 _ rfl, hS.2 16 1 17 rfl, hS.2 16 2 18 rfl⟩
  · exact ⟨hS.1 19 _ rfl, hS.1 20 _ rfl, hS.1 21 _ rfl, hS.2 19 1 20 rfl, hS.2 19 2 21 rfl⟩
  · exact ⟨hS.1 22 _ rfl, hS.1 23 _ rfl, hS.1 24 _ rfl, hS.2 22 1 23 rfl, hS.2 22 2 24 rfl⟩
  · exact ⟨hS.1 25 _ rfl, hS.1 26 _ rfl, hS.1 27 _ rfl, hS.2 25 1 26 rfl, hS.2 25 2 27 rfl⟩
  · exact ⟨hS.1 28 _ rfl, hS.1 29 _ rfl, hS.1 30 _ rfl, hS.2 28 1 29 rfl, hS.2 28 2 30 rfl⟩
theorem mo_3 {S : St} (hS : IsSt S) : MO S 3 := ⟨hS.1 3 _ rfl, hS.1 4 _ rfl, hS.1 5 _ rfl, hS.2 3 1 4 rfl, hS.2 3 2 5 rfl⟩
theorem mo_6 {S : St} (hS : IsSt S) : MO S 6 := ⟨hS.1 6 _ rfl, hS.1 7 _ rfl, hS.1 8 _ rfl, hS.2 6 1 7 rfl, hS.2 6 2 8 rfl⟩
def KP (S : St) (r : Nat) : Prop := ∀ j, j < 5 → S.2 15 j = some (kK r j)
/-- the states to go back to, oldest first -/
def SP (S : St) (h : Hp) (r : Nat) (past : List Prog) : Prop := KP S r ∧ past.length ≤ 5 ∧ h 14 1 = nI past.length ∧ ∀ j, j < past.length → MP h (kK r j) (past.getD j []) ∧ VB (past.getD j [])
def kL : List Nat := [14, 16, 17, 18, 19, 20, 21, 22, 23, 24, 25, 26, 27, 28, 29, 30]
theorem IsSt.keep {S : St} (hS : IsSt S) {g : Nat → Nat → Option Nat} (hg : ∀ o, o ≠ 15 → g o = S.2 o) : IsSt (S.1, g) := by
  refine ⟨hS.1, fun o k q h => ?_⟩
  by_cases e : o = 15
  · subst e
    have : (rfT.getD 15 []).getD k none = none := by show ([] : List (Option Nat)).getD k none = none; simp
    rw [this] at h
    cases h
  · show g o k = some q
    rw [hg o e]
    exact hS.2 o k q h
set_option maxHeartbeats 4000000 in
set_option maxRecDepth 100000 in
theorem c_lose {a : Am} {S : St} {h : Hp} (hS : IsSt S) {rr : Nat} (hK : KP S rr) : CT a 0 mX5_loseOldest [rv a 14] S h (fun v S' h' => v = none ∧ S'.1 = S.1 ∧ (∀ o, o ≠ 15 → S'.2 o = S.2 o) ∧ KP S' (rr + 1) ∧ h' = hs h 14 (upd (h 14) 1 (nI 4))) := by
  refine met_of (by decide +kernel) (Nat.le_of_ble_eq_true rfl) ?_
  show T a 0 mX5_loseOldest 0 [(0, rv a 14)] [] S h _
  refine tr_aload_n (pc := 0) 0 dX5_loseOldest_0 rfl rfl ?_
  refine tr_getR (pc := 1) (q := 15) dX5_loseOldest_1 (hS.1 14 (8, 2) rfl) fi_X5_11 rfl (hS.2 14 0 15 rfl) ?_
  refine tr_iconst (pc := 4) (v := nI 0) dX5_loseOldest_4 (by decide) ?_
  refine tr_aald (pc := 5) (q := kK rr 0) 0 dX5_loseOldest_5 (hS.1 15 (2, 5) rfl) rfl (by omega) (by decide) (hK 0 (by decide)) ?_
  refine tr_astore_n (pc := 6) (lv' := [(1, rv a (kK rr 0)), (0, rv a 14)]) dX5_loseOldest_6 rfl (by decide) rfl ?_
  refine tr_iconst (pc := 7) (v := nI 1) dX5_loseOldest_7 (by decide) ?_
  refine tr_istore_n (pc := 8) (lv' := [(2, .int (nI 1)), (1, rv a (kK rr 0)), (0, rv a 14)]) dX5_loseOldest_8 rfl (by decide) rfl ?_
  refine tr_iload_n (pc := 9) 0 dX5_loseOldest_9 rfl rfl ?_
  refine tr_iconst (pc := 10) (v := nI 5) dX5_loseOldest_10 (by decide) ?_
  refine tr_icmp_ge (pc := 11) (tgt := 34) dX5_loseOldest_11 (by decide) (nI_leI (by omega) (by omega)) (fun hcc => absurd hcc (by decide)) (fun _ => ?_)
  refine tr_aload_n (pc := 14) 2 dX5_loseOldest_14 rfl rfl ?_
  refine tr_getR (pc := 15) (q := 15) dX5_loseOldest_15 (hS.1 14 (8, 2) rfl) fi_X5_11 rfl (hS.2 14 0 15 rfl) ?_
  refine tr_iload_n (pc := 18) 0 dX5_loseOldest_18 rfl rfl ?_
  refine tr_iconst (pc := 19) (v := nI 1) dX5_loseOldest_19 (by decide) ?_
  refine tr_isub (pc := 20) (v := nI 0) dX5_loseOldest_20 (by decide) ?_
  refine tr_aload_n (pc := 21) 2 dX5_loseOldest_21 rfl rfl ?_
  refine tr_getR (pc := 22) (q := 15) dX5_loseOldest_22 (hS.1 14 (8, 2) rfl) fi_X5_11 rfl (hS.2 14 0 15 rfl) ?_
  refine tr_iload_n (pc := 25) 0 dX5_loseOldest_25 rfl rfl ?_
  refine tr_aald (pc := 26) (q := kK rr 1) 1 dX5_loseOldest_26 (hS.1 15 (2, 5) rfl) rfl (by omega) (by decide) (hK 1 (by decide)) ?_
  refine tr_aast (pc := 27) 0 dX5_loseOldest_27 (hS.1 15 (2, 5) rfl) rfl (by omega) (by decide) (mo_k hS rr 1).1 ?_
  refine tr_iinc (pc := 28) (v := nI 2) (lv' := [(2, .int (nI 2)), (1, rv a (kK rr 0)), (0, rv a 14)]) 0 dX5_loseOldest_28 rfl (by rw [show Int32.ofInt 1 = nI 1 from by decide, nI_add]) (by decide) rfl ?_
  refine tr_goto (pc := 31) (tgt := 9) dX5_loseOldest_31 (by decide) ?_
  refine tr_iload_n (pc := 9) 0 dX5_loseOldest_9 rfl rfl ?_
  refine tr_iconst (pc := 10) (v := nI 5) dX5_loseOldest_10 (by decide) ?_
  refine tr_icmp_ge (pc := 11) (tgt := 34) dX5_loseOldest_11 (by decide) (nI_leI (by omega) (by omega)) (fun hcc => absurd hcc (by decide)) (fun _ => ?_)
  refine tr_aload_n (pc := 14) 2 dX5_loseOldest_14 rfl rfl ?_
  refine tr_getR (pc := 15) (q := 15) dX5_loseOldest_15 (hS.1 14 (8, 2) rfl) fi_X5_11 rfl (hS.2 14 0 15 rfl) ?_
  refine tr_iload_n (pc := 18) 0 dX5_loseOldest_18 rfl rfl ?_
  refine tr_iconst (pc := 19) (v := nI 1) dX5_loseOldest_19 (by decide) ?_
  refine tr_isub (pc := 20) (v := nI 1) dX5_loseOldest_20 (by decide) ?_
  refine tr_aload_n (pc := 21) 2 dX5_loseOldest_21 rfl rfl ?_
  refine tr_getR (pc := 22) (q := 15) dX5_loseOldest_22 (hS.1 14 (8, 2) rfl) fi_X5_11 rfl (hS.2 14 0 15 rfl) ?_
  refine tr_iload_n (pc := 25) 0 dX5_loseOldest_25 rfl rfl ?_
  refine tr_aald (pc := 26) (q := kK rr 2) 2 dX5_loseOldest_26 (hS.1 15 (2, 5) rfl) rfl (by omega) (by decide) (hK 2 (by decide)) ?_
  refine tr_aast (pc := 27) 1 dX5_loseOldest_27 (hS.1 15 (2, 5) rfl) rfl (by omega) (by decide) (mo_k hS rr 2).1 ?_
  refine tr_iinc (pc := 28) (v := nI 3) (lv' := [(2, .int (nI 3)), (1, rv a (kK rr 0)), (0, rv a 14)]) 0 dX5_loseOldest_28 rfl (by rw [show Int32.ofInt 1 = nI 1 from by decide, nI_add]) (by decide) rfl ?_
  refine tr_goto (pc := 31) (tgt := 9) dX5_loseOldest_31 (by decide) ?_
  refine tr_iload_n (pc := 9) 0 dX5_loseOldest_9 rfl rfl ?_
  refine tr_iconst (pc := 10) (v := nI 5) dX5_loseOldest_10 (by decide) ?_
  refine tr_icmp_ge (pc := 11) (tgt := 34) dX5_loseOldest_11 (by decide) (nI_leI (by omega) (by omega)) (fun hcc => absurd hcc (by decide)) (fun _ => ?_)
  refine tr_aload_n (pc := 14) 2 dX5_loseOldest_14 rfl rfl ?_
  refine tr_getR (pc := 15) (q := 15) dX5_loseOldest_15 (hS.1 14 (8, 2) rfl) fi_X5_11 rfl (hS.2 14 0 15 rfl) ?_
  refine tr_iload_n (pc := 18) 0 dX5_loseOldest_18 rfl rfl ?_
  refine tr_iconst (pc := 19) (v := nI 1) dX5_loseOldest_19 (by decide) ?_
  refine tr_isub (pc := 20) (v := nI 2) dX5_loseOldest_20 (by decide) ?_
  refine tr_aload_n (pc := 21) 2 dX5_loseOldest_21 rfl rfl ?_
  refine tr_getR (pc := 22) (q := 15) dX5_loseOldest_22 (hS.1 14 (8, 2) rfl) fi_X5_11 rfl (hS.2 14 0 15 rfl) ?_
  refine tr_iload_n (pc := 25) 0 dX5_loseOldest_25 rfl rfl ?_
  refine tr_aald (pc := 26) (q := kK rr 3) 3 dX5_loseOldest_26 (hS.1 15 (2, 5) rfl) rfl (by omega) (by decide) (hK 3 (by decide)) ?_
  refine tr_aast (pc := 27) 2 dX5_loseOldest_27 (hS.1 15 (2, 5) rfl) rfl (by omega) (by decide) (mo_k hS rr 3).1 ?_
  refine tr_iinc (pc := 28) (v := nI 4) (lv' := [(2, .int (nI 4)), (1, rv a (kK rr 0)), (0, rv a 14)]) 0 dX5_loseOldest_28 rfl (by rw [show Int32.ofInt 1 = nI 1 from by decide, nI_add]) (by decide) rfl ?_
  refine tr_goto (pc := 31) (tgt := 9) dX5_loseOldest_31 (by decide) ?_
  refine tr_iload_n (pc := 9) 0 dX5_loseOldest_9 rfl rfl ?_
  refine tr_iconst (pc := 10) (v := nI 5) dX5_loseOldest_10 (by decide) ?_
  refine tr_icmp_ge (pc := 11) (tgt := 34) dX5_loseOldest_11 (by decide) (nI_leI (by omega) (by omega)) (fun hcc => absurd hcc (by decide)) (fun _ => ?_)
  refine tr_aload_n (pc := 14) 2 dX5_loseOldest_14 rfl rfl ?_
  refine tr_getR (pc := 15) (q := 15) dX5_loseOldest_15 (hS.1 14 (8, 2) rfl) fi_X5_11 rfl (hS.2 14 0 15 rfl) ?_
  refine tr_iload_n (pc := 18) 0 dX5_loseOldest_18 rfl rfl ?_
  refine tr_iconst (pc := 19) (v := nI 1) dX5_loseOldest_19 (by decide) ?_
  refine tr_isub (pc := 20) (v := nI 3) dX5_loseOldest_20 (by decide) ?_
  refine tr_aload_n (pc := 21) 2 dX5_loseOldest_21 rfl rfl ?_
  refine tr_getR (pc := 22) (q := 15) dX5_loseOldest_22 (hS.1 14 (8, 2) rfl) fi_X5_11 rfl (hS.2 14 0 15 rfl) ?_
  refine tr_iload_n (pc := 25) 0 dX5_loseOldest_25 rfl rfl ?_
  refine tr_aald (pc := 26) (q := kK rr 4) 4 dX5_loseOldest_26 (hS.1 15 (2, 5) rfl) rfl (by omega) (by decide) (hK 4 (by decide)) ?_
  refine tr_aast (pc := 27) 3 dX5_loseOldest_27 (hS.1 15 (2, 5) rfl) rfl (by omega) (by decide) (mo_k hS rr 4).1 ?_
  refine tr_iinc (pc := 28) (v := nI 5) (lv' := [(2, .int (nI 5)), (1, rv a (kK rr 0)), (0, rv a 14)]) 0 dX5_loseOldest_28 rfl (by rw [show Int32.ofInt 1 = nI 1 from by decide, nI_add]) (by decide) rfl ?_
  refine tr_goto (pc := 31) (tgt := 9) dX5_loseOldest_31 (by decide) ?_
  refine tr_iload_n (pc := 9) 0 dX5_loseOldest_9 rfl rfl ?_
  refine tr_iconst (pc := 10) (v := nI 5) dX5_loseOldest_10 (by decide) ?_
  refine tr_icmp_ge (pc := 11) (tgt := 34) dX5_loseOldest_11 (by decide) (nI_leI (by omega) (by omega)) (fun _ => ?_) (fun hcc => absurd (by decide) hcc)
  refine tr_aload_n (pc := 34) 2 dX5_loseOldest_34 rfl rfl ?_
  refine tr_getR (pc := 35) (q := 15) dX5_loseOldest_35 (hS.1 14 (8, 2) rfl) fi_X5_11 rfl (hS.2 14 0 15 rfl) ?_
  refine tr_iconst (pc := 38) (v := nI 4) dX5_loseOldest_38 (by decide) ?_
  refine tr_aload_n (pc := 39) 1 dX5_loseOldest_39 rfl rfl ?_
  refine tr_aast (pc := 40) 4 dX5_loseOldest_40 (hS.1 15 (2, 5) rfl) rfl (by omega) (by decide) (mo_k hS rr 0).1 ?_
  refine tr_aload_n (pc := 41) 2 dX5_loseOldest_41 rfl rfl ?_
  refine tr_iconst (pc := 42) (v := nI 4) dX5_loseOldest_42 (by decide) ?_
  refine tr_putI (pc := 43) (x := nI 4) dX5_loseOldest_43 (hS.1 14 (8, 2) rfl) fi_X5_18 rfl rfl rfl ?_
  exact tr_vret (pc := 46) dX5_loseOldest_46 rfl (by
      refine ⟨rfl, rfl, fun o ho => ?_, fun j hj => ?_, rfl⟩
      · show gs (gs (gs (gs (gs S.2 15 _) 15 _) 15 _) 15 _) 15 _ o = S.2 o
        rw [gs_ne ho, gs_ne ho, gs_ne ho, gs_ne ho, gs_ne ho]
      · have e : kK (rr + 1) j = kK rr (j + 1) := by unfold kK; omega
        have e0 : kK rr 5 = kK rr 0 := by unfold kK; omega
        rw [e]
        match j, hj with
        | 0, _ => rfl
        | 1, _ => rfl
        | 2, _ => rfl
        | 3, _ => rfl
        | 4, _ => rw [e0]; rfl)

theorem pD2 (L : List Prog) (m : Nat) : L.getD m [] = (L[m]?).getD [] := List.getD_eq_getElem?_getD
def keepP (past : List Prog) (P : Prog) : List Prog := (if past.length = 5 then past.tail else past) ++ [P]
theorem sp_push {S S1 : St} {h h2 : Hp} {rr : Nat} {past : List Prog} {P : Prog} {g : Nat → Int32} (hP : SP S h rr past) (hl : past.length < 5) (hM : MP h2 (kK rr past.length) P) (hF : Fr [kK rr past.length, kK rr past.length + 1, kK rr past.length + 2] h h2) (hV : VB P) (hK : KP S1 rr) (hg : g 1 = nI (past.length + 1)) : SP S1 (hs h2 14 g) rr (past ++ [P]) := by
  obtain ⟨_, p1, p2, p3⟩ := hP
  have k0 := kK_in rr past.length
  refine ⟨hK, by simp; omega, by rw [hs_same, hg]; simp, fun j hj => ?_⟩
  have kj := kK_in rr j
  simp at hj
  by_cases q : j < past.length
  · have hne : kK rr j ≠ kK rr past.length := fun e => by have := kK_inj (by omega) hl e; omega
    rw [pD2, List.getElem?_append_left q, ← pD2]
    refine ⟨?_, (p3 j q).2⟩
    have m1 := (p3 j q).1.fr hF (by simp; omega) (by simp; omega) (by simp; omega)
    exact m1.fr (L := [14]) (Fr.rf.hs (by decide)) (by simp; omega) (by simp; omega) (by simp; omega)
  · have e : j = past.length := by omega
    subst e
    rw [pD2, List.getElem?_append_right (Nat.le_refl _)]
    simp
    refine ⟨?_, hV⟩
    exact hM.fr (L := [14]) (Fr.rf.hs (by decide)) (by simp; omega) (by simp; omega) (by simp; omega)
theorem sp_tail {S S1 : St} {h : Hp} {rr : Nat} {past : List Prog} (hP : SP S h rr past) (hl : past.length = 5) (hK : KP S1 (rr + 1)) : SP S1 (hs h 14 (upd (h 14) 1 (nI 4))) (rr + 1) past.tail := by
  obtain ⟨_, p1, p2, p3⟩ := hP
  refine ⟨hK, by simp; omega, by rw [hs_same, upd_s]; simp [hl], fun j hj => ?_⟩
  simp at hj
  have e : kK (rr + 1) j = kK rr (j + 1) := by unfold kK; congr 3; omega
  have kj := kK_in rr (j + 1)
  have e2 : past.tail.getD j [] = past.getD (j + 1) [] := by rw [pD2, pD2]; simp
  rw [e, e2]
  obtain ⟨m1, m2⟩ := p3 (j + 1) (by omega)
  exact ⟨m1.fr (L := [14]) (Fr.rf.hs (by decide)) (by simp; omega) (by simp; omega) (by simp; omega), m2⟩
theorem fr_k {h h2 : Hp} {r j : Nat} (hF : Fr [kK r j, kK r j + 1, kK r j + 2] h h2) : Fr kL h h2 := hF.mono (fun o ho => by
  rcases kK_in r j with e | e | e | e | e <;> rw [e] at ho <;> revert ho <;> simp [kL] <;> omega)
set_option maxHeartbeats 4000000 in
set_option maxRecDepth 100000 in
theorem c_keep_n {a : Am} {S : St} {h : Hp} (hS : IsSt S) {rr : Nat} {past : List Prog} {P : Prog} (hP : SP S h rr past) (hM : MP h 3 P) (hV : VB P) (hl : past.length < 5) : CT a 3 mX5_keep [rv a 14, rv a 3] S h (fun v S' h' => v = none ∧ S'.1 = S.1 ∧ (∀ o, o ≠ 15 → S'.2 o = S.2 o) ∧ (∃ r', SP S' h' r' (keepP past P)) ∧ Fr kL h h') := by
  refine met_of (by decide +kernel) (Nat.le_of_ble_eq_true rfl) ?_
  show T a 3 mX5_keep 0 [(0, rv a 14), (1, rv a 3)] [] S h _
  refine tr_aload_n (pc := 0) 0 dX5_keep_0 rfl rfl ?_
  refine tr_getI (pc := 1) (x := nI past.length) dX5_keep_1 (hS.1 14 (8, 2) rfl) fi_X5_18 rfl hP.2.2.1 ?_
  refine tr_iconst (pc := 4) (v := nI 5) dX5_keep_4 (by decide) ?_
  refine tr_icmp_lt (pc := 5) (tgt := 12) dX5_keep_5 (by decide) (nI_ltI (by omega) (by omega)) (fun _ => ?_) (fun hcc => absurd (by omega) hcc)
  refine tr_aload_n (pc := 12) 0 dX5_keep_12 rfl rfl ?_
  refine tr_getR (pc := 13) (q := 15) dX5_keep_13 (hS.1 14 (8, 2) rfl) fi_X5_11 rfl (hS.2 14 0 15 rfl) ?_
  refine tr_aload_n (pc := 16) 0 dX5_keep_16 rfl rfl ?_
  refine tr_getI (pc := 17) (x := nI past.length) dX5_keep_17 (hS.1 14 (8, 2) rfl) fi_X5_18 rfl hP.2.2.1 ?_
  refine tr_aald (pc := 20) (q := kK rr past.length) past.length dX5_keep_20 (hS.1 15 (2, 5) rfl) rfl (by omega) (by decide) (hP.1 _ hl) ?_
  refine tr_aload_n (pc := 21) 1 dX5_keep_21 rfl rfl ?_
  refine tr_callV (pc := 22) (rest := []) (ci := 2) dX5_keep_22 ml_X5_25 cv_X2_becomeLike rfl rfl (Nat.le_of_ble_eq_true rfl) (mo_k hS rr _).1 rfl (by decide) (c_like (mo_k hS rr _) (mo_3 hS) hM hV (by rcases kK_in rr past.length with e | e | e | e | e <;> omega)) ?_
  rintro v1 S1 h1 ⟨rfl, rfl, hm1, hf1⟩
  have e14 : h1 14 = h 14 := hf1 14 (by have := kK_in rr past.length; simp; omega)
  show T a 3 mX5_keep 25 [(0, rv a 14), (1, rv a 3)] [] S h1 _
  refine tr_aload_n (pc := 25) 0 dX5_keep_25 rfl rfl ?_
  refine tr_dup (pc := 26) dX5_keep_26 rfl ?_
  refine tr_getI (pc := 27) (x := nI past.length) dX5_keep_27 (hS.1 14 (8, 2) rfl) fi_X5_18 rfl (by rw [e14]; exact hP.2.2.1) ?_
  refine tr_iconst (pc := 30) (v := nI 1) dX5_keep_30 (by decide) ?_
  refine tr_iadd (pc := 31) (v := nI (past.length + 1)) dX5_keep_31 (nI_add _ _) ?_
  refine tr_putI (pc := 32) (x := nI (past.length + 1)) dX5_keep_32 (hS.1 14 (8, 2) rfl) fi_X5_18 rfl rfl rfl ?_
  exact tr_vret (pc := 35) dX5_keep_35 rfl (by
      refine ⟨rfl, rfl, fun o _ => rfl, ⟨rr, ?_⟩, (fr_k hf1).hs (by decide)⟩
      unfold keepP
      rw [if_neg (by omega)]
      exact sp_push hP hl hm1 hf1 hV hP.1 (by rw [upd_s]))

set_option maxHeartbeats 4000000 in
set_option maxRecDepth 100000 in
theorem c_keep_y {a : Am} {S : St} {h : Hp} (hS : IsSt S) {rr : Nat} {past : List Prog} {P : Prog} (hP : SP S h rr past) (hM : MP h 3 P) (hV : VB P) (hl : past.length = 5) : CT a 3 mX5_keep [rv a 14, rv a 3] S h (fun v S' h' => v = none ∧ S'.1 = S.1 ∧ (∀ o, o ≠ 15 → S'.2 o = S.2 o) ∧ (∃ r', SP S' h' r' (keepP past P)) ∧ Fr kL h h') := by
  obtain ⟨pl1, pl2, pl3, pl4⟩ := id hP
  refine met_of (by decide +kernel) (Nat.le_of_ble_eq_true rfl) ?_
  show T a 3 mX5_keep 0 [(0, rv a 14), (1, rv a 3)] [] S h _
  refine tr_aload_n (pc := 0) 0 dX5_keep_0 rfl rfl ?_
  refine tr_getI (pc := 1) (x := nI past.length) dX5_keep_1 (hS.1 14 (8, 2) rfl) fi_X5_18 rfl hP.2.2.1 ?_
  refine tr_iconst (pc := 4) (v := nI 5) dX5_keep_4 (by decide) ?_
  refine tr_icmp_lt (pc := 5) (tgt := 12) dX5_keep_5 (by decide) (nI_ltI (by omega) (by omega)) (fun hcc => absurd hcc (by omega)) (fun _ => ?_)
  refine tr_aload_n (pc := 8) 0 dX5_keep_8 rfl rfl ?_
  refine tr_callV (pc := 9) (rest := []) (ci := 5) dX5_keep_9 ml_X5_22 cv_X5_loseOldest rfl rfl (Nat.le_of_ble_eq_true rfl) (hS.1 14 (8, 2) rfl) rfl (by decide) (c_lose hS hP.1) ?_
  rintro v1 S1 h1 ⟨rfl, hs1, hs2, hk1, rfl⟩
  obtain ⟨S1a, S1b⟩ := S1
  dsimp only at hs1 hs2
  subst hs1
  have hS1 : IsSt (S.1, S1b) := hS.keep hs2
  have hP1 := sp_tail (S1 := (S.1, S1b)) hP hl hk1
  have hM1 : MP (hs h 14 (upd (h 14) 1 (nI 4))) 3 P := hM
  show T a 3 mX5_keep 12 [(0, rv a 14), (1, rv a 3)] [] (S.1, S1b) (hs h 14 (upd (h 14) 1 (nI 4))) _
  refine tr_aload_n (pc := 12) 0 dX5_keep_12 rfl rfl ?_
  refine tr_getR (pc := 13) (q := 15) dX5_keep_13 (hS.1 14 (8, 2) rfl) fi_X5_11 rfl (by first | exact hS1.2 14 0 15 rfl | exact hS.2 14 0 15 rfl) ?_
  refine tr_aload_n (pc := 16) 0 dX5_keep_16 rfl rfl ?_
  refine tr_getI (pc := 17) (x := nI 4) dX5_keep_17 (hS.1 14 (8, 2) rfl) fi_X5_18 rfl rfl ?_
  refine tr_aald (pc := 20) (q := kK (rr + 1) 4) 4 dX5_keep_20 (hS.1 15 (2, 5) rfl) rfl (by omega) (by decide) (hk1 4 (by decide)) ?_
  refine tr_aload_n (pc := 21) 1 dX5_keep_21 rfl rfl ?_
  refine tr_callV (pc := 22) (rest := []) (ci := 2) dX5_keep_22 ml_X5_25 cv_X2_becomeLike rfl rfl (Nat.le_of_ble_eq_true rfl) (mo_k hS1 (rr + 1) 4).1 rfl (by decide) (c_like (mo_k hS1 (rr + 1) 4) (mo_3 hS1) hM1 hV (by rcases kK_in (rr + 1) 4 with e | e | e | e | e <;> omega)) ?_
  rintro v1 S2 h1 ⟨rfl, rfl, hm1, hf1⟩
  have e14 : h1 14 = upd (h 14) 1 (nI 4) := hf1 14 (by have := kK_in (rr + 1) 4; simp; omega)
  show T a 3 mX5_keep 25 [(0, rv a 14), (1, rv a 3)] [] (S.1, S1b) h1 _
  refine tr_aload_n (pc := 25) 0 dX5_keep_25 rfl rfl ?_
  refine tr_dup (pc := 26) dX5_keep_26 rfl ?_
  refine tr_getI (pc := 27) (x := nI 4) dX5_keep_27 (hS.1 14 (8, 2) rfl) fi_X5_18 rfl (by rw [e14]; exact upd_s) ?_
  refine tr_iconst (pc := 30) (v := nI 1) dX5_keep_30 (by decide) ?_
  refine tr_iadd (pc := 31) (v := nI 5) dX5_keep_31 (by decide) ?_
  refine tr_putI (pc := 32) (x := nI 5) dX5_keep_32 (hS.1 14 (8, 2) rfl) fi_X5_18 rfl rfl rfl ?_
  exact tr_vret (pc := 35) dX5_keep_35 rfl (by
      have hl4 : past.tail.length = 4 := by simp [hl]
      refine ⟨rfl, rfl, hs2, ⟨rr + 1, ?_⟩, ((Fr.rf.hs (by decide)).trans (fr_k hf1)).hs (by decide)⟩
      unfold keepP
      rw [if_pos hl]
      exact sp_push hP1 (by omega) (by rw [hl4]; exact hm1) (by rw [hl4]; exact hf1) hV hk1 (by rw [upd_s, hl4]))

set_option maxHeartbeats 4000000 in
set_option maxRecDepth 100000 in
theorem c_give {a : Am} {S : St} {h : Hp} (hS : IsSt S) {rr : Nat} {past : List Prog} (hP : SP S h rr past) (hl : 0 < past.length) : CT a 3 mX5_giveBack [rv a 14, rv a 3] S h (fun v S' h' => v = none ∧ S = S' ∧ SP S h' rr past.dropLast ∧ MP h' 3 (past.getD (past.length - 1) []) ∧ VB (past.getD (past.length - 1) []) ∧ Fr [3, 4, 5, 14] h h') := by
  obtain ⟨pl1, pl2, pl3, pl4⟩ := id hP
  refine met_of (by decide +kernel) (Nat.le_of_ble_eq_true rfl) ?_
  show T a 3 mX5_giveBack 0 [(0, rv a 14), (1, rv a 3)] [] S h _
  refine tr_aload_n (pc := 0) 0 dX5_giveBack_0 rfl rfl ?_
  refine tr_getI (pc := 1) (x := nI past.length) dX5_giveBack_1 (hS.1 14 (8, 2) rfl) fi_X5_18 rfl hP.2.2.1 ?_
  refine tr_if_le (pc := 4) (tgt := 30) dX5_giveBack_4 (by decide) (nI_z_le (by omega)) (fun hcc => absurd hcc (by omega)) (fun _ => ?_)
  refine tr_aload_n (pc := 7) 0 dX5_giveBack_7 rfl rfl ?_
  refine tr_dup (pc := 8) dX5_giveBack_8 rfl ?_
  refine tr_getI (pc := 9) (x := nI past.length) dX5_giveBack_9 (hS.1 14 (8, 2) rfl) fi_X5_18 rfl hP.2.2.1 ?_
  refine tr_iconst (pc := 12) (v := nI 1) dX5_giveBack_12 (by decide) ?_
  refine tr_isub (pc := 13) (v := nI (past.length - 1)) dX5_giveBack_13 (pk_sub (by omega)) ?_
  refine tr_putI (pc := 14) (x := nI (past.length - 1)) dX5_giveBack_14 (hS.1 14 (8, 2) rfl) fi_X5_18 rfl rfl rfl ?_
  refine tr_aload_n (pc := 17) 1 dX5_giveBack_17 rfl rfl ?_
  refine tr_aload_n (pc := 18) 0 dX5_giveBack_18 rfl rfl ?_
  refine tr_getR (pc := 19) (q := 15) dX5_giveBack_19 (hS.1 14 (8, 2) rfl) fi_X5_11 rfl (hS.2 14 0 15 rfl) ?_
  refine tr_aload_n (pc := 22) 0 dX5_giveBack_22 rfl rfl ?_
  refine tr_getI (pc := 23) (x := nI (past.length - 1)) dX5_giveBack_23 (hS.1 14 (8, 2) rfl) fi_X5_18 rfl rfl ?_
  refine tr_aald (pc := 26) (q := kK rr (past.length - 1)) (past.length - 1) dX5_giveBack_26 (hS.1 15 (2, 5) rfl) rfl (by omega) (by decide) (hP.1 _ (by omega)) ?_
  have hm1 : MP (hs h 14 (upd (h 14) 1 (nI (past.length - 1)))) (kK rr (past.length - 1)) (past.getD (past.length - 1) []) := by
    have k0 := kK_in rr (past.length - 1)
    exact (pl4 _ (by omega)).1.fr (L := [14]) (Fr.rf.hs (by decide)) (by simp; omega) (by simp; omega) (by simp; omega)
  refine tr_callV (pc := 27) (rest := []) (ci := 2) dX5_giveBack_27 ml_X5_25 cv_X2_becomeLike rfl rfl (Nat.le_of_ble_eq_true rfl) (hS.1 3 (5, 3) rfl) rfl (by decide) (c_like (mo_3 hS) (mo_k hS rr _) hm1 (pl4 (past.length - 1) (by omega)).2 (by rcases kK_in rr (past.length - 1) with e | e | e | e | e <;> omega)) ?_
  rintro v1 S1 h1 ⟨rfl, rfl, hm2, hf1⟩
  show T a 3 mX5_giveBack 30 [(0, rv a 14), (1, rv a 3)] [] S h1 _
  exact tr_vret (pc := 30) dX5_giveBack_30 rfl (by
      have f0 : Fr [3, 4, 5, 14] h h1 := (Fr.rf.hs (by decide)).trans (hf1.mono (by simp))
      refine ⟨rfl, rfl, ⟨pl1, by simp; omega, ?_, fun j hj => ?_⟩, hm2, (pl4 _ (by omega)).2, f0⟩
      · rw [hf1 14 (by decide), hs_same, upd_s]; simp
      · simp at hj
        have k0 := kK_in rr j
        have e2 : past.dropLast.getD j [] = past.getD j [] := by rw [pD2, pD2, List.getElem?_dropLast, if_pos (by omega)]
        rw [e2]
        exact ⟨(pl4 j (by omega)).1.fr f0 (by simp; omega) (by simp; omega) (by simp; omega), (pl4 j (by omega)).2⟩)

set_option maxHeartbeats 4000000 in
set_option maxRecDepth 100000 in
theorem c_scount {a : Am} {S : St} {h : Hp} (hS : IsSt S) {rr : Nat} {past : List Prog} (hP : SP S h rr past) : CT a 0 mX5_count [rv a 14] S h (Rt (nI past.length) S h) := by
  refine met_of (by decide +kernel) (Nat.le_of_ble_eq_true rfl) ?_
  show T a 0 mX5_count 0 [(0, rv a 14)] [] S h _
  refine tr_aload_n (pc := 0) 0 dX5_count_0 rfl rfl ?_
  refine tr_getI (pc := 1) (x := nI past.length) dX5_count_1 (hS.1 14 (8, 2) rfl) fi_X5_18 rfl hP.2.2.1 ?_
  exact tr_iret (pc := 4) dX5_count_4 rfl rfl (⟨rfl, rfl, rfl⟩)
