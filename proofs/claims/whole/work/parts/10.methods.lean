set_option maxHeartbeats 4000000 in
set_option maxRecDepth 100000 in
theorem c_isOut_in {a : Am} {S : St} {h : Hp} {j n : Nat} (hj : j < n) (hn : n < 2 ^ 31) : CT a 0 mX9_isOutside [.int (nI j), .int (nI n)] S h (Rt (nI 0) S h) := by
  refine met_of (by decide +kernel) (Nat.le_of_ble_eq_true rfl) ?_
  show T a 0 mX9_isOutside 0 [(0, .int (nI j)), (1, .int (nI n))] [] S h _
  refine tr_iload_n (pc := 0) 0 dX9_isOutside_0 rfl rfl ?_
  refine tr_if_lt (pc := 1) (tgt := 9) dX9_isOutside_1 (by decide) (nI_z_lt (by omega)) (fun hcc => absurd hcc (by decide)) (fun _ => ?_)
  refine tr_iload_n (pc := 4) 0 dX9_isOutside_4 rfl rfl ?_
  refine tr_iload_n (pc := 5) 1 dX9_isOutside_5 rfl rfl ?_
  refine tr_icmp_lt (pc := 6) (tgt := 13) dX9_isOutside_6 (by decide) (nI_ltI (by omega) (by omega)) (fun _ => ?_) (fun hcc => absurd (by omega) hcc)
  refine tr_iconst (pc := 13) (v := nI 0) dX9_isOutside_13 (by decide) ?_
  exact tr_iret (pc := 14) dX9_isOutside_14 rfl (by decide) (⟨rfl, rfl, rfl⟩)

set_option maxHeartbeats 4000000 in
set_option maxRecDepth 100000 in
theorem c_isOut_out {a : Am} {S : St} {h : Hp} {x y : Int32} (hx : x < 0 ∨ y ≤ x) : CT a 0 mX9_isOutside [.int x, .int y] S h (Rt (nI 1) S h) := by
  refine met_of (by decide +kernel) (Nat.le_of_ble_eq_true rfl) ?_
  show T a 0 mX9_isOutside 0 [(0, .int x), (1, .int y)] [] S h _
  refine tr_iload_n (pc := 0) 0 dX9_isOutside_0 rfl rfl ?_
  refine tr_if_lt (pc := 1) (tgt := 9) dX9_isOutside_1 (by decide) Iff.rfl (fun q1 => ?_) (fun q1 => ?_)
  · skip
    refine tr_iconst (pc := 9) (v := nI 1) dX9_isOutside_9 (by decide) ?_
    refine tr_goto (pc := 10) (tgt := 14) dX9_isOutside_10 (by decide) ?_
    exact tr_iret (pc := 14) dX9_isOutside_14 rfl (by decide) (⟨rfl, rfl, rfl⟩)
  · skip
    refine tr_iload_n (pc := 4) 0 dX9_isOutside_4 rfl rfl ?_
    refine tr_iload_n (pc := 5) 1 dX9_isOutside_5 rfl rfl ?_
    refine tr_icmp_lt (pc := 6) (tgt := 13) dX9_isOutside_6 (by decide) Iff.rfl (fun hcc => absurd hcc (Int32.not_lt.mpr (hx.resolve_left q1))) (fun _ => ?_)
    refine tr_iconst (pc := 9) (v := nI 1) dX9_isOutside_9 (by decide) ?_
    refine tr_goto (pc := 10) (tgt := 14) dX9_isOutside_10 (by decide) ?_
    exact tr_iret (pc := 14) dX9_isOutside_14 rfl (by decide) (⟨rfl, rfl, rfl⟩)

set_option maxHeartbeats 4000000 in
set_option maxRecDepth 100000 in
theorem c_count {a : Am} {S : St} {h : Hp} {o : Nat} {P : Prog} (hO : MO S o) (hM : MP h o P) (hV : VB P) : CT a 0 mX2_count [rv a o] S h (Rt (nI P.length) S h) := by
  obtain ⟨hV1, hV2, hV3⟩ := id hV
  refine met_of (by decide +kernel) (Nat.le_of_ble_eq_true rfl) ?_
  show T a 0 mX2_count 0 [(0, rv a o)] [] S h _
  refine tr_aload_n (pc := 0) 0 dX2_count_0 rfl rfl ?_
  refine tr_getI (pc := 1) (x := nI P.length) dX2_count_1 hO.1 fi_X2_18 rfl hM.1 ?_
  exact tr_iret (pc := 4) dX2_count_4 rfl rfl (⟨rfl, rfl, rfl⟩)

set_option maxHeartbeats 4000000 in
set_option maxRecDepth 100000 in
theorem c_has_in {a : Am} {S : St} {h : Hp} {o : Nat} {P : Prog} (hO : MO S o) (hM : MP h o P) (hV : VB P) {m : Nat} (hm : m < P.length) : CT a 0 mX2_has [rv a o, .int (nI m)] S h (Rt (nI 1) S h) := by
  obtain ⟨hV1, hV2, hV3⟩ := id hV
  refine met_of (by decide +kernel) (Nat.le_of_ble_eq_true rfl) ?_
  show T a 0 mX2_has 0 [(0, rv a o), (1, .int (nI m))] [] S h _
  refine tr_iload_n (pc := 0) 1 dX2_has_0 rfl rfl ?_
  refine tr_if_lt (pc := 1) (tgt := 16) dX2_has_1 (by decide) (nI_z_lt (by omega)) (fun hcc => absurd hcc (by decide)) (fun _ => ?_)
  refine tr_iload_n (pc := 4) 1 dX2_has_4 rfl rfl ?_
  refine tr_aload_n (pc := 5) 0 dX2_has_5 rfl rfl ?_
  refine tr_getI (pc := 6) (x := nI P.length) dX2_has_6 hO.1 fi_X2_18 rfl hM.1 ?_
  refine tr_icmp_ge (pc := 9) (tgt := 16) dX2_has_9 (by decide) (nI_leI (by omega) (by omega)) (fun hcc => absurd hcc (by omega)) (fun _ => ?_)
  refine tr_iconst (pc := 12) (v := nI 1) dX2_has_12 (by decide) ?_
  refine tr_goto (pc := 13) (tgt := 17) dX2_has_13 (by decide) ?_
  exact tr_iret (pc := 17) dX2_has_17 rfl (by decide) (⟨rfl, rfl, rfl⟩)

set_option maxHeartbeats 4000000 in
set_option maxRecDepth 100000 in
theorem c_has_out {a : Am} {S : St} {h : Hp} {o : Nat} {P : Prog} (hO : MO S o) (hM : MP h o P) (hV : VB P) {x : Int32} (hx : outN x P.length) : CT a 0 mX2_has [rv a o, .int x] S h (Rt (nI 0) S h) := by
  obtain ⟨hV1, hV2, hV3⟩ := id hV
  refine met_of (by decide +kernel) (Nat.le_of_ble_eq_true rfl) ?_
  show T a 0 mX2_has 0 [(0, rv a o), (1, .int x)] [] S h _
  refine tr_iload_n (pc := 0) 1 dX2_has_0 rfl rfl ?_
  refine tr_if_lt (pc := 1) (tgt := 16) dX2_has_1 (by decide) Iff.rfl (fun q1 => ?_) (fun q1 => ?_)
  · skip
    refine tr_iconst (pc := 16) (v := nI 0) dX2_has_16 (by decide) ?_
    exact tr_iret (pc := 17) dX2_has_17 rfl (by decide) (⟨rfl, rfl, rfl⟩)
  · skip
    refine tr_iload_n (pc := 4) 1 dX2_has_4 rfl rfl ?_
    refine tr_aload_n (pc := 5) 0 dX2_has_5 rfl rfl ?_
    refine tr_getI (pc := 6) (x := nI P.length) dX2_has_6 hO.1 fi_X2_18 rfl hM.1 ?_
    refine tr_icmp_ge (pc := 9) (tgt := 16) dX2_has_9 (by decide) Iff.rfl (fun _ => ?_) (fun hcc => absurd (hx.resolve_left q1) hcc)
    refine tr_iconst (pc := 16) (v := nI 0) dX2_has_16 (by decide) ?_
    exact tr_iret (pc := 17) dX2_has_17 rfl (by decide) (⟨rfl, rfl, rfl⟩)

set_option maxHeartbeats 4000000 in
set_option maxRecDepth 100000 in
theorem c_lines_in {a : Am} {S : St} {h : Hp} {o : Nat} {P : Prog} (hO : MO S o) (hM : MP h o P) (hV : VB P) {m : Nat} (hm : m < P.length) : CT a 1 mX2_lines [rv a o, .int (nI m)] S h (Rt (nI (lnN P m)) S h) := by
  obtain ⟨hV1, hV2, hV3⟩ := id hV
  refine met_of (by decide +kernel) (Nat.le_of_ble_eq_true rfl) ?_
  show T a 1 mX2_lines 0 [(0, rv a o), (1, .int (nI m))] [] S h _
  refine tr_aload_n (pc := 0) 0 dX2_lines_0 rfl rfl ?_
  refine tr_iload_n (pc := 1) 1 dX2_lines_1 rfl rfl ?_
  refine tr_callV (pc := 2) (rest := []) (ci := 2) dX2_lines_2 ml_X2_22 cv_X2_has rfl rfl (Nat.le_of_ble_eq_true rfl) hO.1 rfl (by omega) (c_has_in hO hM hV hm) ?_
  rintro _ _ _ ⟨rfl, rfl, rfl⟩
  show T a 1 mX2_lines 5 [(0, rv a o), (1, .int (nI m))] [.int (nI 1)] S h _
  refine tr_if_eq (pc := 5) (tgt := 17) dX2_lines_5 (by decide) (nI_z_eq (by omega)) (fun hcc => absurd hcc (by decide)) (fun _ => ?_)
  refine tr_aload_n (pc := 8) 0 dX2_lines_8 rfl rfl ?_
  refine tr_getR (pc := 9) (q := o + 1) dX2_lines_9 hO.1 fi_X2_9 rfl hO.2.2.2.1 ?_
  refine tr_iload_n (pc := 12) 1 dX2_lines_12 rfl rfl ?_
  refine tr_iald (pc := 13) (v := nI (lnN P m)) m dX2_lines_13 hO.2.1 rfl (by omega) (by decide) (hM.2.1 m hm) ?_
  refine tr_goto (pc := 14) (tgt := 18) dX2_lines_14 (by decide) ?_
  exact tr_iret (pc := 18) dX2_lines_18 rfl rfl (⟨rfl, rfl, rfl⟩)

set_option maxHeartbeats 4000000 in
set_option maxRecDepth 100000 in
theorem c_lines_out {a : Am} {S : St} {h : Hp} {o : Nat} {P : Prog} (hO : MO S o) (hM : MP h o P) (hV : VB P) {x : Int32} (hx : outN x P.length) : CT a 1 mX2_lines [rv a o, .int x] S h (Rt (nI 0) S h) := by
  obtain ⟨hV1, hV2, hV3⟩ := id hV
  refine met_of (by decide +kernel) (Nat.le_of_ble_eq_true rfl) ?_
  show T a 1 mX2_lines 0 [(0, rv a o), (1, .int x)] [] S h _
  refine tr_aload_n (pc := 0) 0 dX2_lines_0 rfl rfl ?_
  refine tr_iload_n (pc := 1) 1 dX2_lines_1 rfl rfl ?_
  refine tr_callV (pc := 2) (rest := []) (ci := 2) dX2_lines_2 ml_X2_22 cv_X2_has rfl rfl (Nat.le_of_ble_eq_true rfl) hO.1 rfl (by omega) (c_has_out hO hM hV hx) ?_
  rintro _ _ _ ⟨rfl, rfl, rfl⟩
  show T a 1 mX2_lines 5 [(0, rv a o), (1, .int x)] [.int (nI 0)] S h _
  refine tr_if_eq (pc := 5) (tgt := 17) dX2_lines_5 (by decide) (nI_z_eq (by omega)) (fun _ => ?_) (fun hcc => absurd (by decide) hcc)
  refine tr_iconst (pc := 17) (v := nI 0) dX2_lines_17 (by decide) ?_
  exact tr_iret (pc := 18) dX2_lines_18 rfl rfl (⟨rfl, rfl, rfl⟩)

set_option maxHeartbeats 4000000 in
set_option maxRecDepth 100000 in
theorem c_hasLine_in {a : Am} {S : St} {h : Hp} {o : Nat} {P : Prog} (hO : MO S o) (hM : MP h o P) (hV : VB P) {m j : Nat} (hj : j < lnN P m) : CT a 2 mX2_hasLine [rv a o, .int (nI m), .int (nI j)] S h (Rt (nI 1) S h) := by
  obtain ⟨hV1, hV2, hV3⟩ := id hV
  have hm8 := hV2 m
  refine met_of (by decide +kernel) (Nat.le_of_ble_eq_true rfl) ?_
  show T a 2 mX2_hasLine 0 [(0, rv a o), (1, .int (nI m)), (2, .int (nI j))] [] S h _
  refine tr_iload_n (pc := 0) 2 dX2_hasLine_0 rfl rfl ?_
  refine tr_if_lt (pc := 1) (tgt := 17) dX2_hasLine_1 (by decide) (nI_z_lt (by omega)) (fun hcc => absurd hcc (by decide)) (fun _ => ?_)
  refine tr_iload_n (pc := 4) 2 dX2_hasLine_4 rfl rfl ?_
  refine tr_aload_n (pc := 5) 0 dX2_hasLine_5 rfl rfl ?_
  refine tr_iload_n (pc := 6) 1 dX2_hasLine_6 rfl rfl ?_
  refine tr_callV (pc := 7) (rest := [.int (nI j)]) (ci := 2) dX2_hasLine_7 ml_X2_26 cv_X2_lines rfl rfl (Nat.le_of_ble_eq_true rfl) hO.1 rfl (by omega) (c_lines_in hO hM hV (lnN_lt hj)) ?_
  rintro _ _ _ ⟨rfl, rfl, rfl⟩
  show T a 2 mX2_hasLine 10 [(0, rv a o), (1, .int (nI m)), (2, .int (nI j))] [.int (nI (lnN P m)), .int (nI j)] S h _
  refine tr_icmp_ge (pc := 10) (tgt := 17) dX2_hasLine_10 (by decide) (nI_leI (by omega) (by omega)) (fun hcc => absurd hcc (by omega)) (fun _ => ?_)
  refine tr_iconst (pc := 13) (v := nI 1) dX2_hasLine_13 (by decide) ?_
  refine tr_goto (pc := 14) (tgt := 18) dX2_hasLine_14 (by decide) ?_
  exact tr_iret (pc := 18) dX2_hasLine_18 rfl (by decide) (⟨rfl, rfl, rfl⟩)

set_option maxHeartbeats 4000000 in
set_option maxRecDepth 100000 in
theorem c_hasLine_o1 {a : Am} {S : St} {h : Hp} {o : Nat} {P : Prog} (hO : MO S o) (hM : MP h o P) (hV : VB P) {x : Int32} {y : Int32} (hx : outN x P.length) : CT a 2 mX2_hasLine [rv a o, .int x, .int y] S h (Rt (nI 0) S h) := by
  obtain ⟨hV1, hV2, hV3⟩ := id hV
  refine met_of (by decide +kernel) (Nat.le_of_ble_eq_true rfl) ?_
  show T a 2 mX2_hasLine 0 [(0, rv a o), (1, .int x), (2, .int y)] [] S h _
  refine tr_iload_n (pc := 0) 2 dX2_hasLine_0 rfl rfl ?_
  refine tr_if_lt (pc := 1) (tgt := 17) dX2_hasLine_1 (by decide) Iff.rfl (fun q1 => ?_) (fun q1 => ?_)
  · skip
    refine tr_iconst (pc := 17) (v := nI 0) dX2_hasLine_17 (by decide) ?_
    exact tr_iret (pc := 18) dX2_hasLine_18 rfl (by decide) (⟨rfl, rfl, rfl⟩)
  · skip
    refine tr_iload_n (pc := 4) 2 dX2_hasLine_4 rfl rfl ?_
    refine tr_aload_n (pc := 5) 0 dX2_hasLine_5 rfl rfl ?_
    refine tr_iload_n (pc := 6) 1 dX2_hasLine_6 rfl rfl ?_
    refine tr_callV (pc := 7) (rest := [.int y]) (ci := 2) dX2_hasLine_7 ml_X2_26 cv_X2_lines rfl rfl (Nat.le_of_ble_eq_true rfl) hO.1 rfl (by omega) (c_lines_out hO hM hV hx) ?_
    rintro _ _ _ ⟨rfl, rfl, rfl⟩
    show T a 2 mX2_hasLine 10 [(0, rv a o), (1, .int x), (2, .int y)] [.int (nI 0), .int y] S h _
    refine tr_icmp_ge (pc := 10) (tgt := 17) dX2_hasLine_10 (by decide) Iff.rfl (fun _ => ?_) (fun hcc => absurd (by rw [nI_0]; exact Int32.not_lt.mp q1) hcc)
    refine tr_iconst (pc := 17) (v := nI 0) dX2_hasLine_17 (by decide) ?_
    exact tr_iret (pc := 18) dX2_hasLine_18 rfl (by decide) (⟨rfl, rfl, rfl⟩)

set_option maxHeartbeats 4000000 in
set_option maxRecDepth 100000 in
theorem c_hasLine_o2 {a : Am} {S : St} {h : Hp} {o : Nat} {P : Prog} (hO : MO S o) (hM : MP h o P) (hV : VB P) {m : Nat} {y : Int32} (hm : m < P.length) (hy : outN y (lnN P m)) : CT a 2 mX2_hasLine [rv a o, .int (nI m), .int y] S h (Rt (nI 0) S h) := by
  obtain ⟨hV1, hV2, hV3⟩ := id hV
  refine met_of (by decide +kernel) (Nat.le_of_ble_eq_true rfl) ?_
  show T a 2 mX2_hasLine 0 [(0, rv a o), (1, .int (nI m)), (2, .int y)] [] S h _
  refine tr_iload_n (pc := 0) 2 dX2_hasLine_0 rfl rfl ?_
  refine tr_if_lt (pc := 1) (tgt := 17) dX2_hasLine_1 (by decide) Iff.rfl (fun q1 => ?_) (fun q1 => ?_)
  · skip
    refine tr_iconst (pc := 17) (v := nI 0) dX2_hasLine_17 (by decide) ?_
    exact tr_iret (pc := 18) dX2_hasLine_18 rfl (by decide) (⟨rfl, rfl, rfl⟩)
  · skip
    refine tr_iload_n (pc := 4) 2 dX2_hasLine_4 rfl rfl ?_
    refine tr_aload_n (pc := 5) 0 dX2_hasLine_5 rfl rfl ?_
    refine tr_iload_n (pc := 6) 1 dX2_hasLine_6 rfl rfl ?_
    refine tr_callV (pc := 7) (rest := [.int y]) (ci := 2) dX2_hasLine_7 ml_X2_26 cv_X2_lines rfl rfl (Nat.le_of_ble_eq_true rfl) hO.1 rfl (by omega) (c_lines_in hO hM hV hm) ?_
    rintro _ _ _ ⟨rfl, rfl, rfl⟩
    show T a 2 mX2_hasLine 10 [(0, rv a o), (1, .int (nI m)), (2, .int y)] [.int (nI (lnN P m)), .int y] S h _
    refine tr_icmp_ge (pc := 10) (tgt := 17) dX2_hasLine_10 (by decide) Iff.rfl (fun _ => ?_) (fun hcc => absurd (hy.resolve_left q1) hcc)
    refine tr_iconst (pc := 17) (v := nI 0) dX2_hasLine_17 (by decide) ?_
    exact tr_iret (pc := 18) dX2_hasLine_18 rfl (by decide) (⟨rfl, rfl, rfl⟩)

set_option maxHeartbeats 4000000 in
set_option maxRecDepth 100000 in
theorem c_code {a : Am} {S : St} {h : Hp} {o : Nat} {P : Prog} (hO : MO S o) (hM : MP h o P) (hV : VB P) {m j : Nat} (hj : j < lnN P m) : CT a 0 mX2_code [rv a o, .int (nI m), .int (nI j)] S h (Rt (nI (enc (gt P m j))) S h) := by
  obtain ⟨hV1, hV2, hV3⟩ := id hV
  have hm8 := hV2 m
  have hm := lnN_lt hj
  have hok := hV3 m j hj
  refine met_of (by decide +kernel) (Nat.le_of_ble_eq_true rfl) ?_
  show T a 0 mX2_code 0 [(0, rv a o), (1, .int (nI m)), (2, .int (nI j))] [] S h _
  refine tr_iload_n (pc := 0) 1 dX2_code_0 rfl rfl ?_
  refine tr_if_lt (pc := 1) (tgt := 40) dX2_code_1 (by decide) (nI_z_lt (by omega)) (fun hcc => absurd hcc (by decide)) (fun _ => ?_)
  refine tr_iload_n (pc := 4) 1 dX2_code_4 rfl rfl ?_
  refine tr_aload_n (pc := 5) 0 dX2_code_5 rfl rfl ?_
  refine tr_getI (pc := 6) (x := nI P.length) dX2_code_6 hO.1 fi_X2_18 rfl hM.1 ?_
  refine tr_icmp_ge (pc := 9) (tgt := 40) dX2_code_9 (by decide) (nI_leI (by omega) (by omega)) (fun hcc => absurd hcc (by omega)) (fun _ => ?_)
  refine tr_iload_n (pc := 12) 2 dX2_code_12 rfl rfl ?_
  refine tr_if_lt (pc := 13) (tgt := 40) dX2_code_13 (by decide) (nI_z_lt (by omega)) (fun hcc => absurd hcc (by decide)) (fun _ => ?_)
  refine tr_iload_n (pc := 16) 2 dX2_code_16 rfl rfl ?_
  refine tr_aload_n (pc := 17) 0 dX2_code_17 rfl rfl ?_
  refine tr_getR (pc := 18) (q := o + 1) dX2_code_18 hO.1 fi_X2_9 rfl hO.2.2.2.1 ?_
  refine tr_iload_n (pc := 21) 1 dX2_code_21 rfl rfl ?_
  refine tr_iald (pc := 22) (v := nI (lnN P m)) m dX2_code_22 hO.2.1 rfl (by omega) (by decide) (hM.2.1 m hm) ?_
  refine tr_icmp_ge (pc := 23) (tgt := 40) dX2_code_23 (by decide) (nI_leI (by omega) (by omega)) (fun hcc => absurd hcc (by omega)) (fun _ => ?_)
  refine tr_aload_n (pc := 26) 0 dX2_code_26 rfl rfl ?_
  refine tr_getR (pc := 27) (q := o + 2) dX2_code_27 hO.1 fi_X2_15 rfl hO.2.2.2.2 ?_
  refine tr_iload_n (pc := 30) 1 dX2_code_30 rfl rfl ?_
  refine tr_bipush (pc := 31) (v := nI 8) dX2_code_31 (by decide) ?_
  refine tr_imul (pc := 33) (v := nI (m * 8)) dX2_code_33 (pk_mul _ _) ?_
  refine tr_iload_n (pc := 34) 2 dX2_code_34 rfl rfl ?_
  refine tr_iadd (pc := 35) (v := nI (m * 8 + j)) dX2_code_35 (nI_add _ _) ?_
  refine tr_iald (pc := 36) (v := nI (enc (gt P m j))) (m * 8 + j) dX2_code_36 hO.2.2.1 rfl (by omega) (by decide) (hM.2.2 m j hm hj) ?_
  refine tr_goto (pc := 37) (tgt := 41) dX2_code_37 (by decide) ?_
  exact tr_iret (pc := 41) dX2_code_41 rfl rfl (⟨rfl, rfl, rfl⟩)

set_option maxHeartbeats 4000000 in
set_option maxRecDepth 100000 in
theorem c_sort {a : Am} {S : St} {h : Hp} {o : Nat} {P : Prog} (hO : MO S o) (hM : MP h o P) (hV : VB P) {m j : Nat} (hj : j < lnN P m) : CT a 1 mX2_sort [rv a o, .int (nI m), .int (nI j)] S h (Rt (nI (gt P m j).1) S h) := by
  obtain ⟨hV1, hV2, hV3⟩ := id hV
  have hm8 := hV2 m
  have hm := lnN_lt hj
  have hok := hV3 m j hj
  refine met_of (by decide +kernel) (Nat.le_of_ble_eq_true rfl) ?_
  show T a 1 mX2_sort 0 [(0, rv a o), (1, .int (nI m)), (2, .int (nI j))] [] S h _
  refine tr_aload_n (pc := 0) 0 dX2_sort_0 rfl rfl ?_
  refine tr_iload_n (pc := 1) 1 dX2_sort_1 rfl rfl ?_
  refine tr_iload_n (pc := 2) 2 dX2_sort_2 rfl rfl ?_
  refine tr_callV (pc := 3) (rest := []) (ci := 2) dX2_sort_3 ml_X2_29 cv_X2_code rfl rfl (Nat.le_of_ble_eq_true rfl) hO.1 rfl (by omega) (c_code hO hM hV hj) ?_
  rintro _ _ _ ⟨rfl, rfl, rfl⟩
  show T a 1 mX2_sort 6 [(0, rv a o), (1, .int (nI m)), (2, .int (nI j))] [.int (nI (enc (gt P m j)))] S h _
  refine tr_bipush (pc := 6) (v := nI 7) dX2_sort_6 (by decide) ?_
  refine tr_iand (pc := 8) (v := nI ((gt P m j).1)) dX2_sort_8 (enc_sort hok) ?_
  exact tr_iret (pc := 9) dX2_sort_9 rfl rfl (⟨rfl, rfl, rfl⟩)

set_option maxHeartbeats 4000000 in
set_option maxRecDepth 100000 in
theorem c_name {a : Am} {S : St} {h : Hp} {o : Nat} {P : Prog} (hO : MO S o) (hM : MP h o P) (hV : VB P) {m j : Nat} (hj : j < lnN P m) : CT a 1 mX2_name [rv a o, .int (nI m), .int (nI j)] S h (Rt (nI (gt P m j).2.1) S h) := by
  obtain ⟨hV1, hV2, hV3⟩ := id hV
  have hm8 := hV2 m
  have hm := lnN_lt hj
  have hok := hV3 m j hj
  refine met_of (by decide +kernel) (Nat.le_of_ble_eq_true rfl) ?_
  show T a 1 mX2_name 0 [(0, rv a o), (1, .int (nI m)), (2, .int (nI j))] [] S h _
  refine tr_aload_n (pc := 0) 0 dX2_name_0 rfl rfl ?_
  refine tr_iload_n (pc := 1) 1 dX2_name_1 rfl rfl ?_
  refine tr_iload_n (pc := 2) 2 dX2_name_2 rfl rfl ?_
  refine tr_callV (pc := 3) (rest := []) (ci := 2) dX2_name_3 ml_X2_29 cv_X2_code rfl rfl (Nat.le_of_ble_eq_true rfl) hO.1 rfl (by omega) (c_code hO hM hV hj) ?_
  rintro _ _ _ ⟨rfl, rfl, rfl⟩
  show T a 1 mX2_name 6 [(0, rv a o), (1, .int (nI m)), (2, .int (nI j))] [.int (nI (enc (gt P m j)))] S h _
  refine tr_iconst (pc := 6) (v := nI 3) dX2_name_6 (by decide) ?_
  refine tr_ishr (pc := 7) (v := (nI (enc (gt P m j))) >>> (nI 3 &&& 31)) dX2_name_7 rfl ?_
  refine tr_iconst (pc := 8) (v := nI 3) dX2_name_8 (by decide) ?_
  refine tr_iand (pc := 9) (v := nI ((gt P m j).2.1)) dX2_name_9 (enc_name hok) ?_
  exact tr_iret (pc := 10) dX2_name_10 rfl rfl (⟨rfl, rfl, rfl⟩)

set_option maxHeartbeats 4000000 in
set_option maxRecDepth 100000 in
theorem c_other {a : Am} {S : St} {h : Hp} {o : Nat} {P : Prog} (hO : MO S o) (hM : MP h o P) (hV : VB P) {m j : Nat} (hj : j < lnN P m) : CT a 1 mX2_other [rv a o, .int (nI m), .int (nI j)] S h (Rt (nI (gt P m j).2.2.1) S h) := by
  obtain ⟨hV1, hV2, hV3⟩ := id hV
  have hm8 := hV2 m
  have hm := lnN_lt hj
  have hok := hV3 m j hj
  refine met_of (by decide +kernel) (Nat.le_of_ble_eq_true rfl) ?_
  show T a 1 mX2_other 0 [(0, rv a o), (1, .int (nI m)), (2, .int (nI j))] [] S h _
  refine tr_aload_n (pc := 0) 0 dX2_other_0 rfl rfl ?_
  refine tr_iload_n (pc := 1) 1 dX2_other_1 rfl rfl ?_
  refine tr_iload_n (pc := 2) 2 dX2_other_2 rfl rfl ?_
  refine tr_callV (pc := 3) (rest := []) (ci := 2) dX2_other_3 ml_X2_29 cv_X2_code rfl rfl (Nat.le_of_ble_eq_true rfl) hO.1 rfl (by omega) (c_code hO hM hV hj) ?_
  rintro _ _ _ ⟨rfl, rfl, rfl⟩
  show T a 1 mX2_other 6 [(0, rv a o), (1, .int (nI m)), (2, .int (nI j))] [.int (nI (enc (gt P m j)))] S h _
  refine tr_iconst (pc := 6) (v := nI 5) dX2_other_6 (by decide) ?_
  refine tr_ishr (pc := 7) (v := (nI (enc (gt P m j))) >>> (nI 5 &&& 31)) dX2_other_7 rfl ?_
  refine tr_iconst (pc := 8) (v := nI 3) dX2_other_8 (by decide) ?_
  refine tr_iand (pc := 9) (v := nI ((gt P m j).2.2.1)) dX2_other_9 (enc_other hok) ?_
  exact tr_iret (pc := 10) dX2_other_10 rfl rfl (⟨rfl, rfl, rfl⟩)

set_option maxHeartbeats 4000000 in
set_option maxRecDepth 100000 in
theorem c_callee {a : Am} {S : St} {h : Hp} {o : Nat} {P : Prog} (hO : MO S o) (hM : MP h o P) (hV : VB P) {m j : Nat} (hj : j < lnN P m) : CT a 1 mX2_callee [rv a o, .int (nI m), .int (nI j)] S h (Rt (nI (gt P m j).2.2.2) S h) := by
  obtain ⟨hV1, hV2, hV3⟩ := id hV
  have hm8 := hV2 m
  have hm := lnN_lt hj
  have hok := hV3 m j hj
  refine met_of (by decide +kernel) (Nat.le_of_ble_eq_true rfl) ?_
  show T a 1 mX2_callee 0 [(0, rv a o), (1, .int (nI m)), (2, .int (nI j))] [] S h _
  refine tr_aload_n (pc := 0) 0 dX2_callee_0 rfl rfl ?_
  refine tr_iload_n (pc := 1) 1 dX2_callee_1 rfl rfl ?_
  refine tr_iload_n (pc := 2) 2 dX2_callee_2 rfl rfl ?_
  refine tr_callV (pc := 3) (rest := []) (ci := 2) dX2_callee_3 ml_X2_29 cv_X2_code rfl rfl (Nat.le_of_ble_eq_true rfl) hO.1 rfl (by omega) (c_code hO hM hV hj) ?_
  rintro _ _ _ ⟨rfl, rfl, rfl⟩
  show T a 1 mX2_callee 6 [(0, rv a o), (1, .int (nI m)), (2, .int (nI j))] [.int (nI (enc (gt P m j)))] S h _
  refine tr_bipush (pc := 6) (v := nI 7) dX2_callee_6 (by decide) ?_
  refine tr_ishr (pc := 8) (v := (nI (enc (gt P m j))) >>> (nI 7 &&& 31)) dX2_callee_8 rfl ?_
  refine tr_iconst (pc := 9) (v := nI 3) dX2_callee_9 (by decide) ?_
  refine tr_iand (pc := 10) (v := nI ((gt P m j).2.2.2)) dX2_callee_10 (enc_callee hok) ?_
  exact tr_iret (pc := 11) dX2_callee_11 rfl rfl (⟨rfl, rfl, rfl⟩)

def hasY (s : Nat) : Bool := s == 1 || s == 2 || s == 3 || s == 7
set_option maxHeartbeats 4000000 in
set_option maxRecDepth 100000 in
theorem c_hasOther_y {a : Am} {S : St} {h : Hp} {o : Nat} {P : Prog} (hO : MO S o) (hM : MP h o P) (hV : VB P) {m j : Nat} (hj : j < lnN P m) (hy : hasY (gt P m j).1 = true) : CT a 2 mX2_hasOther [rv a o, .int (nI m), .int (nI j)] S h (Rt (nI 1) S h) := by
  obtain ⟨hV1, hV2, hV3⟩ := id hV
  have hm8 := hV2 m
  have hm := lnN_lt hj
  have hok := hV3 m j hj
  obtain ⟨k1, k2, k3, k4⟩ := id hok
  refine met_of (by decide +kernel) (Nat.le_of_ble_eq_true rfl) ?_
  show T a 2 mX2_hasOther 0 [(0, rv a o), (1, .int (nI m)), (2, .int (nI j))] [] S h _
  refine tr_aload_n (pc := 0) 0 dX2_hasOther_0 rfl rfl ?_
  refine tr_iload_n (pc := 1) 1 dX2_hasOther_1 rfl rfl ?_
  refine tr_iload_n (pc := 2) 2 dX2_hasOther_2 rfl rfl ?_
  refine tr_callV (pc := 3) (rest := []) (ci := 2) dX2_hasOther_3 ml_X2_33 cv_X2_sort rfl rfl (Nat.le_of_ble_eq_true rfl) hO.1 rfl (by omega) (c_sort hO hM hV hj) ?_
  rintro _ _ _ ⟨rfl, rfl, rfl⟩
  show T a 2 mX2_hasOther 6 [(0, rv a o), (1, .int (nI m)), (2, .int (nI j))] [.int (nI ((gt P m j).1))] S h _
  refine tr_istore_n (pc := 6) (lv' := [(3, .int (nI ((gt P m j).1))), (0, rv a o), (1, .int (nI m)), (2, .int (nI j))]) dX2_hasOther_6 rfl (by decide) rfl ?_
  refine tr_iload_n (pc := 7) 0 dX2_hasOther_7 rfl rfl ?_
  refine tr_iconst (pc := 8) (v := nI 1) dX2_hasOther_8 (by decide) ?_
  refine tr_icmp_eq (pc := 9) (tgt := 28) dX2_hasOther_9 (by decide) (nI_eq (by omega) (by omega)) (fun q1 => ?_) (fun q1 => ?_)
  · skip
    refine tr_iconst (pc := 28) (v := nI 1) dX2_hasOther_28 (by decide) ?_
    refine tr_goto (pc := 29) (tgt := 33) dX2_hasOther_29 (by decide) ?_
    exact tr_iret (pc := 33) dX2_hasOther_33 rfl (by decide) (⟨rfl, rfl, rfl⟩)
  · skip
    refine tr_iload_n (pc := 12) 0 dX2_hasOther_12 rfl rfl ?_
    refine tr_iconst (pc := 13) (v := nI 2) dX2_hasOther_13 (by decide) ?_
    refine tr_icmp_eq (pc := 14) (tgt := 28) dX2_hasOther_14 (by decide) (nI_eq (by omega) (by omega)) (fun q2 => ?_) (fun q2 => ?_)
    · skip
      refine tr_iconst (pc := 28) (v := nI 1) dX2_hasOther_28 (by decide) ?_
      refine tr_goto (pc := 29) (tgt := 33) dX2_hasOther_29 (by decide) ?_
      exact tr_iret (pc := 33) dX2_hasOther_33 rfl (by decide) (⟨rfl, rfl, rfl⟩)
    · skip
      refine tr_iload_n (pc := 17) 0 dX2_hasOther_17 rfl rfl ?_
      refine tr_iconst (pc := 18) (v := nI 3) dX2_hasOther_18 (by decide) ?_
      refine tr_icmp_eq (pc := 19) (tgt := 28) dX2_hasOther_19 (by decide) (nI_eq (by omega) (by omega)) (fun q3 => ?_) (fun q3 => ?_)
      · skip
        refine tr_iconst (pc := 28) (v := nI 1) dX2_hasOther_28 (by decide) ?_
        refine tr_goto (pc := 29) (tgt := 33) dX2_hasOther_29 (by decide) ?_
        exact tr_iret (pc := 33) dX2_hasOther_33 rfl (by decide) (⟨rfl, rfl, rfl⟩)
      · skip
        refine tr_iload_n (pc := 22) 0 dX2_hasOther_22 rfl rfl ?_
        refine tr_bipush (pc := 23) (v := nI 7) dX2_hasOther_23 (by decide) ?_
        refine tr_icmp_ne (pc := 25) (tgt := 32) dX2_hasOther_25 (by decide) (nI_eq (by omega) (by omega)) (fun hcc => absurd (by simp [hasY, q1, q2, q3] at hy; exact hy) hcc) (fun _ => ?_)
        refine tr_iconst (pc := 28) (v := nI 1) dX2_hasOther_28 (by decide) ?_
        refine tr_goto (pc := 29) (tgt := 33) dX2_hasOther_29 (by decide) ?_
        exact tr_iret (pc := 33) dX2_hasOther_33 rfl (by decide) (⟨rfl, rfl, rfl⟩)

set_option maxHeartbeats 4000000 in
set_option maxRecDepth 100000 in
theorem c_hasOther_n {a : Am} {S : St} {h : Hp} {o : Nat} {P : Prog} (hO : MO S o) (hM : MP h o P) (hV : VB P) {m j : Nat} (hj : j < lnN P m) (hy : hasY (gt P m j).1 = false) : CT a 2 mX2_hasOther [rv a o, .int (nI m), .int (nI j)] S h (Rt (nI 0) S h) := by
  obtain ⟨hV1, hV2, hV3⟩ := id hV
  have hm8 := hV2 m
  have hm := lnN_lt hj
  have hok := hV3 m j hj
  obtain ⟨k1, k2, k3, k4⟩ := id hok
  refine met_of (by decide +kernel) (Nat.le_of_ble_eq_true rfl) ?_
  show T a 2 mX2_hasOther 0 [(0, rv a o), (1, .int (nI m)), (2, .int (nI j))] [] S h _
  refine tr_aload_n (pc := 0) 0 dX2_hasOther_0 rfl rfl ?_
  refine tr_iload_n (pc := 1) 1 dX2_hasOther_1 rfl rfl ?_
  refine tr_iload_n (pc := 2) 2 dX2_hasOther_2 rfl rfl ?_
  refine tr_callV (pc := 3) (rest := []) (ci := 2) dX2_hasOther_3 ml_X2_33 cv_X2_sort rfl rfl (Nat.le_of_ble_eq_true rfl) hO.1 rfl (by omega) (c_sort hO hM hV hj) ?_
  rintro _ _ _ ⟨rfl, rfl, rfl⟩
  show T a 2 mX2_hasOther 6 [(0, rv a o), (1, .int (nI m)), (2, .int (nI j))] [.int (nI ((gt P m j).1))] S h _
  refine tr_istore_n (pc := 6) (lv' := [(3, .int (nI ((gt P m j).1))), (0, rv a o), (1, .int (nI m)), (2, .int (nI j))]) dX2_hasOther_6 rfl (by decide) rfl ?_
  refine tr_iload_n (pc := 7) 0 dX2_hasOther_7 rfl rfl ?_
  refine tr_iconst (pc := 8) (v := nI 1) dX2_hasOther_8 (by decide) ?_
  refine tr_icmp_eq (pc := 9) (tgt := 28) dX2_hasOther_9 (by decide) (nI_eq (by omega) (by omega)) (fun hcc => absurd hcc (by simp [hasY] at hy; omega)) (fun _ => ?_)
  refine tr_iload_n (pc := 12) 0 dX2_hasOther_12 rfl rfl ?_
  refine tr_iconst (pc := 13) (v := nI 2) dX2_hasOther_13 (by decide) ?_
  refine tr_icmp_eq (pc := 14) (tgt := 28) dX2_hasOther_14 (by decide) (nI_eq (by omega) (by omega)) (fun hcc => absurd hcc (by simp [hasY] at hy; omega)) (fun _ => ?_)
  refine tr_iload_n (pc := 17) 0 dX2_hasOther_17 rfl rfl ?_
  refine tr_iconst (pc := 18) (v := nI 3) dX2_hasOther_18 (by decide) ?_
  refine tr_icmp_eq (pc := 19) (tgt := 28) dX2_hasOther_19 (by decide) (nI_eq (by omega) (by omega)) (fun hcc => absurd hcc (by simp [hasY] at hy; omega)) (fun _ => ?_)
  refine tr_iload_n (pc := 22) 0 dX2_hasOther_22 rfl rfl ?_
  refine tr_bipush (pc := 23) (v := nI 7) dX2_hasOther_23 (by decide) ?_
  refine tr_icmp_ne (pc := 25) (tgt := 32) dX2_hasOther_25 (by decide) (nI_eq (by omega) (by omega)) (fun _ => ?_) (fun hcc => absurd hcc (by simp [hasY] at hy; omega))
  refine tr_iconst (pc := 32) (v := nI 0) dX2_hasOther_32 (by decide) ?_
  exact tr_iret (pc := 33) dX2_hasOther_33 rfl (by decide) (⟨rfl, rfl, rfl⟩)

theorem hs_self {h : Hp} {o : Nat} : hs h o (h o) = h := by
  funext j
  by_cases q : j = o
  · subst q; rw [hs_same]
  · rw [hs_ne q]
theorem hs_hs {h : Hp} {o : Nat} {f g : Nat → Int32} : hs (hs h o f) o g = hs h o g := by
  funext j
  by_cases q : j = o
  · subst q; rw [hs_same, hs_same]
  · rw [hs_ne q, hs_ne q, hs_ne q]
theorem upd_s {f : Nat → Int32} {k : Nat} {x : Int32} : upd f k x k = x := by simp [upd]
theorem upd_n {f : Nat → Int32} {k j : Nat} {x : Int32} (h : j ≠ k) : upd f k x j = f j := by simp [upd, h]

set_option maxHeartbeats 4000000 in
set_option maxRecDepth 100000 in
theorem c_fill {a : Am} {S : St} {h : Hp} {o n : Nat} {x : Int32} (ho : S.1[o]? = some (0, n)) (hn : n < 2 ^ 30) : CT a 0 mJ7_fill_53178 [rv a o, .int x] S h (fun v S' h' => v = none ∧ S = S' ∧ ∃ f, (∀ j, j < n → f j = x) ∧ hs h o f = h') := by
  refine met_of (by decide +kernel) (Nat.le_of_ble_eq_true rfl) ?_
  show T a 0 mJ7_fill_53178 0 [(0, rv a o), (1, .int x)] [] S h _
  refine tr_iconst (pc := 0) (v := nI 0) dJ7_fill_53178_0 (by decide) ?_
  refine tr_istore_n (pc := 1) (lv' := [(2, .int (nI 0)), (0, rv a o), (1, .int x)]) dJ7_fill_53178_1 rfl (by decide) rfl ?_
  refine tr_aload_n (pc := 2) 1 dJ7_fill_53178_2 rfl rfl ?_
  refine tr_alenI (pc := 3) (v := nI n) dJ7_fill_53178_3 ho rfl ?_
  refine tr_istore_n (pc := 4) (lv' := [(3, .int (nI n)), (2, .int (nI 0)), (0, rv a o), (1, .int x)]) dJ7_fill_53178_4 rfl (by decide) rfl ?_
  refine tr_sub (pc := 5) (lv' := [(0, rv a o), (1, .int x), (2, .int (nI 0)), (3, .int (nI n))]) [2, 3, 1, 0] rfl ?_
  have L5 : ∀ (fu : Nat) (i : Nat) (f : Nat → Int32), n - i < fu → i ≤ n → (∀ j, j < i → f j = x) → T a 0 mJ7_fill_53178 5 [(0, rv a o), (1, .int x), (2, .int (nI i)), (3, .int (nI n))] [] S (hs h o f) (fun v S' h' => v = none ∧ S = S' ∧ ∃ f, (∀ j, j < n → f j = x) ∧ hs h o f = h') := by
    intro fu
    induction fu with
    | zero => intro i f hm hi hf; omega
    | succ fu ih =>
      intro i f hm hi hf
      refine tr_iload_n (pc := 5) 2 dJ7_fill_53178_5 rfl rfl ?_
      refine tr_iload_n (pc := 6) 3 dJ7_fill_53178_6 rfl rfl ?_
      refine tr_icmp_ge (pc := 7) (tgt := 20) dJ7_fill_53178_7 (by decide) (nI_leI (by omega) (by omega)) (fun q => ?_) (fun q => ?_)
      · skip
        exact tr_vret (pc := 20) dJ7_fill_53178_20 rfl (⟨rfl, rfl, f, fun j hj => hf j (by omega), rfl⟩)
      · skip
        refine tr_aload_n (pc := 10) 0 dJ7_fill_53178_10 rfl rfl ?_
        refine tr_iload_n (pc := 11) 2 dJ7_fill_53178_11 rfl rfl ?_
        refine tr_iload_n (pc := 12) 1 dJ7_fill_53178_12 rfl rfl ?_
        refine tr_iast (pc := 13) i dJ7_fill_53178_13 ho rfl (by omega) (by omega) ?_
        refine tr_iinc (pc := 14) (v := nI (i + 1)) (lv' := [(2, .int (nI (i + 1))), (0, rv a o), (1, .int x), (3, .int (nI n))]) 2 dJ7_fill_53178_14 rfl (by rw [show Int32.ofInt 1 = nI 1 from by decide, nI_add]) (by decide) rfl ?_
        refine tr_goto (pc := 17) (tgt := 5) dJ7_fill_53178_17 (by decide) ?_
        refine tr_sub (pc := 5) (lv' := [(0, rv a o), (1, .int x), (2, .int (nI (i + 1))), (3, .int (nI n))]) [1, 2, 0, 3] rfl ?_
        rw [hs_hs, hs_same]
        exact ih (i + 1) (upd f i x) (by omega) (by omega) (fun j hj => by
          by_cases q : j = i
          · subst q; exact upd_s
          · rw [upd_n q]; exact hf j (by omega))
  have K := L5 (n + 1) 0 (h o) (by omega) (by omega) (fun j hj => by omega)
  rw [hs_self] at K
  exact K

/-- the methods that the first i lines of a method call, as bits -/
def cbF (P : Prog) (m : Nat) : Nat → Int32
  | 0 => 0
  | i + 1 => if (gt P m i).1 = 7 then cbF P m i ||| (nI 1 <<< (nI (gt P m i).2.2.2 &&& 31)) else cbF P m i
set_option maxHeartbeats 4000000 in
set_option maxRecDepth 100000 in
theorem c_calledBy {a : Am} {S : St} {h : Hp} {o : Nat} {P : Prog} (hO : MO S o) (hM : MP h o P) (hV : VB P) {m : Nat} (hm : m < P.length) : CT a 2 mX2_calledBy [rv a o, .int (nI m)] S h (Rt (cbF P m (lnN P m)) S h) := by
  obtain ⟨hV1, hV2, hV3⟩ := id hV
  have hm8 := hV2 m
  refine met_of (by decide +kernel) (Nat.le_of_ble_eq_true rfl) ?_
  show T a 2 mX2_calledBy 0 [(0, rv a o), (1, .int (nI m))] [] S h _
  refine tr_iconst (pc := 0) (v := nI 0) dX2_calledBy_0 (by decide) ?_
  refine tr_istore_n (pc := 1) (lv' := [(2, .int (nI 0)), (0, rv a o), (1, .int (nI m))]) dX2_calledBy_1 rfl (by decide) rfl ?_
  refine tr_iconst (pc := 2) (v := nI 0) dX2_calledBy_2 (by decide) ?_
  refine tr_istore_n (pc := 3) (lv' := [(3, .int (nI 0)), (2, .int (nI 0)), (0, rv a o), (1, .int (nI m))]) dX2_calledBy_3 rfl (by decide) rfl ?_
  refine tr_sub (pc := 4) (lv' := [(0, rv a o), (1, .int (nI m)), (2, .int (nI 0)), (3, .int (nI 0))]) [2, 3, 1, 0] rfl ?_
  have L4 : ∀ (fu : Nat) (i : Nat), lnN P m - i < fu → i ≤ lnN P m → T a 2 mX2_calledBy 4 [(0, rv a o), (1, .int (nI m)), (2, .int (cbF P m i)), (3, .int (nI i))] [] S h (Rt (cbF P m (lnN P m)) S h) := by
    intro fu
    induction fu with
    | zero => intro i hmm hi; omega
    | succ fu ih =>
      intro i hmm hi
      refine tr_iload_n (pc := 4) 3 dX2_calledBy_4 rfl rfl ?_
      refine tr_aload_n (pc := 5) 0 dX2_calledBy_5 rfl rfl ?_
      refine tr_iload_n (pc := 6) 1 dX2_calledBy_6 rfl rfl ?_
      refine tr_callV (pc := 7) (rest := [.int (nI i)]) (ci := 2) dX2_calledBy_7 ml_X2_26 cv_X2_lines rfl rfl (Nat.le_of_ble_eq_true rfl) hO.1 rfl (by omega) (c_lines_in hO hM hV hm) ?_
      rintro _ _ _ ⟨rfl, rfl, rfl⟩
      show T a 2 mX2_calledBy 10 [(0, rv a o), (1, .int (nI m)), (2, .int (cbF P m i)), (3, .int (nI i))] [.int (nI (lnN P m)), .int (nI i)] S h _
      refine tr_icmp_ge (pc := 10) (tgt := 41) dX2_calledBy_10 (by decide) (nI_leI (by omega) (by omega)) (fun q10 => ?_) (fun q10 => ?_)
      · skip
        refine tr_iload_n (pc := 41) 2 dX2_calledBy_41 rfl rfl ?_
        exact tr_iret (pc := 42) dX2_calledBy_42 rfl rfl (by
            have e : i = lnN P m := by omega
            rw [e]; exact ⟨rfl, rfl, rfl⟩)
      · skip
        refine tr_aload_n (pc := 13) 0 dX2_calledBy_13 rfl rfl ?_
        refine tr_iload_n (pc := 14) 1 dX2_calledBy_14 rfl rfl ?_
        refine tr_iload_n (pc := 15) 3 dX2_calledBy_15 rfl rfl ?_
        refine tr_callV (pc := 16) (rest := []) (ci := 2) dX2_calledBy_16 ml_X2_33 cv_X2_sort rfl rfl (Nat.le_of_ble_eq_true rfl) hO.1 rfl (by decide) (c_sort hO hM hV (Nat.lt_of_not_le q10)) ?_
        rintro _ _ _ ⟨rfl, rfl, rfl⟩
        show T a 2 mX2_calledBy 19 [(0, rv a o), (1, .int (nI m)), (2, .int (cbF P m i)), (3, .int (nI i))] [.int (nI ((gt P m i).1))] S h _
        refine tr_bipush (pc := 19) (v := nI 7) dX2_calledBy_19 (by decide) ?_
        refine tr_icmp_ne (pc := 21) (tgt := 35) dX2_calledBy_21 (by decide) (nI_eq (by have := (hV3 m i (Nat.lt_of_not_le q10)).1; omega) (by have := (hV3 m i (Nat.lt_of_not_le q10)).1; omega)) (fun q21 => ?_) (fun q21 => ?_)
        · skip
          refine tr_iinc (pc := 35) (v := nI (i + 1)) (lv' := [(3, .int (nI (i + 1))), (0, rv a o), (1, .int (nI m)), (2, .int (cbF P m i))]) 3 dX2_calledBy_35 rfl (by rw [show Int32.ofInt 1 = nI 1 from by decide, nI_add]) (by decide) rfl ?_
          refine tr_goto (pc := 38) (tgt := 4) dX2_calledBy_38 (by decide) ?_
          refine tr_sub (pc := 4) (lv' := [(0, rv a o), (1, .int (nI m)), (2, .int (cbF P m i)), (3, .int (nI (i + 1)))]) [1, 2, 3, 0] rfl ?_
          have e1 : cbF P m i = cbF P m (i + 1) := by simp [cbF, q21]
          rw [e1]
          exact ih (i + 1) (by omega) (by omega)
        · skip
          refine tr_iload_n (pc := 24) 2 dX2_calledBy_24 rfl rfl ?_
          refine tr_iconst (pc := 25) (v := nI 1) dX2_calledBy_25 (by decide) ?_
          refine tr_aload_n (pc := 26) 0 dX2_calledBy_26 rfl rfl ?_
          refine tr_iload_n (pc := 27) 1 dX2_calledBy_27 rfl rfl ?_
          refine tr_iload_n (pc := 28) 3 dX2_calledBy_28 rfl rfl ?_
          refine tr_callV (pc := 29) (rest := [.int (nI 1), .int (cbF P m i)]) (ci := 2) dX2_calledBy_29 ml_X2_36 cv_X2_callee rfl rfl (Nat.le_of_ble_eq_true rfl) hO.1 rfl (by omega) (c_callee hO hM hV (Nat.lt_of_not_le q10)) ?_
          rintro _ _ _ ⟨rfl, rfl, rfl⟩
          show T a 2 mX2_calledBy 32 [(0, rv a o), (1, .int (nI m)), (2, .int (cbF P m i)), (3, .int (nI i))] [.int (nI ((gt P m i).2.2.2)), .int (nI 1), .int (cbF P m i)] S h _
          refine tr_ishl (pc := 32) (v := (nI 1) <<< (nI ((gt P m i).2.2.2) &&& 31)) dX2_calledBy_32 rfl ?_
          refine tr_ior (pc := 33) (v := (cbF P m i) ||| ((nI 1) <<< (nI ((gt P m i).2.2.2) &&& 31))) dX2_calledBy_33 rfl ?_
          refine tr_istore_n (pc := 34) (lv' := [(2, .int ((cbF P m i) ||| ((nI 1) <<< (nI ((gt P m i).2.2.2) &&& 31)))), (0, rv a o), (1, .int (nI m)), (3, .int (nI i))]) dX2_calledBy_34 rfl (by decide) rfl ?_
          refine tr_iinc (pc := 35) (v := nI (i + 1)) (lv' := [(3, .int (nI (i + 1))), (2, .int ((cbF P m i) ||| ((nI 1) <<< (nI ((gt P m i).2.2.2) &&& 31)))), (0, rv a o), (1, .int (nI m))]) 3 dX2_calledBy_35 rfl (by rw [show Int32.ofInt 1 = nI 1 from by decide, nI_add]) (by decide) rfl ?_
          refine tr_goto (pc := 38) (tgt := 4) dX2_calledBy_38 (by decide) ?_
          refine tr_sub (pc := 4) (lv' := [(0, rv a o), (1, .int (nI m)), (2, .int ((cbF P m i) ||| ((nI 1) <<< (nI ((gt P m i).2.2.2) &&& 31)))), (3, .int (nI (i + 1)))]) [2, 3, 1, 0] rfl ?_
          have e1 : (cbF P m i) ||| ((nI 1) <<< (nI ((gt P m i).2.2.2) &&& 31)) = cbF P m (i + 1) := by simp [cbF, q21]
          rw [e1]
          exact ih (i + 1) (by omega) (by omega)
  exact L4 (lnN P m + 1) 0 (by omega) (by omega)

set_option maxHeartbeats 4000000 in
set_option maxRecDepth 100000 in
theorem c_becomeNone {a : Am} {S : St} {h : Hp} (hS : IsSt S) : CT a 0 mX2_becomeNone [rv a 6] S h (fun v S' h' => v = none ∧ S = S' ∧ MP h' 6 [] ∧ Fr [6, 7, 8] h h') := by
  refine met_of (by decide +kernel) (Nat.le_of_ble_eq_true rfl) ?_
  show T a 0 mX2_becomeNone 0 [(0, rv a 6)] [] S h _
  refine tr_aload_n (pc := 0) 0 dX2_becomeNone_0 rfl rfl ?_
  refine tr_iconst (pc := 1) (v := nI 0) dX2_becomeNone_1 (by decide) ?_
  refine tr_putI (pc := 2) (x := nI 0) dX2_becomeNone_2 (hS.1 6 (5, 3) rfl) fi_X2_18 rfl rfl rfl ?_
  exact tr_vret (pc := 5) dX2_becomeNone_5 rfl (⟨rfl, rfl, ⟨rfl, fun m hm => by simp at hm, fun m i hm => by simp at hm⟩, Fr.rf.hs (by decide)⟩)

theorem mp_new {h : Hp} {P : Prog} (hM : MP h 6 P) (hP : P.length < 4) : MP (hs (hs h 7 (upd (h 7) P.length (nI 0))) 6 (upd (h 6) 0 (nI (P.length + 1)))) 6 (P ++ [[]]) := by
  refine ⟨?_, fun m hm => ?_, fun m i hm hi => ?_⟩
  · rw [hs_same, upd_s]; simp
  · show hs (hs h 7 _) 6 _ 7 m = _
    rw [hs_ne (by decide), hs_same, lnN_new]
    by_cases q : m = P.length
    · subst q
      rw [upd_s]
      unfold lnN
      rw [pD, List.getElem?_eq_none (Nat.le_refl _)]
      rfl
    · rw [upd_n q]
      exact hM.2.1 m (by simp at hm; omega)
  · show hs (hs h 7 _) 6 _ 8 (m * 8 + i) = _
    rw [hs_ne (by decide), hs_ne (by decide), gt_new]
    rw [lnN_new] at hi
    exact hM.2.2 m i (lnN_lt hi) hi
theorem mp_add {h : Hp} {P : Prog} {l : Ln} (hM : MP h 6 P) (hP : 0 < P.length) (hV : VB P) : MP (hs (hs h 8 (upd (h 8) ((P.length - 1) * 8 + lnN P (P.length - 1)) (nI (enc l)))) 7 (upd (h 7) (P.length - 1) (nI (lnN P (P.length - 1) + 1)))) 6 (addL P l) := by
  obtain ⟨hV1, hV2, hV3⟩ := hV
  refine ⟨?_, fun m hm => ?_, fun m i hm hi => ?_⟩
  · rw [hs_ne (by decide), hs_ne (by decide), len_add]; exact hM.1
  · rw [len_add] at hm
    show hs (hs h 8 _) 7 _ 7 m = _
    rw [hs_same, lnN_add hP]
    by_cases q : m = P.length - 1
    · subst q; rw [upd_s, if_pos rfl]
    · rw [upd_n q, if_neg q]; exact hM.2.1 m hm
  · rw [len_add] at hm
    show hs (hs h 8 _) 7 _ 8 (m * 8 + i) = _
    rw [hs_ne (by decide), hs_same, gt_add hP]
    rw [lnN_add hP] at hi
    have h8 := hV2 m
    have h9 := hV2 (P.length - 1)
    by_cases q : m = P.length - 1 ∧ i = lnN P m
    · rw [if_pos q, q.2, q.1, upd_s]
    · rw [if_neg q]
      have hi2 : i < lnN P m := by
        by_cases q1 : m = P.length - 1
        · rw [if_pos q1] at hi; omega
        · rw [if_neg q1] at hi; exact hi
      rw [upd_n (fun e => ?_)]
      · exact hM.2.2 m i hm hi2
      · apply q
        by_cases q1 : m = P.length - 1
        · subst q1; exact ⟨rfl, by omega⟩
        · rw [if_neg q1] at hi
          exfalso
          have : m < P.length - 1 := by omega
          omega
theorem mp_drop {h : Hp} {P : Prog} {m i : Nat} (hM : MP h 3 P) (hV : VB P) (hi : i < lnN P m) : MP (hs (hs h 5 (va_cpy (h 5) (h 5) (m * 8 + i + 1) (m * 8 + i) (lnN P m - 1 - i))) 4 (upd (h 4) m (nI (lnN P m - 1)))) 3 (dropL P m i) := by
  obtain ⟨hV1, hV2, hV3⟩ := hV
  refine ⟨?_, fun k hk => ?_, fun k j hk hj => ?_⟩
  · rw [hs_ne (by decide), hs_ne (by decide), len_drop]; exact hM.1
  · rw [len_drop] at hk
    show hs (hs h 5 _) 4 _ 4 k = _
    rw [hs_same, lnN_drop hi]
    by_cases q : k = m
    · subst q; rw [upd_s, if_pos rfl]
    · rw [upd_n q, if_neg q]; exact hM.2.1 k hk
  · rw [len_drop] at hk
    rw [lnN_drop hi] at hj
    show hs (hs h 5 _) 4 _ 5 (k * 8 + j) = _
    rw [hs_ne (by decide), hs_same, gt_drop hi]
    have h8 := hV2 k
    have h9 := hV2 m
    by_cases q : k = m ∧ i ≤ j
    · rw [if_pos q]
      obtain ⟨q1, q2⟩ := q
      subst q1
      rw [if_pos rfl] at hj
      rw [pk_cpy_in (by omega) (by omega), show k * 8 + i + 1 + (k * 8 + j - (k * 8 + i)) = k * 8 + (j + 1) by omega]
      exact hM.2.2 k (j + 1) hk (by omega)
    · rw [if_neg q]
      have hj2 : j < lnN P k := by
        by_cases q1 : k = m
        · rw [if_pos q1] at hj; omega
        · rw [if_neg q1] at hj; exact hj
      rw [pk_cpy_out (by
        by_cases q1 : k = m
        · subst q1; left; omega
        · by_cases q2 : k < m
          · left; omega
          · right; omega)]
      exact hM.2.2 k j hk hj2
theorem mp_swap {h : Hp} {P : Prog} {m i : Nat} (hM : MP h 3 P) (hV : VB P) (hi : i + 1 < lnN P m) : MP (hs (hs h 5 (upd (h 5) (m * 8 + i) (nI (enc (gt P m (i + 1)))))) 5 (upd (upd (h 5) (m * 8 + i) (nI (enc (gt P m (i + 1))))) (m * 8 + i + 1) (nI (enc (gt P m i))))) 3 (swapL P m i) := by
  obtain ⟨hV1, hV2, hV3⟩ := hV
  refine ⟨?_, fun k hk => ?_, fun k j hk hj => ?_⟩
  · rw [hs_ne (by decide), hs_ne (by decide), len_swap]; exact hM.1
  · rw [len_swap] at hk
    show hs (hs h 5 _) 5 _ 4 k = _
    rw [hs_ne (by decide), hs_ne (by decide), lnN_swap hi]
    exact hM.2.1 k hk
  · rw [len_swap] at hk
    rw [lnN_swap hi] at hj
    show hs (hs h 5 _) 5 _ 5 (k * 8 + j) = _
    rw [hs_same, gt_swap hi]
    have h8 := hV2 k
    have h9 := hV2 m
    by_cases q : k = m ∧ j = i
    · obtain ⟨rfl, rfl⟩ := q
      rw [if_pos ⟨rfl, rfl⟩, upd_n (by omega), upd_s]
    · rw [if_neg q]
      by_cases q1 : k = m ∧ j = i + 1
      · obtain ⟨rfl, rfl⟩ := q1
        rw [if_pos ⟨rfl, rfl⟩, show k * 8 + (i + 1) = k * 8 + i + 1 by omega, upd_s]
      · rw [if_neg q1, upd_n (fun e => ?_), upd_n (fun e => ?_)]
        · exact hM.2.2 k j hk hj
        · by_cases q2 : k = m
          · subst q2; omega
          · omega
        · by_cases q2 : k = m
          · subst q2; omega
          · omega
set_option maxHeartbeats 4000000 in
set_option maxRecDepth 100000 in
theorem c_addMethod {a : Am} {S : St} {h : Hp} (hS : IsSt S) {P : Prog} (hM : MP h 6 P) (hV : VB P) (hP : P.length < 4) : CT a 0 mX2_addMethod [rv a 6] S h (fun v S' h' => v = none ∧ S = S' ∧ MP h' 6 (P ++ [[]]) ∧ Fr [6, 7, 8] h h') := by
  refine met_of (by decide +kernel) (Nat.le_of_ble_eq_true rfl) ?_
  show T a 0 mX2_addMethod 0 [(0, rv a 6)] [] S h _
  refine tr_aload_n (pc := 0) 0 dX2_addMethod_0 rfl rfl ?_
  refine tr_getI (pc := 1) (x := nI P.length) dX2_addMethod_1 (hS.1 6 (5, 3) rfl) fi_X2_18 rfl hM.1 ?_
  refine tr_iconst (pc := 4) (v := nI 4) dX2_addMethod_4 (by decide) ?_
  refine tr_icmp_ge (pc := 5) (tgt := 28) dX2_addMethod_5 (by decide) (nI_leI (by omega) (by omega)) (fun hcc => absurd hcc (by omega)) (fun _ => ?_)
  refine tr_aload_n (pc := 8) 0 dX2_addMethod_8 rfl rfl ?_
  refine tr_getR (pc := 9) (q := 7) dX2_addMethod_9 (hS.1 6 (5, 3) rfl) fi_X2_9 rfl (hS.2 6 1 7 rfl) ?_
  refine tr_aload_n (pc := 12) 0 dX2_addMethod_12 rfl rfl ?_
  refine tr_getI (pc := 13) (x := nI P.length) dX2_addMethod_13 (hS.1 6 (5, 3) rfl) fi_X2_18 rfl hM.1 ?_
  refine tr_iconst (pc := 16) (v := nI 0) dX2_addMethod_16 (by decide) ?_
  refine tr_iast (pc := 17) P.length dX2_addMethod_17 (hS.1 7 (0, 4) rfl) rfl (by omega) (by decide) ?_
  refine tr_aload_n (pc := 18) 0 dX2_addMethod_18 rfl rfl ?_
  refine tr_dup (pc := 19) dX2_addMethod_19 rfl ?_
  refine tr_getI (pc := 20) (x := nI P.length) dX2_addMethod_20 (hS.1 6 (5, 3) rfl) fi_X2_18 rfl hM.1 ?_
  refine tr_iconst (pc := 23) (v := nI 1) dX2_addMethod_23 (by decide) ?_
  refine tr_iadd (pc := 24) (v := nI (P.length + 1)) dX2_addMethod_24 (nI_add _ _) ?_
  refine tr_putI (pc := 25) (x := nI (P.length + 1)) dX2_addMethod_25 (hS.1 6 (5, 3) rfl) fi_X2_18 rfl rfl rfl ?_
  exact tr_vret (pc := 28) dX2_addMethod_28 rfl (⟨rfl, rfl, mp_new hM hP, (Fr.rf.hs (by decide)).hs (by decide)⟩)

set_option maxHeartbeats 4000000 in
set_option maxRecDepth 100000 in
theorem c_addLine {a : Am} {S : St} {h : Hp} (hS : IsSt S) {P : Prog} (hM : MP h 6 P) (hV : VB P) {l : Ln} (hl : okL l) (hP : 0 < P.length) (h8 : lnN P (P.length - 1) < 8) : CT a 1 mX2_addLine [rv a 6, .int (nI l.1), .int (nI l.2.1), .int (nI l.2.2.1), .int (nI l.2.2.2)] S h (fun v S' h' => v = none ∧ S = S' ∧ MP h' 6 (addL P l) ∧ Fr [6, 7, 8] h h') := by
  obtain ⟨hV1, hV2, hV3⟩ := id hV
  have hm : P.length - 1 < P.length := by omega
  have hO : MO S 6 := ⟨hS.1 6 _ rfl, hS.1 7 _ rfl, hS.1 8 _ rfl, hS.2 6 1 7 rfl, hS.2 6 2 8 rfl⟩
  obtain ⟨l1, l2, l3, l4⟩ := id hl
  refine met_of (by decide +kernel) (Nat.le_of_ble_eq_true rfl) ?_
  show T a 1 mX2_addLine 0 [(0, rv a 6), (1, .int (nI l.1)), (2, .int (nI l.2.1)), (3, .int (nI l.2.2.1)), (4, .int (nI l.2.2.2))] [] S h _
  refine tr_aload_n (pc := 0) 0 dX2_addLine_0 rfl rfl ?_
  refine tr_getI (pc := 1) (x := nI P.length) dX2_addLine_1 (hS.1 6 (5, 3) rfl) fi_X2_18 rfl hM.1 ?_
  refine tr_iconst (pc := 4) (v := nI 1) dX2_addLine_4 (by decide) ?_
  refine tr_isub (pc := 5) (v := nI (P.length - 1)) dX2_addLine_5 (pk_sub (by omega)) ?_
  refine tr_istore (pc := 6) (lv' := [(5, .int (nI (P.length - 1))), (0, rv a 6), (1, .int (nI l.1)), (2, .int (nI l.2.1)), (3, .int (nI l.2.2.1)), (4, .int (nI l.2.2.2))]) dX2_addLine_6 (by decide) rfl ?_
  refine tr_aload_n (pc := 8) 1 dX2_addLine_8 rfl rfl ?_
  refine tr_iload (pc := 9) 0 dX2_addLine_9 rfl ?_
  refine tr_callV (pc := 11) (rest := []) (ci := 2) dX2_addLine_11 ml_X2_22 cv_X2_has rfl rfl (Nat.le_of_ble_eq_true rfl) (hS.1 6 (5, 3) rfl) rfl (by omega) (c_has_in hO hM hV hm) ?_
  rintro _ _ _ ⟨rfl, rfl, rfl⟩
  show T a 1 mX2_addLine 14 [(5, .int (nI (P.length - 1))), (0, rv a 6), (1, .int (nI l.1)), (2, .int (nI l.2.1)), (3, .int (nI l.2.2.1)), (4, .int (nI l.2.2.2))] [.int (nI 1)] S h _
  refine tr_if_eq (pc := 14) (tgt := 73) dX2_addLine_14 (by decide) (nI_z_eq (by omega)) (fun hcc => absurd hcc (by decide)) (fun _ => ?_)
  refine tr_aload_n (pc := 17) 1 dX2_addLine_17 rfl rfl ?_
  refine tr_getR (pc := 18) (q := 7) dX2_addLine_18 (hS.1 6 (5, 3) rfl) fi_X2_9 rfl (hS.2 6 1 7 rfl) ?_
  refine tr_iload (pc := 21) 0 dX2_addLine_21 rfl ?_
  refine tr_iald (pc := 23) (v := nI (lnN P (P.length - 1))) (P.length - 1) dX2_addLine_23 (hS.1 7 (0, 4) rfl) rfl (by omega) (by decide) (hM.2.1 _ hm) ?_
  refine tr_bipush (pc := 24) (v := nI 8) dX2_addLine_24 (by decide) ?_
  refine tr_icmp_ge (pc := 26) (tgt := 73) dX2_addLine_26 (by decide) (nI_leI (by omega) (by omega)) (fun hcc => absurd hcc (by omega)) (fun _ => ?_)
  refine tr_aload_n (pc := 29) 1 dX2_addLine_29 rfl rfl ?_
  refine tr_getR (pc := 30) (q := 8) dX2_addLine_30 (hS.1 6 (5, 3) rfl) fi_X2_15 rfl (hS.2 6 2 8 rfl) ?_
  refine tr_iload (pc := 33) 0 dX2_addLine_33 rfl ?_
  refine tr_bipush (pc := 35) (v := nI 8) dX2_addLine_35 (by decide) ?_
  refine tr_imul (pc := 37) (v := nI ((P.length - 1) * 8)) dX2_addLine_37 (pk_mul _ _) ?_
  refine tr_aload_n (pc := 38) 1 dX2_addLine_38 rfl rfl ?_
  refine tr_getR (pc := 39) (q := 7) dX2_addLine_39 (hS.1 6 (5, 3) rfl) fi_X2_9 rfl (hS.2 6 1 7 rfl) ?_
  refine tr_iload (pc := 42) 0 dX2_addLine_42 rfl ?_
  refine tr_iald (pc := 44) (v := nI (lnN P (P.length - 1))) (P.length - 1) dX2_addLine_44 (hS.1 7 (0, 4) rfl) rfl (by omega) (by decide) (hM.2.1 _ hm) ?_
  refine tr_iadd (pc := 45) (v := nI ((P.length - 1) * 8 + (lnN P (P.length - 1)))) dX2_addLine_45 (nI_add _ _) ?_
  refine tr_iload_n (pc := 46) 2 dX2_addLine_46 rfl rfl ?_
  refine tr_iload_n (pc := 47) 3 dX2_addLine_47 rfl rfl ?_
  refine tr_iconst (pc := 48) (v := nI 3) dX2_addLine_48 (by decide) ?_
  refine tr_ishl (pc := 49) (v := (nI l.2.1) <<< (nI 3 &&& 31)) dX2_addLine_49 rfl ?_
  refine tr_ior (pc := 50) (v := (nI l.1) ||| ((nI l.2.1) <<< (nI 3 &&& 31))) dX2_addLine_50 rfl ?_
  refine tr_iload_n (pc := 51) 4 dX2_addLine_51 rfl rfl ?_
  refine tr_iconst (pc := 52) (v := nI 5) dX2_addLine_52 (by decide) ?_
  refine tr_ishl (pc := 53) (v := (nI l.2.2.1) <<< (nI 5 &&& 31)) dX2_addLine_53 rfl ?_
  refine tr_ior (pc := 54) (v := ((nI l.1) ||| ((nI l.2.1) <<< (nI 3 &&& 31))) ||| ((nI l.2.2.1) <<< (nI 5 &&& 31))) dX2_addLine_54 rfl ?_
  refine tr_iload (pc := 55) 5 dX2_addLine_55 rfl ?_
  refine tr_bipush (pc := 57) (v := nI 7) dX2_addLine_57 (by decide) ?_
  refine tr_ishl (pc := 59) (v := (nI l.2.2.2) <<< (nI 7 &&& 31)) dX2_addLine_59 rfl ?_
  refine tr_ior (pc := 60) (v := nI (enc l)) dX2_addLine_60 (enc_make hl) ?_
  refine tr_iast (pc := 61) ((P.length - 1) * 8 + (lnN P (P.length - 1))) dX2_addLine_61 (hS.1 8 (0, 32) rfl) rfl (by omega) (by decide) ?_
  refine tr_aload_n (pc := 62) 1 dX2_addLine_62 rfl rfl ?_
  refine tr_getR (pc := 63) (q := 7) dX2_addLine_63 (hS.1 6 (5, 3) rfl) fi_X2_9 rfl (hS.2 6 1 7 rfl) ?_
  refine tr_iload (pc := 66) 0 dX2_addLine_66 rfl ?_
  refine tr_dup2 (pc := 68) dX2_addLine_68 rfl rfl ?_
  refine tr_iald (pc := 69) (v := nI (lnN P (P.length - 1))) (P.length - 1) dX2_addLine_69 (hS.1 7 (0, 4) rfl) rfl (by omega) (by decide) (hM.2.1 _ hm) ?_
  refine tr_iconst (pc := 70) (v := nI 1) dX2_addLine_70 (by decide) ?_
  refine tr_iadd (pc := 71) (v := nI (lnN P (P.length - 1) + 1)) dX2_addLine_71 (nI_add _ _) ?_
  refine tr_iast (pc := 72) (P.length - 1) dX2_addLine_72 (hS.1 7 (0, 4) rfl) rfl (by omega) (by decide) ?_
  exact tr_vret (pc := 73) dX2_addLine_73 rfl (⟨rfl, rfl, mp_add hM hP hV, (Fr.rf.hs (by decide)).hs (by decide)⟩)

set_option maxHeartbeats 4000000 in
set_option maxRecDepth 100000 in
theorem c_removeLine {a : Am} {S : St} {h : Hp} (hS : IsSt S) {P : Prog} (hM : MP h 3 P) (hV : VB P) {m i : Nat} (hi : i < lnN P m) : CT a 3 mX2_removeLine [rv a 3, .int (nI m), .int (nI i)] S h (fun v S' h' => v = none ∧ S = S' ∧ MP h' 3 (dropL P m i) ∧ Fr [4, 5] h h') := by
  obtain ⟨hV1, hV2, hV3⟩ := id hV
  have hm8 := hV2 m
  have hO : MO S 3 := ⟨hS.1 3 _ rfl, hS.1 4 _ rfl, hS.1 5 _ rfl, hS.2 3 1 4 rfl, hS.2 3 2 5 rfl⟩
  have hm := lnN_lt hi
  refine met_of (by decide +kernel) (Nat.le_of_ble_eq_true rfl) ?_
  show T a 3 mX2_removeLine 0 [(0, rv a 3), (1, .int (nI m)), (2, .int (nI i))] [] S h _
  refine tr_aload_n (pc := 0) 0 dX2_removeLine_0 rfl rfl ?_
  refine tr_iload_n (pc := 1) 1 dX2_removeLine_1 rfl rfl ?_
  refine tr_iload_n (pc := 2) 2 dX2_removeLine_2 rfl rfl ?_
  refine tr_callV (pc := 3) (rest := []) (ci := 2) dX2_removeLine_3 ml_X2_39 cv_X2_hasLine rfl rfl (Nat.le_of_ble_eq_true rfl) (hS.1 3 (5, 3) rfl) rfl (by omega) (c_hasLine_in hO hM hV hi) ?_
  rintro _ _ _ ⟨rfl, rfl, rfl⟩
  show T a 3 mX2_removeLine 6 [(0, rv a 3), (1, .int (nI m)), (2, .int (nI i))] [.int (nI 1)] S h _
  refine tr_if_eq (pc := 6) (tgt := 51) dX2_removeLine_6 (by decide) (nI_z_eq (by omega)) (fun hcc => absurd hcc (by decide)) (fun _ => ?_)
  refine tr_iload_n (pc := 9) 1 dX2_removeLine_9 rfl rfl ?_
  refine tr_bipush (pc := 10) (v := nI 8) dX2_removeLine_10 (by decide) ?_
  refine tr_imul (pc := 12) (v := nI (m * 8)) dX2_removeLine_12 (pk_mul _ _) ?_
  refine tr_iload_n (pc := 13) 2 dX2_removeLine_13 rfl rfl ?_
  refine tr_iadd (pc := 14) (v := nI (m * 8 + i)) dX2_removeLine_14 (nI_add _ _) ?_
  refine tr_istore_n (pc := 15) (lv' := [(3, .int (nI (m * 8 + i))), (0, rv a 3), (1, .int (nI m)), (2, .int (nI i))]) dX2_removeLine_15 rfl (by decide) rfl ?_
  refine tr_aload_n (pc := 16) 1 dX2_removeLine_16 rfl rfl ?_
  refine tr_getR (pc := 17) (q := 5) dX2_removeLine_17 (hS.1 3 (5, 3) rfl) fi_X2_15 rfl (hS.2 3 2 5 rfl) ?_
  refine tr_iload_n (pc := 20) 0 dX2_removeLine_20 rfl rfl ?_
  refine tr_iconst (pc := 21) (v := nI 1) dX2_removeLine_21 (by decide) ?_
  refine tr_iadd (pc := 22) (v := nI (m * 8 + i + 1)) dX2_removeLine_22 (nI_add _ _) ?_
  refine tr_aload_n (pc := 23) 1 dX2_removeLine_23 rfl rfl ?_
  refine tr_getR (pc := 24) (q := 5) dX2_removeLine_24 (hS.1 3 (5, 3) rfl) fi_X2_15 rfl (hS.2 3 2 5 rfl) ?_
  refine tr_iload_n (pc := 27) 0 dX2_removeLine_27 rfl rfl ?_
  refine tr_aload_n (pc := 28) 1 dX2_removeLine_28 rfl rfl ?_
  refine tr_getR (pc := 29) (q := 4) dX2_removeLine_29 (hS.1 3 (5, 3) rfl) fi_X2_9 rfl (hS.2 3 1 4 rfl) ?_
  refine tr_iload_n (pc := 32) 2 dX2_removeLine_32 rfl rfl ?_
  refine tr_iald (pc := 33) (v := nI (lnN P m)) m dX2_removeLine_33 (hS.1 4 (0, 4) rfl) rfl (by omega) (by decide) (hM.2.1 m hm) ?_
  refine tr_iconst (pc := 34) (v := nI 1) dX2_removeLine_34 (by decide) ?_
  refine tr_isub (pc := 35) (v := nI ((lnN P m) - 1)) dX2_removeLine_35 (pk_sub (by omega)) ?_
  refine tr_iload_n (pc := 36) 3 dX2_removeLine_36 rfl rfl ?_
  refine tr_isub (pc := 37) (v := nI (((lnN P m) - 1) - i)) dX2_removeLine_37 (pk_sub (by omega)) ?_
  refine tr_acopy (pc := 38) (m * 8 + i + 1) (m * 8 + i) (((lnN P m) - 1) - i) dX2_removeLine_38 ml_X2_43 (Nat.le_of_ble_eq_true rfl) (by omega) (hS.1 5 (0, 32) rfl) (hS.1 5 (0, 32) rfl) rfl rfl rfl (by omega) (by omega) (by decide) (by decide) ?_
  refine tr_aload_n (pc := 41) 1 dX2_removeLine_41 rfl rfl ?_
  refine tr_getR (pc := 42) (q := 4) dX2_removeLine_42 (hS.1 3 (5, 3) rfl) fi_X2_9 rfl (hS.2 3 1 4 rfl) ?_
  refine tr_iload_n (pc := 45) 2 dX2_removeLine_45 rfl rfl ?_
  refine tr_dup2 (pc := 46) dX2_removeLine_46 rfl rfl ?_
  refine tr_iald (pc := 47) (v := nI (lnN P m)) m dX2_removeLine_47 (hS.1 4 (0, 4) rfl) rfl (by omega) (by decide) (hM.2.1 m hm) ?_
  refine tr_iconst (pc := 48) (v := nI 1) dX2_removeLine_48 (by decide) ?_
  refine tr_isub (pc := 49) (v := nI ((lnN P m) - 1)) dX2_removeLine_49 (pk_sub (by omega)) ?_
  refine tr_iast (pc := 50) m dX2_removeLine_50 (hS.1 4 (0, 4) rfl) rfl (by omega) (by decide) ?_
  exact tr_vret (pc := 51) dX2_removeLine_51 rfl (⟨rfl, rfl, mp_drop hM hV hi, (Fr.rf.hs (by decide)).hs (by decide)⟩)

set_option maxHeartbeats 4000000 in
set_option maxRecDepth 100000 in
theorem c_swap {a : Am} {S : St} {h : Hp} (hS : IsSt S) {P : Prog} (hM : MP h 3 P) (hV : VB P) {m i : Nat} (hi : i + 1 < lnN P m) : CT a 3 mX2_swapWithNext [rv a 3, .int (nI m), .int (nI i)] S h (fun v S' h' => v = none ∧ S = S' ∧ MP h' 3 (swapL P m i) ∧ Fr [4, 5] h h') := by
  obtain ⟨hV1, hV2, hV3⟩ := id hV
  have hm8 := hV2 m
  have hO : MO S 3 := ⟨hS.1 3 _ rfl, hS.1 4 _ rfl, hS.1 5 _ rfl, hS.2 3 1 4 rfl, hS.2 3 2 5 rfl⟩
  have hm := lnN_lt hi
  refine met_of (by decide +kernel) (Nat.le_of_ble_eq_true rfl) ?_
  show T a 3 mX2_swapWithNext 0 [(0, rv a 3), (1, .int (nI m)), (2, .int (nI i))] [] S h _
  refine tr_aload_n (pc := 0) 0 dX2_swapWithNext_0 rfl rfl ?_
  refine tr_iload_n (pc := 1) 1 dX2_swapWithNext_1 rfl rfl ?_
  refine tr_iload_n (pc := 2) 2 dX2_swapWithNext_2 rfl rfl ?_
  refine tr_callV (pc := 3) (rest := []) (ci := 2) dX2_swapWithNext_3 ml_X2_39 cv_X2_hasLine rfl rfl (Nat.le_of_ble_eq_true rfl) (hS.1 3 (5, 3) rfl) rfl (by omega) (c_hasLine_in hO hM hV (show i < lnN P m by omega)) ?_
  rintro _ _ _ ⟨rfl, rfl, rfl⟩
  show T a 3 mX2_swapWithNext 6 [(0, rv a 3), (1, .int (nI m)), (2, .int (nI i))] [.int (nI 1)] S h _
  refine tr_if_eq (pc := 6) (tgt := 59) dX2_swapWithNext_6 (by decide) (nI_z_eq (by omega)) (fun hcc => absurd hcc (by decide)) (fun _ => ?_)
  refine tr_aload_n (pc := 9) 0 dX2_swapWithNext_9 rfl rfl ?_
  refine tr_iload_n (pc := 10) 1 dX2_swapWithNext_10 rfl rfl ?_
  refine tr_iload_n (pc := 11) 2 dX2_swapWithNext_11 rfl rfl ?_
  refine tr_iconst (pc := 12) (v := nI 1) dX2_swapWithNext_12 (by decide) ?_
  refine tr_iadd (pc := 13) (v := nI (i + 1)) dX2_swapWithNext_13 (nI_add _ _) ?_
  refine tr_callV (pc := 14) (rest := []) (ci := 2) dX2_swapWithNext_14 ml_X2_39 cv_X2_hasLine rfl rfl (Nat.le_of_ble_eq_true rfl) (hS.1 3 (5, 3) rfl) rfl (by omega) (c_hasLine_in hO hM hV hi) ?_
  rintro _ _ _ ⟨rfl, rfl, rfl⟩
  show T a 3 mX2_swapWithNext 17 [(0, rv a 3), (1, .int (nI m)), (2, .int (nI i))] [.int (nI 1)] S h _
  refine tr_if_eq (pc := 17) (tgt := 59) dX2_swapWithNext_17 (by decide) (nI_z_eq (by omega)) (fun hcc => absurd hcc (by decide)) (fun _ => ?_)
  refine tr_iload_n (pc := 20) 1 dX2_swapWithNext_20 rfl rfl ?_
  refine tr_bipush (pc := 21) (v := nI 8) dX2_swapWithNext_21 (by decide) ?_
  refine tr_imul (pc := 23) (v := nI (m * 8)) dX2_swapWithNext_23 (pk_mul _ _) ?_
  refine tr_iload_n (pc := 24) 2 dX2_swapWithNext_24 rfl rfl ?_
  refine tr_iadd (pc := 25) (v := nI (m * 8 + i)) dX2_swapWithNext_25 (nI_add _ _) ?_
  refine tr_istore_n (pc := 26) (lv' := [(3, .int (nI (m * 8 + i))), (0, rv a 3), (1, .int (nI m)), (2, .int (nI i))]) dX2_swapWithNext_26 rfl (by decide) rfl ?_
  refine tr_aload_n (pc := 27) 1 dX2_swapWithNext_27 rfl rfl ?_
  refine tr_getR (pc := 28) (q := 5) dX2_swapWithNext_28 (hS.1 3 (5, 3) rfl) fi_X2_15 rfl (hS.2 3 2 5 rfl) ?_
  refine tr_iload_n (pc := 31) 0 dX2_swapWithNext_31 rfl rfl ?_
  refine tr_iald (pc := 32) (v := nI (enc (gt P m i))) (m * 8 + i) dX2_swapWithNext_32 (hS.1 5 (0, 32) rfl) rfl (by omega) (by decide) (hM.2.2 m i hm (by omega)) ?_
  refine tr_istore (pc := 33) (lv' := [(4, .int (nI (enc (gt P m i)))), (3, .int (nI (m * 8 + i))), (0, rv a 3), (1, .int (nI m)), (2, .int (nI i))]) dX2_swapWithNext_33 (by decide) rfl ?_
  refine tr_aload_n (pc := 35) 2 dX2_swapWithNext_35 rfl rfl ?_
  refine tr_getR (pc := 36) (q := 5) dX2_swapWithNext_36 (hS.1 3 (5, 3) rfl) fi_X2_15 rfl (hS.2 3 2 5 rfl) ?_
  refine tr_iload_n (pc := 39) 1 dX2_swapWithNext_39 rfl rfl ?_
  refine tr_aload_n (pc := 40) 2 dX2_swapWithNext_40 rfl rfl ?_
  refine tr_getR (pc := 41) (q := 5) dX2_swapWithNext_41 (hS.1 3 (5, 3) rfl) fi_X2_15 rfl (hS.2 3 2 5 rfl) ?_
  refine tr_iload_n (pc := 44) 1 dX2_swapWithNext_44 rfl rfl ?_
  refine tr_iconst (pc := 45) (v := nI 1) dX2_swapWithNext_45 (by decide) ?_
  refine tr_iadd (pc := 46) (v := nI (m * 8 + i + 1)) dX2_swapWithNext_46 (nI_add _ _) ?_
  refine tr_iald (pc := 47) (v := nI (enc (gt P m (i + 1)))) (m * 8 + i + 1) dX2_swapWithNext_47 (hS.1 5 (0, 32) rfl) rfl (by omega) (by decide) (hM.2.2 m (i + 1) hm hi) ?_
  refine tr_iast (pc := 48) (m * 8 + i) dX2_swapWithNext_48 (hS.1 5 (0, 32) rfl) rfl (by omega) (by decide) ?_
  refine tr_aload_n (pc := 49) 2 dX2_swapWithNext_49 rfl rfl ?_
  refine tr_getR (pc := 50) (q := 5) dX2_swapWithNext_50 (hS.1 3 (5, 3) rfl) fi_X2_15 rfl (hS.2 3 2 5 rfl) ?_
  refine tr_iload_n (pc := 53) 1 dX2_swapWithNext_53 rfl rfl ?_
  refine tr_iconst (pc := 54) (v := nI 1) dX2_swapWithNext_54 (by decide) ?_
  refine tr_iadd (pc := 55) (v := nI (m * 8 + i + 1)) dX2_swapWithNext_55 (nI_add _ _) ?_
  refine tr_iload (pc := 56) 0 dX2_swapWithNext_56 rfl ?_
  refine tr_iast (pc := 58) (m * 8 + i + 1) dX2_swapWithNext_58 (hS.1 5 (0, 32) rfl) rfl (by omega) (by decide) ?_
  exact tr_vret (pc := 59) dX2_swapWithNext_59 rfl (⟨rfl, rfl, mp_swap hM hV hi, (Fr.rf.hs (by decide)).hs (by decide)⟩)
