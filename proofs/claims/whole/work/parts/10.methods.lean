set_option maxHeartbeats 4000000 in
set_option maxRecDepth 100000 in
theorem c_isOut_in {a : Am} {S : St} {h : Hp} {j n : Nat} (hj : j < n) (hn : n < 2 ^ 31) : CT a 0 mX9_isOutside [.int (nI j), .int (nI n)] S h (Rt (nI 0) S h) := by
  refine met_of (by decide +kernel) (Nat.le_of_ble_eq_true rfl) ?_
  show T a 0 mX9_isOutside 0 [(0, .int (nI j)), (1, .int (nI n))] [] S h _
  refine tr_iload_n (pc := 0) 0 dX9_isOutside_0 rfl rfl ?_
  refine tr_if_lt (pc := 1) (tgt := 9) dX9_isOutside_1 (by decide) (nI_z_lt (by omega)) (fun hcc => absurd hcc (by decide)) (fun _ => ?_)
  refine tr_iload_n (pc := 4) 0 dX9_isOutside_4 rfl rfl ?_
  refine tr_iload_n (pc := 5) 1 dX9_isOutside_5 rfl rfl ?_
  refine tr_icmp_lt (pc := 6) (tgt := 13) dX9_isOutside_6 (by decide) (nI_ltI (by omega) (by omega)) (fun _ => ?_) (fun hcc => absurd (by omega) hcc)
  refine tr_iconst (pc := 13) (v := nI 0) dX9_isOutside_13 (by decide) ?_
  exact tr_iret (pc := 14) dX9_isOutside_14 rfl (by decide) (⟨rfl, rfl, rfl⟩)

set_option maxHeartbeats 4000000 in
set_option maxRecDepth 100000 in
theorem c_isOut_out {a : Am} {S : St} {h : Hp} {x y : Int32} (hx : x < 0 ∨ y ≤ x) : CT a 0 mX9_isOutside [.int x, .int y] S h (Rt (nI 1) S h) := by
  refine met_of (by decide +kernel) (Nat.le_of_ble_eq_true rfl) ?_
  show T a 0 mX9_isOutside 0 [(0, .int x), (1, .int y)] [] S h _
  refine tr_iload_n (pc := 0) 0 dX9_isOutside_0 rfl rfl ?_
  refine tr_if_lt (pc := 1) (tgt := 9) dX9_isOutside_1 (by decide) Iff.rfl (fun q1 => ?_) (fun q1 => ?_)
  · skip
    refine tr_iconst (pc := 9) (v := nI 1) dX9_isOutside_9 (by decide) ?_
    refine tr_goto (pc := 10) (tgt := 14) dX9_isOutside_10 (by decide) ?_
    exact tr_iret (pc := 14) dX9_isOutside_14 rfl (by decide) (⟨rfl, rfl, rfl⟩)
  · skip
    refine tr_iload_n (pc := 4) 0 dX9_isOutside_4 rfl rfl ?_
    refine tr_iload_n (pc := 5) 1 dX9_isOutside_5 rfl rfl ?_
    refine tr_icmp_lt (pc := 6) (tgt := 13) dX9_isOutside_6 (by decide) Iff.rfl (fun hcc => absurd hcc (Int32.not_lt.mpr (hx.resolve_left q1))) (fun _ => ?_)
    refine tr_iconst (pc := 9) (v := nI 1) dX9_isOutside_9 (by decide) ?_
    refine tr_goto (pc := 10) (tgt := 14) dX9_isOutside_10 (by decide) ?_
    exact tr_iret (pc := 14) dX9_isOutside_14 rfl (by decide) (⟨rfl, rfl, rfl⟩)

set_option maxHeartbeats 4000000 in
set_option maxRecDepth 100000 in
theorem c_count {a : Am} {S : St} {h : Hp} {o : Nat} {P : Prog} (hO : MO S o) (hM : MP h o P) (hV : VB P) : CT a 0 mX2_count [rv a o] S h (Rt (nI P.length) S h) := by
  obtain ⟨hV1, hV2, hV3⟩ := id hV
  refine met_of (by decide +kernel) (Nat.le_of_ble_eq_true rfl) ?_
  show T a 0 mX2_count 0 [(0, rv a o)] [] S h _
  refine tr_aload_n (pc := 0) 0 dX2_count_0 rfl rfl ?_
  refine tr_getI (pc := 1) (x := nI P.length) dX2_count_1 hO.1 fi_X2_18 rfl hM.1 ?_
  exact tr_iret (pc := 4) dX2_count_4 rfl rfl (⟨rfl, rfl, rfl⟩)

set_option maxHeartbeats 4000000 in
set_option maxRecDepth 100000 in
theorem c_has_in {a : Am} {S : St} {h : Hp} {o : Nat} {P : Prog} (hO : MO S o) (hM : MP h o P) (hV : VB P) {m : Nat} (hm : m < P.length) : CT a 0 mX2_has [rv a o, .int (nI m)] S h (Rt (nI 1) S h) := by
  obtain ⟨hV1, hV2, hV3⟩ := id hV
  refine met_of (by decide +kernel) (Nat.le_of_ble_eq_true rfl) ?_
  show T a 0 mX2_has 0 [(0, rv a o), (1, .int (nI m))] [] S h _
  refine tr_iload_n (pc := 0) 1 dX2_has_0 rfl rfl ?_
  refine tr_if_lt (pc := 1) (tgt := 16) dX2_has_1 (by decide) (nI_z_lt (by omega)) (fun hcc => absurd hcc (by decide)) (fun _ => ?_)
  refine tr_iload_n (pc := 4) 1 dX2_has_4 rfl rfl ?_
  refine tr_aload_n (pc := 5) 0 dX2_has_5 rfl rfl ?_
  refine tr_getI (pc := 6) (x := nI P.length) dX2_has_6 hO.1 fi_X2_18 rfl hM.1 ?_
  refine tr_icmp_ge (pc := 9) (tgt := 16) dX2_has_9 (by decide) (nI_leI (by omega) (by omega)) (fun hcc => absurd hcc (by omega)) (fun _ => ?_)
  refine tr_iconst (pc := 12) (v := nI 1) dX2_has_12 (by decide) ?_
  refine tr_goto (pc := 13) (tgt := 17) dX2_has_13 (by decide) ?_
  exact tr_iret (pc := 17) dX2_has_17 rfl (by decide) (⟨rfl, rfl, rfl⟩)

set_option maxHeartbeats 4000000 in
set_option maxRecDepth 100000 in
theorem c_has_out {a : Am} {S : St} {h : Hp} {o : Nat} {P : Prog} (hO : MO S o) (hM : MP h o P) (hV : VB P) {x : Int32} (hx : outN x P.length) : CT a 0 mX2_has [rv a o, .int x] S h (Rt (nI 0) S h) := by
  obtain ⟨hV1, hV2, hV3⟩ := id hV
  refine met_of (by decide +kernel) (Nat.le_of_ble_eq_true rfl) ?_
  show T a 0 mX2_has 0 [(0, rv a o), (1, .int x)] [] S h _
  refine tr_iload_n (pc := 0) 1 dX2_has_0 rfl rfl ?_
  refine tr_if_lt (pc := 1) (tgt := 16) dX2_has_1 (by decide) Iff.rfl (fun q1 => ?_) (fun q1 => ?_)
  · skip
    refine tr_iconst (pc := 16) (v := nI 0) dX2_has_16 (by decide) ?_
    exact tr_iret (pc := 17) dX2_has_17 rfl (by decide) (⟨rfl, rfl, rfl⟩)
  · skip
    refine tr_iload_n (pc := 4) 1 dX2_has_4 rfl rfl ?_
    refine tr_aload_n (pc := 5) 0 dX2_has_5 rfl rfl ?_
    refine tr_getI (pc := 6) (x := nI P.length) dX2_has_6 hO.1 fi_X2_18 rfl hM.1 ?_
    refine tr_icmp_ge (pc := 9) (tgt := 16) dX2_has_9 (by decide) Iff.rfl (fun _ => ?_) (fun hcc => absurd (hx.resolve_left q1) hcc)
    refine tr_iconst (pc := 16) (v := nI 0) dX2_has_16 (by decide) ?_
    exact tr_iret (pc := 17) dX2_has_17 rfl (by decide) (⟨rfl, rfl, rfl⟩)

set_option maxHeartbeats 4000000 in
set_option maxRecDepth 100000 in
theorem c_lines_in {a : Am} {S : St} {h : Hp} {o : Nat} {P : Prog} (hO : MO S o) (hM : MP h o P) (hV : VB P) {m : Nat} (hm : m < P.length) : CT a 1 mX2_lines [rv a o, .int (nI m)] S h (Rt (nI (lnN P m)) S h) := by
  obtain ⟨hV1, hV2, hV3⟩ := id hV
  refine met_of (by decide +kernel) (Nat.le_of_ble_eq_true rfl) ?_
  show T a 1 mX2_lines 0 [(0, rv a o), (1, .int (nI m))] [] S h _
  refine tr_aload_n (pc := 0) 0 dX2_lines_0 rfl rfl ?_
  refine tr_iload_n (pc := 1) 1 dX2_lines_1 rfl rfl ?_
  refine tr_callV (pc := 2) (rest := []) (ci := 2) dX2_lines_2 ml_X2_22 cv_X2_has rfl rfl (Nat.le_of_ble_eq_true rfl) hO.1 rfl (by omega) (c_has_in hO hM hV hm) ?_
  rintro _ _ _ ⟨rfl, rfl, rfl⟩
  show T a 1 mX2_lines 5 [(0, rv a o), (1, .int (nI m))] [.int (nI 1)] S h _
  refine tr_if_eq (pc := 5) (tgt := 17) dX2_lines_5 (by decide) (nI_z_eq (by omega)) (fun hcc => absurd hcc (by decide)) (fun _ => ?_)
  refine tr_aload_n (pc := 8) 0 dX2_lines_8 rfl rfl ?_
  refine tr_getR (pc := 9) (q := o + 1) dX2_lines_9 hO.1 fi_X2_9 rfl hO.2.2.2.1 ?_
  refine tr_iload_n (pc := 12) 1 dX2_lines_12 rfl rfl ?_
  refine tr_iald (pc := 13) (v := nI (lnN P m)) m dX2_lines_13 hO.2.1 rfl (by omega) (by decide) (hM.2.1 m hm) ?_
  refine tr_goto (pc := 14) (tgt := 18) dX2_lines_14 (by decide) ?_
  exact tr_iret (pc := 18) dX2_lines_18 rfl rfl (⟨rfl, rfl, rfl⟩)

set_option maxHeartbeats 4000000 in
set_option maxRecDepth 100000 in
theorem c_lines_out {a : Am} {S : St} {h : Hp} {o : Nat} {P : Prog} (hO : MO S o) (hM : MP h o P) (hV : VB P) {x : Int32} (hx : outN x P.length) : CT a 1 mX2_lines [rv a o, .int x] S h (Rt (nI 0) S h) := by
  obtain ⟨hV1, hV2, hV3⟩ := id hV
  refine met_of (by decide +kernel) (Nat.le_of_ble_eq_true rfl) ?_
  show T a 1 mX2_lines 0 [(0, rv a o), (1, .int x)] [] S h _
  refine tr_aload_n (pc := 0) 0 dX2_lines_0 rfl rfl ?_
  refine tr_iload_n (pc := 1) 1 dX2_lines_1 rfl rfl ?_
  refine tr_callV (pc := 2) (rest := []) (ci := 2) dX2_lines_2 ml_X2_22 cv_X2_has rfl rfl (Nat.le_of_ble_eq_true rfl) hO.1 rfl (by omega) (c_has_out hO hM hV hx) ?_
  rintro _ _ _ ⟨rfl, rfl, rfl⟩
  show T a 1 mX2_lines 5 [(0, rv a o), (1, .int x)] [.int (nI 0)] S h _
  refine tr_if_eq (pc := 5) (tgt := 17) dX2_lines_5 (by decide) (nI_z_eq (by omega)) (fun _ => ?_) (fun hcc => absurd (by decide) hcc)
  refine tr_iconst (pc := 17) (v := nI 0) dX2_lines_17 (by decide) ?_
  exact tr_iret (pc := 18) dX2_lines_18 rfl rfl (⟨rfl, rfl, rfl⟩)

set_option maxHeartbeats 4000000 in
set_option maxRecDepth 100000 in
theorem c_hasLine_in {a : Am} {S : St} {h : Hp} {o : Nat} {P : Prog} (hO : MO S o) (hM : MP h o P) (hV : VB P) {m j : Nat} (hj : j < lnN P m) : CT a 2 mX2_hasLine [rv a o, .int (nI m), .int (nI j)] S h (Rt (nI 1) S h) := by
  obtain ⟨hV1, hV2, hV3⟩ := id hV
  have hm8 := hV2 m
  refine met_of (by decide +kernel) (Nat.le_of_ble_eq_true rfl) ?_
  show T a 2 mX2_hasLine 0 [(0, rv a o), (1, .int (nI m)), (2, .int (nI j))] [] S h _
  refine tr_iload_n (pc := 0) 2 dX2_hasLine_0 rfl rfl ?_
  refine tr_if_lt (pc := 1) (tgt := 17) dX2_hasLine_1 (by decide) (nI_z_lt (by omega)) (fun hcc => absurd hcc (by decide)) (fun _ => ?_)
  refine tr_iload_n (pc := 4) 2 dX2_hasLine_4 rfl rfl ?_
  refine tr_aload_n (pc := 5) 0 dX2_hasLine_5 rfl rfl ?_
  refine tr_iload_n (pc := 6) 1 dX2_hasLine_6 rfl rfl ?_
  refine tr_callV (pc := 7) (rest := [.int (nI j)]) (ci := 2) dX2_hasLine_7 ml_X2_26 cv_X2_lines rfl rfl (Nat.le_of_ble_eq_true rfl) hO.1 rfl (by omega) (c_lines_in hO hM hV (lnN_lt hj)) ?_
  rintro _ _ _ ⟨rfl, rfl, rfl⟩
  show T a 2 mX2_hasLine 10 [(0, rv a o), (1, .int (nI m)), (2, .int (nI j))] [.int (nI (lnN P m)), .int (nI j)] S h _
  refine tr_icmp_ge (pc := 10) (tgt := 17) dX2_hasLine_10 (by decide) (nI_leI (by omega) (by omega)) (fun hcc => absurd hcc (by omega)) (fun _ => ?_)
  refine tr_iconst (pc := 13) (v := nI 1) dX2_hasLine_13 (by decide) ?_
  refine tr_goto (pc := 14) (tgt := 18) dX2_hasLine_14 (by decide) ?_
  exact tr_iret (pc := 18) dX2_hasLine_18 rfl (by decide) (⟨rfl, rfl, rfl⟩)

set_option maxHeartbeats 4000000 in
set_option maxRecDepth 100000 in
theorem c_hasLine_o1 {a : Am} {S : St} {h : Hp} {o : Nat} {P : Prog} (hO : MO S o) (hM : MP h o P) (hV : VB P) {x : Int32} {y : Int32} (hx : outN x P.length) : CT a 2 mX2_hasLine [rv a o, .int x, .int y] S h (Rt (nI 0) S h) := by
  obtain ⟨hV1, hV2, hV3⟩ := id hV
  refine met_of (by decide +kernel) (Nat.le_of_ble_eq_true rfl) ?_
  show T a 2 mX2_hasLine 0 [(0, rv a o), (1, .int x), (2, .int y)] [] S h _
  refine tr_iload_n (pc := 0) 2 dX2_hasLine_0 rfl rfl ?_
  refine tr_if_lt (pc := 1) (tgt := 17) dX2_hasLine_1 (by decide) Iff.rfl (fun q1 => ?_) (fun q1 => ?_)
  · skip
    refine tr_iconst (pc := 17) (v := nI 0) dX2_hasLine_17 (by decide) ?_
    exact tr_iret (pc := 18) dX2_hasLine_18 rfl (by decide) (⟨rfl, rfl, rfl⟩)
  · skip
    refine tr_iload_n (pc := 4) 2 dX2_hasLine_4 rfl rfl ?_
    refine tr_aload_n (pc := 5) 0 dX2_hasLine_5 rfl rfl ?_
    refine tr_iload_n (pc := 6) 1 dX2_hasLine_6 rfl rfl ?_
    refine tr_callV (pc := 7) (rest := [.int y]) (ci := 2) dX2_hasLine_7 ml_X2_26 cv_X2_lines rfl rfl (Nat.le_of_ble_eq_true rfl) hO.1 rfl (by omega) (c_lines_out hO hM hV hx) ?_
    rintro _ _ _ ⟨rfl, rfl, rfl⟩
    show T a 2 mX2_hasLine 10 [(0, rv a o), (1, .int x), (2, .int y)] [.int (nI 0), .int y] S h _
    refine tr_icmp_ge (pc := 10) (tgt := 17) dX2_hasLine_10 (by decide) Iff.rfl (fun _ => ?_) (fun hcc => absurd (by rw [nI_0]; exact Int32.not_lt.mp q1) hcc)
    refine tr_iconst (pc := 17) (v := nI 0) dX2_hasLine_17 (by decide) ?_
    exact tr_iret (pc := 18) dX2_hasLine_18 rfl (by decide) (⟨rfl, rfl, rfl⟩)

set_option maxHeartbeats 4000000 in
set_option maxRecDepth 100000 in
theorem c_hasLine_o2 {a : Am} {S : St} {h : Hp} {o : Nat} {P : Prog} (hO : MO S o) (hM : MP h o P) (hV : VB P) {m : Nat} {y : Int32} (hm : m < P.length) (hy : outN y (lnN P m)) : CT a 2 mX2_hasLine [rv a o, .int (nI m), .int y] S h (Rt (nI 0) S h) := by
  obtain ⟨hV1, hV2, hV3⟩ := id hV
  refine met_of (by decide +kernel) (Nat.le_of_ble_eq_true rfl) ?_
  show T a 2 mX2_hasLine 0 [(0, rv a o), (1, .int (nI m)), (2, .int y)] [] S h _
  refine tr_iload_n (pc := 0) 2 dX2_hasLine_0 rfl rfl ?_
  refine tr_if_lt (pc := 1) (tgt := 17) dX2_hasLine_1 (by decide) Iff.rfl (fun q1 => ?_) (fun q1 => ?_)
  · skip
    refine tr_iconst (pc := 17) (v := nI 0) dX2_hasLine_17 (by decide) ?_
    exact tr_iret (pc := 18) dX2_hasLine_18 rfl (by decide) (⟨rfl, rfl, rfl⟩)
  · skip
    refine tr_iload_n (pc := 4) 2 dX2_hasLine_4 rfl rfl ?_
    refine tr_aload_n (pc := 5) 0 dX2_hasLine_5 rfl rfl ?_
    refine tr_iload_n (pc := 6) 1 dX2_hasLine_6 rfl rfl ?_
    refine tr_callV (pc := 7) (rest := [.int y]) (ci := 2) dX2_hasLine_7 ml_X2_26 cv_X2_lines rfl rfl (Nat.le_of_ble_eq_true rfl) hO.1 rfl (by omega) (c_lines_in hO hM hV hm) ?_
    rintro _ _ _ ⟨rfl, rfl, rfl⟩
    show T a 2 mX2_hasLine 10 [(0, rv a o), (1, .int (nI m)), (2, .int y)] [.int (nI (lnN P m)), .int y] S h _
    refine tr_icmp_ge (pc := 10) (tgt := 17) dX2_hasLine_10 (by decide) Iff.rfl (fun _ => ?_) (fun hcc => absurd (hy.resolve_left q1) hcc)
    refine tr_iconst (pc := 17) (v := nI 0) dX2_hasLine_17 (by decide) ?_
    exact tr_iret (pc := 18) dX2_hasLine_18 rfl (by decide) (⟨rfl, rfl, rfl⟩)

set_option maxHeartbeats 4000000 in
set_option maxRecDepth 100000 in
theorem c_code {a : Am} {S : St} {h : Hp} {o : Nat} {P : Prog} (hO : MO S o) (hM : MP h o P) (hV : VB P) {m j : Nat} (hj : j < lnN P m) : CT a 0 mX2_code [rv a o, .int (nI m), .int (nI j)] S h (Rt (nI (enc (gt P m j))) S h) := by
  obtain ⟨hV1, hV2, hV3⟩ := id hV
  have hm8 := hV2 m
  have hm := lnN_lt hj
  have hok := hV3 m j hj
  refine met_of (by decide +kernel) (Nat.le_of_ble_eq_true rfl) ?_
  show T a 0 mX2_code 0 [(0, rv a o), (1, .int (nI m)), (2, .int (nI j))] [] S h _
  refine tr_iload_n (pc := 0) 1 dX2_code_0 rfl rfl ?_
  refine tr_if_lt (pc := 1) (tgt := 40) dX2_code_1 (by decide) (nI_z_lt (by omega)) (fun hcc => absurd hcc (by decide)) (fun _ => ?_)
  refine tr_iload_n (pc := 4) 1 dX2_code_4 rfl rfl ?_
  refine tr_aload_n (pc := 5) 0 dX2_code_5 rfl rfl ?_
  refine tr_getI (pc := 6) (x := nI P.length) dX2_code_6 hO.1 fi_X2_18 rfl hM.1 ?_
  refine tr_icmp_ge (pc := 9) (tgt := 40) dX2_code_9 (by decide) (nI_leI (by omega) (by omega)) (fun hcc => absurd hcc (by omega)) (fun _ => ?_)
  refine tr_iload_n (pc := 12) 2 dX2_code_12 rfl rfl ?_
  refine tr_if_lt (pc := 13) (tgt := 40) dX2_code_13 (by decide) (nI_z_lt (by omega)) (fun hcc => absurd hcc (by decide)) (fun _ => ?_)
  refine tr_iload_n (pc := 16) 2 dX2_code_16 rfl rfl ?_
  refine tr_aload_n (pc := 17) 0 dX2_code_17 rfl rfl ?_
  refine tr_getR (pc := 18) (q := o + 1) dX2_code_18 hO.1 fi_X2_9 rfl hO.2.2.2.1 ?_
  refine tr_iload_n (pc := 21) 1 dX2_code_21 rfl rfl ?_
  refine tr_iald (pc := 22) (v := nI (lnN P m)) m dX2_code_22 hO.2.1 rfl (by omega) (by decide) (hM.2.1 m hm) ?_
  refine tr_icmp_ge (pc := 23) (tgt := 40) dX2_code_23 (by decide) (nI_leI (by omega) (by omega)) (fun hcc => absurd hcc (by omega)) (fun _ => ?_)
  refine tr_aload_n (pc := 26) 0 dX2_code_26 rfl rfl ?_
  refine tr_getR (pc := 27) (q := o + 2) dX2_code_27 hO.1 fi_X2_15 rfl hO.2.2.2.2 ?_
  refine tr_iload_n (pc := 30) 1 dX2_code_30 rfl rfl ?_
  refine tr_bipush (pc := 31) (v := nI 8) dX2_code_31 (by decide) ?_
  refine tr_imul (pc := 33) (v := nI (m * 8)) dX2_code_33 (pk_mul _ _) ?_
  refine tr_iload_n (pc := 34) 2 dX2_code_34 rfl rfl ?_
  refine tr_iadd (pc := 35) (v := nI (m * 8 + j)) dX2_code_35 (nI_add _ _) ?_
  refine tr_iald (pc := 36) (v := nI (enc (gt P m j))) (m * 8 + j) dX2_code_36 hO.2.2.1 rfl (by omega) (by decide) (hM.2.2 m j hm hj) ?_
  refine tr_goto (pc := 37) (tgt := 41) dX2_code_37 (by decide) ?_
  exact tr_iret (pc := 41) dX2_code_41 rfl rfl (⟨rfl, rfl, rfl⟩)

set_option maxHeartbeats 4000000 in
set_option maxRecDepth 100000 in
theorem c_sort {a : Am} {S : St} {h : Hp} {o : Nat} {P : Prog} (hO : MO S o) (hM : MP h o P) (hV : VB P) {m j : Nat} (hj : j < lnN P m) : CT a 1 mX2_sort [rv a o, .int (nI m), .int (nI j)] S h (Rt (nI (gt P m j).1) S h) := by
  obtain ⟨hV1, hV2, hV3⟩ := id hV
  have hm8 := hV2 m
  have hm := lnN_lt hj
  have hok := hV3 m j hj
  refine met_of (by decide +kernel) (Nat.le_of_ble_eq_true rfl) ?_
  show T a 1 mX2_sort 0 [(0, rv a o), (1, .int (nI m)), (2, .int (nI j))] [] S h _
  refine tr_aload_n (pc := 0) 0 dX2_sort_0 rfl rfl ?_
  refine tr_iload_n (pc := 1) 1 dX2_sort_1 rfl rfl ?_
  refine tr_iload_n (pc := 2) 2 dX2_sort_2 rfl rfl ?_
  refine tr_callV (pc := 3) (rest := []) (ci := 2) dX2_sort_3 ml_X2_29 cv_X2_code rfl rfl (Nat.le_of_ble_eq_true rfl) hO.1 rfl (by omega) (c_code hO hM hV hj) ?_
  rintro _ _ _ ⟨rfl, rfl, rfl⟩
  show T a 1 mX2_sort 6 [(0, rv a o), (1, .int (nI m)), (2, .int (nI j))] [.int (nI (enc (gt P m j)))] S h _
  refine tr_bipush (pc := 6) (v := nI 7) dX2_sort_6 (by decide) ?_
  refine tr_iand (pc := 8) (v := nI ((gt P m j).1)) dX2_sort_8 (enc_sort hok) ?_
  exact tr_iret (pc := 9) dX2_sort_9 rfl rfl (⟨rfl, rfl, rfl⟩)

set_option maxHeartbeats 4000000 in
set_option maxRecDepth 100000 in
theorem c_name {a : Am} {S : St} {h : Hp} {o : Nat} {P : Prog} (hO : MO S o) (hM : MP h o P) (hV : VB P) {m j : Nat} (hj : j < lnN P m) : CT a 1 mX2_name [rv a o, .int (nI m), .int (nI j)] S h (Rt (nI (gt P m j).2.1) S h) := by
  obtain ⟨hV1, hV2, hV3⟩ := id hV
  have hm8 := hV2 m
  have hm := lnN_lt hj
  have hok := hV3 m j hj
  refine met_of (by decide +kernel) (Nat.le_of_ble_eq_true rfl) ?_
  show T a 1 mX2_name 0 [(0, rv a o), (1, .int (nI m)), (2, .int (nI j))] [] S h _
  refine tr_aload_n (pc := 0) 0 dX2_name_0 rfl rfl ?_
  refine tr_iload_n (pc := 1) 1 dX2_name_1 rfl rfl ?_
  refine tr_iload_n (pc := 2) 2 dX2_name_2 rfl rfl ?_
  refine tr_callV (pc := 3) (rest := []) (ci := 2) dX2_name_3 ml_X2_29 cv_X2_code rfl rfl (Nat.le_of_ble_eq_true rfl) hO.1 rfl (by omega) (c_code hO hM hV hj) ?_
  rintro _ _ _ ⟨rfl, rfl, rfl⟩
  show T a 1 mX2_name 6 [(0, rv a o), (1, .int (nI m)), (2, .int (nI j))] [.int (nI (enc (gt P m j)))] S h _
  refine tr_iconst (pc := 6) (v := nI 3) dX2_name_6 (by decide) ?_
  refine tr_ishr (pc := 7) (v := (nI (enc (gt P m j))) >>> (nI 3 &&& 31)) dX2_name_7 rfl ?_
  refine tr_iconst (pc := 8) (v := nI 3) dX2_name_8 (by decide) ?_
  refine tr_iand (pc := 9) (v := nI ((gt P m j).2.1)) dX2_name_9 (enc_name hok) ?_
  exact tr_iret (pc := 10) dX2_name_10 rfl rfl (⟨rfl, rfl, rfl⟩)

set_option maxHeartbeats 4000000 in
set_option maxRecDepth 100000 in
theorem c_other {a : Am} {S : St} {h : Hp} {o : Nat} {P : Prog} (hO : MO S o) (hM : MP h o P) (hV : VB P) {m j : Nat} (hj : j < lnN P m) : CT a 1 mX2_other [rv a o, .int (nI m), .int (nI j)] S h (Rt (nI (gt P m j).2.2.1) S h) := by
  obtain ⟨hV1, hV2, hV3⟩ := id hV
  have hm8 := hV2 m
  have hm := lnN_lt hj
  have hok := hV3 m j hj
  refine met_of (by decide +kernel) (Nat.le_of_ble_eq_true rfl) ?_
  show T a 1 mX2_other 0 [(0, rv a o), (1, .int (nI m)), (2, .int (nI j))] [] S h _
  refine tr_aload_n (pc := 0) 0 dX2_other_0 rfl rfl ?_
  refine tr_iload_n (pc := 1) 1 dX2_other_1 rfl rfl ?_
  refine tr_iload_n (pc := 2) 2 dX2_other_2 rfl rfl ?_
  refine tr_callV (pc := 3) (rest := []) (ci := 2) dX2_other_3 ml_X2_29 cv_X2_code rfl rfl (Nat.le_of_ble_eq_true rfl) hO.1 rfl (by omega) (c_code hO hM hV hj) ?_
  rintro _ _ _ ⟨rfl, rfl, rfl⟩
  show T a 1 mX2_other 6 [(0, rv a o), (1, .int (nI m)), (2, .int (nI j))] [.int (nI (enc (gt P m j)))] S h _
  refine tr_iconst (pc := 6) (v := nI 5) dX2_other_6 (by decide) ?_
  refine tr_ishr (pc := 7) (v := (nI (enc (gt P m j))) >>> (nI 5 &&& 31)) dX2_other_7 rfl ?_
  refine tr_iconst (pc := 8) (v := nI 3) dX2_other_8 (by decide) ?_
  refine tr_iand (pc := 9) (v := nI ((gt P m j).2.2.1)) dX2_other_9 (enc_other hok) ?_
  exact tr_iret (pc := 10) dX2_other_10 rfl rfl (⟨rfl, rfl, rfl⟩)

set_option maxHeartbeats 4000000 in
set_option maxRecDepth 100000 in
theorem c_callee {a : Am} {S : St} {h : Hp} {o : Nat} {P : Prog} (hO : MO S o) (hM : MP h o P) (hV : VB P) {m j : Nat} (hj : j < lnN P m) : CT a 1 mX2_callee [rv a o, .int (nI m), .int (nI j)] S h (Rt (nI (gt P m j).2.2.2) S h) := by
  obtain ⟨hV1, hV2, hV3⟩ := id hV
  have hm8 := hV2 m
  have hm := lnN_lt hj
  have hok := hV3 m j hj
  refine met_of (by decide +kernel) (Nat.le_of_ble_eq_true rfl) ?_
  show T a 1 mX2_callee 0 [(0, rv a o), (1, .int (nI m)), (2, .int (nI j))] [] S h _
  refine tr_aload_n (pc := 0) 0 dX2_callee_0 rfl rfl ?_
  refine tr_iload_n (pc := 1) 1 dX2_callee_1 rfl rfl ?_
  refine tr_iload_n (pc := 2) 2 dX2_callee_2 rfl rfl ?_
  refine tr_callV (pc := 3) (rest := []) (ci := 2) dX2_callee_3 ml_X2_29 cv_X2_code rfl rfl (Nat.le_of_ble_eq_true rfl) hO.1 rfl (by omega) (c_code hO hM hV hj) ?_
  rintro _ _ _ ⟨rfl, rfl, rfl⟩
  show T a 1 mX2_callee 6 [(0, rv a o), (1, .int (nI m)), (2, .int (nI j))] [.int (nI (enc (gt P m j)))] S h _
  refine tr_bipush (pc := 6) (v := nI 7) dX2_callee_6 (by decide) ?_
  refine tr_ishr (pc := 8) (v := (nI (enc (gt P m j))) >>> (nI 7 &&& 31)) dX2_callee_8 rfl ?_
  refine tr_iconst (pc := 9) (v := nI 3) dX2_callee_9 (by decide) ?_
  refine tr_iand (pc := 10) (v := nI ((gt P m j).2.2.2)) dX2_callee_10 (enc_callee hok) ?_
  exact tr_iret (pc := 11) dX2_callee_11 rfl rfl (⟨rfl, rfl, rfl⟩)

def hasY (s : Nat) : Bool := s == 1 || s == 2 || s == 3 || s == 7
set_option maxHeartbeats 4000000 in
set_option maxRecDepth 100000 in
theorem c_hasOther_y {a : Am} {S : St} {h : Hp} {o : Nat} {P : Prog} (hO : MO S o) (hM : MP h o P) (hV : VB P) {m j : Nat} (hj : j < lnN P m) (hy : hasY (gt P m j).1 = true) : CT a 2 mX2_hasOther [rv a o, .int (nI m), .int (nI j)] S h (Rt (nI 1) S h) := by
  obtain ⟨hV1, hV2, hV3⟩ := id hV
  have hm8 := hV2 m
  have hm := lnN_lt hj
  have hok := hV3 m j hj
  obtain ⟨k1, k2, k3, k4⟩ := id hok
  refine met_of (by decide +kernel) (Nat.le_of_ble_eq_true rfl) ?_
  show T a 2 mX2_hasOther 0 [(0, rv a o), (1, .int (nI m)), (2, .int (nI j))] [] S h _
  refine tr_aload_n (pc := 0) 0 dX2_hasOther_0 rfl rfl ?_
  refine tr_iload_n (pc := 1) 1 dX2_hasOther_1 rfl rfl ?_
  refine tr_iload_n (pc := 2) 2 dX2_hasOther_2 rfl rfl ?_
  refine tr_callV (pc := 3) (rest := []) (ci := 2) dX2_hasOther_3 ml_X2_33 cv_X2_sort rfl rfl (Nat.le_of_ble_eq_true rfl) hO.1 rfl (by omega) (c_sort hO hM hV hj) ?_
  rintro _ _ _ ⟨rfl, rfl, rfl⟩
  show T a 2 mX2_hasOther 6 [(0, rv a o), (1, .int (nI m)), (2, .int (nI j))] [.int (nI ((gt P m j).1))] S h _
  refine tr_istore_n (pc := 6) (lv' := [(3, .int (nI ((gt P m j).1))), (0, rv a o), (1, .int (nI m)), (2, .int (nI j))]) dX2_hasOther_6 rfl (by decide) rfl ?_
  refine tr_iload_n (pc := 7) 0 dX2_hasOther_7 rfl rfl ?_
  refine tr_iconst (pc := 8) (v := nI 1) dX2_hasOther_8 (by decide) ?_
  refine tr_icmp_eq (pc := 9) (tgt := 28) dX2_hasOther_9 (by decide) (nI_eq (by omega) (by omega)) (fun q1 => ?_) (fun q1 => ?_)
  · skip
    refine tr_iconst (pc := 28) (v := nI 1) dX2_hasOther_28 (by decide) ?_
    refine tr_goto (pc := 29) (tgt := 33) dX2_hasOther_29 (by decide) ?_
    exact tr_iret (pc := 33) dX2_hasOther_33 rfl (by decide) (⟨rfl, rfl, rfl⟩)
  · skip
    refine tr_iload_n (pc := 12) 0 dX2_hasOther_12 rfl rfl ?_
    refine tr_iconst (pc := 13) (v := nI 2) dX2_hasOther_13 (by decide) ?_
    refine tr_icmp_eq (pc := 14) (tgt := 28) dX2_hasOther_14 (by decide) (nI_eq (by omega) (by omega)) (fun q2 => ?_) (fun q2 => ?_)
    · skip
      refine tr_iconst (pc := 28) (v := nI 1) dX2_hasOther_28 (by decide) ?_
      refine tr_goto (pc := 29) (tgt := 33) dX2_hasOther_29 (by decide) ?_
      exact tr_iret (pc := 33) dX2_hasOther_33 rfl (by decide) (⟨rfl, rfl, rfl⟩)
    · skip
      refine tr_iload_n (pc := 17) 0 dX2_hasOther_17 rfl rfl ?_
      refine tr_iconst (pc := 18) (v := nI 3) dX2_hasOther_18 (by decide) ?_
      refine tr_icmp_eq (pc := 19) (tgt := 28) dX2_hasOther_19 (by decide) (nI_eq (by omega) (by omega)) (fun q3 => ?_) (fun q3 => ?_)
      · skip
        refine tr_iconst (pc := 28) (v := nI 1) dX2_hasOther_28 (by decide) ?_
        refine tr_goto (pc := 29) (tgt := 33) dX2_hasOther_29 (by decide) ?_
        exact tr_iret (pc := 33) dX2_hasOther_33 rfl (by decide) (⟨rfl, rfl, rfl⟩)
      · skip
        refine tr_iload_n (pc := 22) 0 dX2_hasOther_22 rfl rfl ?_
        refine tr_bipush (pc := 23) (v := nI 7) dX2_hasOther_23 (by decide) ?_
        refine tr_icmp_ne (pc := 25) (tgt := 32) dX2_hasOther_25 (by decide) (nI_eq (by omega) (by omega)) (fun hcc => absurd (by simp [hasY, q1, q2, q3] at hy; exact hy) hcc) (fun _ => ?_)
        refine tr_iconst (pc := 28) (v := nI 1) dX2_hasOther_28 (by decide) ?_
        refine tr_goto (pc := 29) (tgt := 33) dX2_hasOther_29 (by decide) ?_
        exact tr_iret (pc := 33) dX2_hasOther_33 rfl (by decide) (⟨rfl, rfl, rfl⟩)

set_option maxHeartbeats 4000000 in
set_option maxRecDepth 100000 in
theorem c_hasOther_n {a : Am} {S : St} {h : Hp} {o : Nat} {P : Prog} (hO : MO S o) (hM : MP h o P) (hV : VB P) {m j : Nat} (hj : j < lnN P m) (hy : hasY (gt P m j).1 = false) : CT a 2 mX2_hasOther [rv a o, .int (nI m), .int (nI j)] S h (Rt (nI 0) S h) := by
  obtain ⟨hV1, hV2, hV3⟩ := id hV
  have hm8 := hV2 m
  have hm := lnN_lt hj
  have hok := hV3 m j hj
  obtain ⟨k1, k2, k3, k4⟩ := id hok
  refine met_of (by decide +kernel) (Nat.le_of_ble_eq_true rfl) ?_
  show T a 2 mX2_hasOther 0 [(0, rv a o), (1, .int (nI m)), (2, .int (nI j))] [] S h _
  refine tr_aload_n (pc := 0) 0 dX2_hasOther_0 rfl rfl ?_
  refine tr_iload_n (pc := 1) 1 dX2_hasOther_1 rfl rfl ?_
  refine tr_iload_n (pc := 2) 2 dX2_hasOther_2 rfl rfl ?_
  refine tr_callV (pc := 3) (rest := []) (ci := 2) dX2_hasOther_3 ml_X2_33 cv_X2_sort rfl rfl (Nat.le_of_ble_eq_true rfl) hO.1 rfl (by omega) (c_sort hO hM hV hj) ?_
  rintro _ _ _ ⟨rfl, rfl, rfl⟩
  show T a 2 mX2_hasOther 6 [(0, rv a o), (1, .int (nI m)), (2, .int (nI j))] [.int (nI ((gt P m j).1))] S h _
  refine tr_istore_n (pc := 6) (lv' := [(3, .int (nI ((gt P m j).1))), (0, rv a o), (1, .int (nI m)), (2, .int (nI j))]) dX2_hasOther_6 rfl (by decide) rfl ?_
  refine tr_iload_n (pc := 7) 0 dX2_hasOther_7 rfl rfl ?_
  refine tr_iconst (pc := 8) (v := nI 1) dX2_hasOther_8 (by decide) ?_
  refine tr_icmp_eq (pc := 9) (tgt := 28) dX2_hasOther_9 (by decide) (nI_eq (by omega) (by omega)) (fun hcc => absurd hcc (by simp [hasY] at hy; omega)) (fun _ => ?_)
  refine tr_iload_n (pc := 12) 0 dX2_hasOther_12 rfl rfl ?_
  refine tr_iconst (pc := 13) (v := nI 2) dX2_hasOther_13 (by decide) ?_
  refine tr_icmp_eq (pc := 14) (tgt := 28) dX2_hasOther_14 (by decide) (nI_eq (by omega) (by omega)) (fun hcc => absurd hcc (by simp [hasY] at hy; omega)) (fun _ => ?_)
  refine tr_iload_n (pc := 17) 0 dX2_hasOther_17 rfl rfl ?_
  refine tr_iconst (pc := 18) (v := nI 3) dX2_hasOther_18 (by decide) ?_
  refine tr_icmp_eq (pc := 19) (tgt := 28) dX2_hasOther_19 (by decide) (nI_eq (by omega) (by omega)) (fun hcc => absurd hcc (by simp [hasY] at hy; omega)) (fun _ => ?_)
  refine tr_iload_n (pc := 22) 0 dX2_hasOther_22 rfl rfl ?_
  refine tr_bipush (pc := 23) (v := nI 7) dX2_hasOther_23 (by decide) ?_
  refine tr_icmp_ne (pc := 25) (tgt := 32) dX2_hasOther_25 (by decide) (nI_eq (by omega) (by omega)) (fun _ => ?_) (fun hcc => absurd hcc (by simp [hasY] at hy; omega))
  refine tr_iconst (pc := 32) (v := nI 0) dX2_hasOther_32 (by decide) ?_
  exact tr_iret (pc := 33) dX2_hasOther_33 rfl (by decide) (⟨rfl, rfl, rfl⟩)
