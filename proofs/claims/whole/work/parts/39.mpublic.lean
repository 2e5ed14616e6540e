theorem c_mofA {a : Am} {S : St} {h : Hp} (hS : IsSt S) {P : Prog} (hV : VB P) (hN : NP h P) (hSN : SN h P) (hM : MN h (mayV P, false)) {m : Nat} (hm : m < P.length) {w : Nat} (hw : w < 5) : CT a 6 mX10_ofMethod [rv a 50, .int (nI m), .int (nI w)] S h (Rt (aOf P m w) S h) := by
  rcases (by omega : w = 0 ∨ w = 1 ∨ w = 2 ∨ w = 3 ∨ w = 4) with rfl | rfl | rfl | rfl | rfl
  · exact c_mof0 hS hV hN hSN hM hm
  · exact c_mof1 hS hV hN hSN hM hm
  · exact c_mof2 hS hV hN hSN hM hm
  · exact c_mof3 hS hV hN hSN hM hm
  · exact c_mof4 hS hV hN hSN hM hm
theorem c_mlineA {a : Am} {S : St} {h : Hp} (hS : IsSt S) {P : Prog} (hV : VB P) (hN : NP h P) (hSN : SN h P) {m i : Nat} (hi : i < lnN P m) {w : Nat} (hw : w < 5) : CT a 1 mX10_ofLine [rv a 50, .int (nI m), .int (nI i), .int (nI w)] S h (Rt (aLine P m i w) S h) := by
  rcases (by omega : w = 0 ∨ w = 1 ∨ w = 2 ∨ w = 3 ∨ w = 4) with rfl | rfl | rfl | rfl | rfl
  · exact c_mline0 hS hV hN hSN hi
  · exact c_mline1 hS hV hN hSN hi
  · exact c_mline2 hS hV hN hSN hi
  · exact c_mline3 hS hV hN hSN hi
  · exact c_mline4 hS hV hN hSN hi
theorem c_msiteA {a : Am} {S : St} {h : Hp} (hS : IsSt S) {P : Prog} (hV : VB P) (hN : NP h P) (hSN : SN h P) (hM : MN h (mayV P, false)) {s : Nat} (hs : s < nSt P) {w : Nat} (hw : w < 4) : CT a 4 mX10_ofSite [rv a 50, .int (nI s), .int (nI w)] S h (Rt (aSite P s w) S h) := by
  rcases (by omega : w = 0 ∨ w = 1 ∨ w = 2 ∨ w = 3) with rfl | rfl | rfl | rfl
  · exact c_msite0 hS hV hN hSN hM hs
  · exact c_msite1 hS hV hN hSN hM hs
  · exact c_msite2 hS hV hN hSN hM hs
  · exact c_msite3 hS hV hN hSN hM hs
theorem c_morunA {a : Am} {S : St} {h : Hp} (hS : IsSt S) {P : Prog} (hT : TrM h P) {w : Nat} (hw : w < 6) : CT a 0 mX10_ofRun [rv a 50, .int (nI w)] S h (Rt (aRun P w) S h) := by
  rcases (by omega : w = 0 ∨ w = 1 ∨ w = 2 ∨ w = 3 ∨ w = 4 ∨ w = 5) with rfl | rfl | rfl | rfl | rfl | rfl
  · exact c_morun0 hS hT
  · exact c_morun1 hS hT
  · exact c_morun2 hS hT
  · exact c_morun3 hS hT
  · exact c_morun4 hS hT
  · exact c_morun5 hS hT
theorem c_moranA {a : Am} {S : St} {h : Hp} (hS : IsSt S) {P : Prog} (hT : TrM h P) {s : Nat} (hs : s < 32) {w : Nat} (hw : w < 3) : CT a 0 mX10_ranOf [rv a 50, .int (nI s), .int (nI w)] S h (Rt (aRan P s w) S h) := by
  rcases (by omega : w = 0 ∨ w = 1 ∨ w = 2) with rfl | rfl | rfl
  · exact c_moran0 hS hT hs
  · exact c_moran1 hS hT hs
  · exact c_moran2 hS hT hs
theorem km_type {h : Hp} {tx : List Nat} {P : Prog} {past : List Prog} {b n f : Int32} {k : Nat} (hM : KM h tx P past b n f) : KM (hs (hs h 55 (upd (h 55) tx.length (nI k))) 50 (upd (hs h 55 (upd (h 55) tx.length (nI k)) 50) 6 (nI (tx.length + 1)))) (tx ++ [k]) P past b n f := by
  obtain ⟨m1, m2, m3, m4⟩ := hM
  unfold KM MTx NP
  rw [f50_s, f50_n (by decide), hs_ne (show 51 ≠ 50 by decide), hs_ne (show 53 ≠ 50 by decide), hs_ne (show 54 ≠ 50 by decide), hs_ne (show 55 ≠ 50 by decide), hs_same, hs_ne (show 50 ≠ 55 by decide), hs_ne (show 51 ≠ 55 by decide), hs_ne (show 53 ≠ 55 by decide), hs_ne (show 54 ≠ 55 by decide)]
  refine ⟨⟨by simp, fun j hj => ?_⟩, m2, m3, m4⟩
  rw [List.getD_eq_getElem?_getD, List.getElem?_append]
  by_cases e : j = tx.length
  · rw [e, upd_s, if_neg (by omega), Nat.sub_self]; rfl
  · have hj2 : j < tx.length := by simp at hj; omega
    rw [upd_n e, if_pos hj2, m1.2 j hj2, List.getD_eq_getElem?_getD]
theorem km_clear {h : Hp} {tx : List Nat} {P : Prog} {past : List Prog} {b n f : Int32} (hM : KM h tx P past b n f) : KM (hs h 50 (upd (h 50) 6 (nI 0))) [] P past b n f := by
  obtain ⟨m1, m2, m3, m4⟩ := hM
  unfold KM MTx NP
  rw [f50_s, f50_n (by decide), hs_ne (show 51 ≠ 50 by decide), hs_ne (show 53 ≠ 50 by decide), hs_ne (show 54 ≠ 50 by decide)]
  exact ⟨⟨rfl, fun j hj => absurd hj (by simp)⟩, m2, m3, m4⟩
set_option maxHeartbeats 4000000 in
set_option maxRecDepth 100000 in
theorem n_type_b {a : Am} {S : St} {h : Hp} (hS : IsSt S) {tx : List Nat} {P : Prog} {past : List Prog} {b n f : Int32} (hM : KM h tx P past b n f) (hv : TV tx) (hVP : VP P) (hpv : ∀ Q ∈ past, VP Q) (hp5 : past.length ≤ 5) {c : Int32} (hc : outN c 128) : CT a 20 mX10_type [rv a 50, .int c] S h (fun v S' h' => v = some (.int (-2)) ∧ S = S' ∧ KM h' tx P past (b + nI 1) n f ∧ MF h h') := by
  obtain ⟨hX, hN, ⟨hst, hpa⟩, hrf⟩ := hM
  have hM : KM h tx P past b n f := ⟨hX, hN, ⟨hst, hpa⟩, hrf⟩
  have hVB := hVP.1
  have hV1 := hVB.1
  have hv200 := hv.1
  have hnS := nSt_le hVB
  refine met_of (by decide +kernel) (Nat.le_of_ble_eq_true rfl) ?_
  show T a 20 mX10_type 0 [(0, rv a 50), (1, .int c)] [] S h _
  refine tr_iload_n (pc := 0) 1 dX10_type_0 rfl rfl ?_
  refine tr_iconst (pc := 1) (v := nI 0) dX10_type_1 (by decide) ?_
  refine tr_bipush (pc := 2) (v := nI 127) dX10_type_2 (by decide) ?_
  refine tr_callS (pc := 4) (rest := []) dX10_type_4 ml_X10_99 cs_X10_in rfl rfl (Nat.le_of_ble_eq_true rfl) (by decide) (c_min_out (mo_out (N := 127) hc (by decide))) ?_
  rintro _ _ _ ⟨rfl, rfl, rfl⟩
  show T a 20 mX10_type 7 [(0, rv a 50), (1, .int c)] [.int (nI 0)] S h _
  refine tr_if_ne (pc := 7) (tgt := 17) dX10_type_7 (by decide) (nI_z_eq (by omega)) (fun hcc => absurd (by decide) hcc) (fun _ => ?_)
  refine tr_aload_n (pc := 10) 0 dX10_type_10 rfl rfl ?_
  refine tr_bipush (pc := 11) (v := -2) dX10_type_11 (by decide) ?_
  refine tr_callV (pc := 13) (rest := []) (ci := 10) dX10_type_13 ml_X10_156 cv_X10_refuse rfl rfl (Nat.le_of_ble_eq_true rfl) (hS.1 50 (13, 45) rfl) rfl (by decide) (c_mref0 hS hM) ?_
  rintro _ _ h9 ⟨rfl, rfl, hM9, hF9⟩
  show T a 20 mX10_type 16 [(0, rv a 50), (1, .int c)] [.int (-2)] S h9 _
  exact tr_iret (pc := 16) dX10_type_16 rfl rfl (⟨rfl, rfl, hM9, hF9⟩)

set_option maxHeartbeats 4000000 in
set_option maxRecDepth 100000 in
theorem n_type_f {a : Am} {S : St} {h : Hp} (hS : IsSt S) {tx : List Nat} {P : Prog} {past : List Prog} {b n f : Int32} (hM : KM h tx P past b n f) (hv : TV tx) (hVP : VP P) (hpv : ∀ Q ∈ past, VP Q) (hp5 : past.length ≤ 5) {k : Nat} (hk : k < 128) (hl : tx.length = 200) : CT a 20 mX10_type [rv a 50, .int (nI k)] S h (fun v S' h' => v = some (.int (-4)) ∧ S = S' ∧ KM h' tx P past b n (f + nI 1) ∧ MF h h') := by
  obtain ⟨hX, hN, ⟨hst, hpa⟩, hrf⟩ := hM
  have hM : KM h tx P past b n f := ⟨hX, hN, ⟨hst, hpa⟩, hrf⟩
  have hVB := hVP.1
  have hV1 := hVB.1
  have hv200 := hv.1
  have hnS := nSt_le hVB
  refine met_of (by decide +kernel) (Nat.le_of_ble_eq_true rfl) ?_
  show T a 20 mX10_type 0 [(0, rv a 50), (1, .int (nI k))] [] S h _
  refine tr_iload_n (pc := 0) 1 dX10_type_0 rfl rfl ?_
  refine tr_iconst (pc := 1) (v := nI 0) dX10_type_1 (by decide) ?_
  refine tr_bipush (pc := 2) (v := nI 127) dX10_type_2 (by decide) ?_
  refine tr_callS (pc := 4) (rest := []) dX10_type_4 ml_X10_99 cs_X10_in rfl rfl (Nat.le_of_ble_eq_true rfl) (by decide) (c_min_in (mo_in (N := 127) (by omega) (by decide)).1 (mo_in (N := 127) (by omega) (by decide)).2) ?_
  rintro _ _ _ ⟨rfl, rfl, rfl⟩
  show T a 20 mX10_type 7 [(0, rv a 50), (1, .int (nI k))] [.int (nI 1)] S h _
  refine tr_if_ne (pc := 7) (tgt := 17) dX10_type_7 (by decide) (nI_z_eq (by omega)) (fun _ => ?_) (fun hcc => absurd hcc (by decide))
  refine tr_aload_n (pc := 17) 0 dX10_type_17 rfl rfl ?_
  refine tr_getI (pc := 18) (x := nI tx.length) dX10_type_18 (hS.1 50 (13, 45) rfl) fi_X10_96 rfl hX.1 ?_
  refine tr_sipush (pc := 21) (v := nI 200) dX10_type_21 (by decide) ?_
  refine tr_icmp_ne (pc := 24) (tgt := 34) dX10_type_24 (by decide) (nI_eq (by omega) (by omega)) (fun hcc => absurd (by omega) hcc) (fun _ => ?_)
  refine tr_aload_n (pc := 27) 0 dX10_type_27 rfl rfl ?_
  refine tr_bipush (pc := 28) (v := -4) dX10_type_28 (by decide) ?_
  refine tr_callV (pc := 30) (rest := []) (ci := 10) dX10_type_30 ml_X10_156 cv_X10_refuse rfl rfl (Nat.le_of_ble_eq_true rfl) (hS.1 50 (13, 45) rfl) rfl (by decide) (c_mref2 hS hM) ?_
  rintro _ _ h9 ⟨rfl, rfl, hM9, hF9⟩
  show T a 20 mX10_type 33 [(0, rv a 50), (1, .int (nI k))] [.int (-4)] S h9 _
  exact tr_iret (pc := 33) dX10_type_33 rfl rfl (⟨rfl, rfl, hM9, hF9⟩)

set_option maxHeartbeats 4000000 in
set_option maxRecDepth 100000 in
theorem n_type_o {a : Am} {S : St} {h : Hp} (hS : IsSt S) {tx : List Nat} {P : Prog} {past : List Prog} {b n f : Int32} (hM : KM h tx P past b n f) (hv : TV tx) (hVP : VP P) (hpv : ∀ Q ∈ past, VP Q) (hp5 : past.length ≤ 5) {k : Nat} (hk : k < 128) (hl : tx.length < 200) : CT a 20 mX10_type [rv a 50, .int (nI k)] S h (fun v S' h' => v = some (.int (nI (tx.length + 1))) ∧ S = S' ∧ KM h' (tx ++ [k]) P past b n f ∧ MF h h') := by
  obtain ⟨hX, hN, ⟨hst, hpa⟩, hrf⟩ := hM
  have hM : KM h tx P past b n f := ⟨hX, hN, ⟨hst, hpa⟩, hrf⟩
  have hVB := hVP.1
  have hV1 := hVB.1
  have hv200 := hv.1
  have hnS := nSt_le hVB
  refine met_of (by decide +kernel) (Nat.le_of_ble_eq_true rfl) ?_
  show T a 20 mX10_type 0 [(0, rv a 50), (1, .int (nI k))] [] S h _
  refine tr_iload_n (pc := 0) 1 dX10_type_0 rfl rfl ?_
  refine tr_iconst (pc := 1) (v := nI 0) dX10_type_1 (by decide) ?_
  refine tr_bipush (pc := 2) (v := nI 127) dX10_type_2 (by decide) ?_
  refine tr_callS (pc := 4) (rest := []) dX10_type_4 ml_X10_99 cs_X10_in rfl rfl (Nat.le_of_ble_eq_true rfl) (by decide) (c_min_in (mo_in (N := 127) (by omega) (by decide)).1 (mo_in (N := 127) (by omega) (by decide)).2) ?_
  rintro _ _ _ ⟨rfl, rfl, rfl⟩
  show T a 20 mX10_type 7 [(0, rv a 50), (1, .int (nI k))] [.int (nI 1)] S h _
  refine tr_if_ne (pc := 7) (tgt := 17) dX10_type_7 (by decide) (nI_z_eq (by omega)) (fun _ => ?_) (fun hcc => absurd hcc (by decide))
  refine tr_aload_n (pc := 17) 0 dX10_type_17 rfl rfl ?_
  refine tr_getI (pc := 18) (x := nI tx.length) dX10_type_18 (hS.1 50 (13, 45) rfl) fi_X10_96 rfl hX.1 ?_
  refine tr_sipush (pc := 21) (v := nI 200) dX10_type_21 (by decide) ?_
  refine tr_icmp_ne (pc := 24) (tgt := 34) dX10_type_24 (by decide) (nI_eq (by omega) (by omega)) (fun _ => ?_) (fun hcc => absurd hcc (by omega))
  refine tr_aload_n (pc := 34) 0 dX10_type_34 rfl rfl ?_
  refine tr_getR (pc := 35) (q := 55) dX10_type_35 (hS.1 50 (13, 45) rfl) fi_X10_22 rfl (hS.2 50 5 55 rfl) ?_
  refine tr_aload_n (pc := 38) 0 dX10_type_38 rfl rfl ?_
  refine tr_getI (pc := 39) (x := nI tx.length) dX10_type_39 (hS.1 50 (13, 45) rfl) fi_X10_96 rfl hX.1 ?_
  refine tr_iload_n (pc := 42) 1 dX10_type_42 rfl rfl ?_
  refine tr_iast (pc := 43) tx.length dX10_type_43 (hS.1 55 (0, 200) rfl) rfl (by omega) (by decide) ?_
  refine tr_aload_n (pc := 44) 0 dX10_type_44 rfl rfl ?_
  refine tr_dup (pc := 45) dX10_type_45 rfl ?_
  refine tr_getI (pc := 46) (x := nI tx.length) dX10_type_46 (hS.1 50 (13, 45) rfl) fi_X10_96 rfl hX.1 ?_
  refine tr_iconst (pc := 49) (v := nI 1) dX10_type_49 (by decide) ?_
  refine tr_iadd (pc := 50) (v := nI (tx.length + 1)) dX10_type_50 (nI_add _ _) ?_
  refine tr_putI (pc := 51) (x := nI (tx.length + 1)) dX10_type_51 (hS.1 50 (13, 45) rfl) fi_X10_96 rfl rfl rfl ?_
  refine tr_aload_n (pc := 54) 0 dX10_type_54 rfl rfl ?_
  refine tr_getI (pc := 55) (x := nI (tx.length + 1)) dX10_type_55 (hS.1 50 (13, 45) rfl) fi_X10_96 rfl rfl ?_
  exact tr_iret (pc := 58) dX10_type_58 rfl rfl (⟨rfl, rfl, km_type hM, (MF.rf.hs (by decide)).hs (by decide)⟩)

set_option maxHeartbeats 4000000 in
set_option maxRecDepth 100000 in
theorem n_clear {a : Am} {S : St} {h : Hp} (hS : IsSt S) {tx : List Nat} {P : Prog} {past : List Prog} {b n f : Int32} (hM : KM h tx P past b n f) (hv : TV tx) (hVP : VP P) (hpv : ∀ Q ∈ past, VP Q) (hp5 : past.length ≤ 5) : CT a 20 mX10_clear [rv a 50] S h (fun v S' h' => v = some (.int (nI tx.length)) ∧ S = S' ∧ KM h' ([]) P past b n f ∧ MF h h') := by
  obtain ⟨hX, hN, ⟨hst, hpa⟩, hrf⟩ := hM
  have hM : KM h tx P past b n f := ⟨hX, hN, ⟨hst, hpa⟩, hrf⟩
  have hVB := hVP.1
  have hV1 := hVB.1
  have hv200 := hv.1
  have hnS := nSt_le hVB
  refine met_of (by decide +kernel) (Nat.le_of_ble_eq_true rfl) ?_
  show T a 20 mX10_clear 0 [(0, rv a 50)] [] S h _
  refine tr_aload_n (pc := 0) 0 dX10_clear_0 rfl rfl ?_
  refine tr_getI (pc := 1) (x := nI tx.length) dX10_clear_1 (hS.1 50 (13, 45) rfl) fi_X10_96 rfl hX.1 ?_
  refine tr_istore_n (pc := 4) (lv' := [(1, .int (nI tx.length)), (0, rv a 50)]) dX10_clear_4 rfl (by decide) rfl ?_
  refine tr_aload_n (pc := 5) 1 dX10_clear_5 rfl rfl ?_
  refine tr_iconst (pc := 6) (v := nI 0) dX10_clear_6 (by decide) ?_
  refine tr_putI (pc := 7) (x := nI 0) dX10_clear_7 (hS.1 50 (13, 45) rfl) fi_X10_96 rfl rfl rfl ?_
  refine tr_iload_n (pc := 10) 0 dX10_clear_10 rfl rfl ?_
  exact tr_iret (pc := 11) dX10_clear_11 rfl rfl (⟨rfl, rfl, km_clear hM, MF.rf.hs (by decide)⟩)

theorem km_now {h h1 : Hp} {tx : List Nat} {P P1 : Prog} {past : List Prog} {b n f : Int32} {g : Nat → Int32} (hM : KM h1 tx P past b n f) (hW : RW g 0 P1) : KM (hs h1 51 g) tx P1 past b n f := by
  obtain ⟨m1, m2, m3, m4⟩ := hM
  refine ⟨?_, np_rw.2 (by rw [hs_same]; exact hW), ?_, ?_⟩
  · unfold MTx; rw [hs_ne (show 50 ≠ 51 by decide), hs_ne (show 55 ≠ 51 by decide)]; exact m1
  · rw [hs_ne (show 50 ≠ 51 by decide), hs_ne (show 53 ≠ 51 by decide)]; exact m3
  · rw [hs_ne (show 54 ≠ 51 by decide)]; exact m4
set_option maxHeartbeats 4000000 in
set_option maxRecDepth 100000 in
theorem n_reads_e {a : Am} {S : St} {h : Hp} (hS : IsSt S) {tx : List Nat} {P : Prog} {past : List Prog} {b n f : Int32} (hM : KM h tx P past b n f) (hv : TV tx) (hVP : VP P) (hpv : ∀ Q ∈ past, VP Q) (hp5 : past.length ≤ 5) {e : Nat} (hr : rdA tx = .error e) : CT a 20 mX10_reads [rv a 50] S h (fun v S' h' => v = some (.int (-10 - nI e)) ∧ S = S' ∧ KM h' tx P past b n f ∧ MF h h') := by
  obtain ⟨hX, hN, ⟨hst, hpa⟩, hrf⟩ := hM
  have hM : KM h tx P past b n f := ⟨hX, hN, ⟨hst, hpa⟩, hrf⟩
  have hVB := hVP.1
  have hV1 := hVB.1
  have hv200 := hv.1
  have hnS := nSt_le hVB
  have hra : rAns (rdA tx) = nI e := by rw [hr]; rfl
  refine met_of (by decide +kernel) (Nat.le_of_ble_eq_true rfl) ?_
  show T a 20 mX10_reads 0 [(0, rv a 50)] [] S h _
  refine tr_aload_n (pc := 0) 0 dX10_reads_0 rfl rfl ?_
  refine tr_callV (pc := 1) (rest := []) (ci := 10) dX10_reads_1 ml_X10_159 cv_X10_readText rfl rfl (Nat.le_of_ble_eq_true rfl) (hS.1 50 (13, 45) rfl) rfl (by decide) (c_readText hS hX hv) ?_
  rintro _ _ h0 ⟨rfl, rfl, hF0, hW0⟩
  rw [hra]
  have hM0 : KM h0 tx P past b n f := hM.q hF0 (by decide) (by decide) (by decide) (by decide) (by decide) (by decide)
  have hc0 : MF h h0 := Fm.mf hF0 (by decide)
  show T a 20 mX10_reads 4 [(0, rv a 50)] [.int (nI e)] S h0 _
  refine tr_istore_n (pc := 4) (lv' := [(1, .int (nI e)), (0, rv a 50)]) dX10_reads_4 rfl (by decide) rfl ?_
  refine tr_iload_n (pc := 5) 0 dX10_reads_5 rfl rfl ?_
  refine tr_iconst (pc := 6) (v := -1) dX10_reads_6 (by decide) ?_
  refine tr_icmp_eq (pc := 7) (tgt := 15) dX10_reads_7 (by decide) Iff.rfl (fun hcc => absurd hcc (nI_nm (by have := rdA_le hr; omega))) (fun _ => ?_)
  refine tr_bipush (pc := 10) (v := -10) dX10_reads_10 (by decide) ?_
  refine tr_iload_n (pc := 12) 0 dX10_reads_12 rfl rfl ?_
  refine tr_isub (pc := 13) (v := (-10) - (nI e)) dX10_reads_13 rfl ?_
  exact tr_iret (pc := 14) dX10_reads_14 rfl rfl (⟨rfl, rfl, hM0, hc0⟩)

set_option maxHeartbeats 4000000 in
set_option maxRecDepth 100000 in
theorem n_reads_o {a : Am} {S : St} {h : Hp} (hS : IsSt S) {tx : List Nat} {P : Prog} {past : List Prog} {b n f : Int32} (hM : KM h tx P past b n f) (hv : TV tx) (hVP : VP P) (hpv : ∀ Q ∈ past, VP Q) (hp5 : past.length ≤ 5) {P1 : Prog} (hr : rdA tx = .ok P1) : CT a 20 mX10_reads [rv a 50] S h (fun v S' h' => v = some (.int (nI P1.length)) ∧ S = S' ∧ KM h' tx P1 (keepP past P) b n f ∧ MF h h') := by
  obtain ⟨hX, hN, ⟨hst, hpa⟩, hrf⟩ := hM
  have hM : KM h tx P past b n f := ⟨hX, hN, ⟨hst, hpa⟩, hrf⟩
  have hVB := hVP.1
  have hV1 := hVB.1
  have hv200 := hv.1
  have hnS := nSt_le hVB
  have hra : rAns (rdA tx) = -1 := by rw [hr]; rfl
  refine met_of (by decide +kernel) (Nat.le_of_ble_eq_true rfl) ?_
  show T a 20 mX10_reads 0 [(0, rv a 50)] [] S h _
  refine tr_aload_n (pc := 0) 0 dX10_reads_0 rfl rfl ?_
  refine tr_callV (pc := 1) (rest := []) (ci := 10) dX10_reads_1 ml_X10_159 cv_X10_readText rfl rfl (Nat.le_of_ble_eq_true rfl) (hS.1 50 (13, 45) rfl) rfl (by decide) (c_readText hS hX hv) ?_
  rintro _ _ h0 ⟨rfl, rfl, hF0, hW0⟩
  rw [hra]
  have hM0 : KM h0 tx P past b n f := hM.q hF0 (by decide) (by decide) (by decide) (by decide) (by decide) (by decide)
  have hc0 : MF h h0 := Fm.mf hF0 (by decide)
  show T a 20 mX10_reads 4 [(0, rv a 50)] [.int (-1)] S h0 _
  refine tr_istore_n (pc := 4) (lv' := [(1, .int (-1)), (0, rv a 50)]) dX10_reads_4 rfl (by decide) rfl ?_
  refine tr_iload_n (pc := 5) 0 dX10_reads_5 rfl rfl ?_
  refine tr_iconst (pc := 6) (v := -1) dX10_reads_6 (by decide) ?_
  refine tr_icmp_eq (pc := 7) (tgt := 15) dX10_reads_7 (by decide) Iff.rfl (fun _ => ?_) (fun hcc => absurd (rfl) hcc)
  refine tr_aload_n (pc := 15) 1 dX10_reads_15 rfl rfl ?_
  refine tr_callV (pc := 16) (rest := []) (ci := 10) dX10_reads_16 ml_X10_162 cv_X10_note rfl rfl (Nat.le_of_ble_eq_true rfl) (hS.1 50 (13, 45) rfl) rfl (by decide) (c_note hS hM0 hv hVP hpv hp5) ?_
  rintro _ _ h1 ⟨rfl, rfl, hM1, hf1⟩
  have hN1 := hM1.2.1
  have hF1 : MF h0 h1 := hf1.mf (by decide)
  show T a 20 mX10_reads 19 [(1, .int (-1)), (0, rv a 50)] [] S h1 _
  refine tr_aload_n (pc := 19) 1 dX10_reads_19 rfl rfl ?_
  refine tr_getR (pc := 20) (q := 52) dX10_reads_20 (hS.1 50 (13, 45) rfl) fi_X10_13 rfl (hS.2 50 1 52 rfl) ?_
  refine tr_iconst (pc := 23) (v := nI 0) dX10_reads_23 (by decide) ?_
  refine tr_aload_n (pc := 24) 1 dX10_reads_24 rfl rfl ?_
  refine tr_getR (pc := 25) (q := 51) dX10_reads_25 (hS.1 50 (13, 45) rfl) fi_X10_7 rfl (hS.2 50 0 51 rfl) ?_
  refine tr_iconst (pc := 28) (v := nI 0) dX10_reads_28 (by decide) ?_
  refine tr_callS (pc := 29) (rest := []) dX10_reads_29 ml_X10_89 cs_X10_bring rfl rfl (Nat.le_of_ble_eq_true rfl) (by decide) (c_bring (o1 := 52) (o2 := 51) (i := 0) (j := 0) (hS.1 52 _ rfl) (hS.1 51 _ rfl) (by decide) (by decide) (by decide) (by decide) (by decide)) ?_
  rintro _ _ _ ⟨rfl, rfl, g, hg1, hg2, rfl⟩
  have hW1 : RW g 0 P1 := rw_copy (rdA_vp hr).1 (hW0 P1 hr) (fun t ht => by rw [hg1 t ht, hf1.1 52 (by decide) (by decide)])
  show T a 20 mX10_reads 32 [(1, .int (-1)), (0, rv a 50)] [] S (hs h1 51 g) _
  refine tr_aload_n (pc := 32) 1 dX10_reads_32 rfl rfl ?_
  refine tr_getR (pc := 33) (q := 51) dX10_reads_33 (hS.1 50 (13, 45) rfl) fi_X10_7 rfl (hS.2 50 0 51 rfl) ?_
  refine tr_iconst (pc := 36) (v := nI 0) dX10_reads_36 (by decide) ?_
  refine tr_iald (pc := 37) (v := nI P1.length) 0 dX10_reads_37 (hS.1 51 (0, 133) rfl) rfl (by omega) (by decide) (by rw [hs_same]; exact hW1.1) ?_
  exact tr_iret (pc := 38) dX10_reads_38 rfl rfl (⟨rfl, rfl, km_now (h := h) hM1 hW1, (hc0.trans hF1).hs (by decide)⟩)

set_option maxHeartbeats 4000000 in
set_option maxRecDepth 100000 in
theorem n_drops_1 {a : Am} {S : St} {h : Hp} (hS : IsSt S) {tx : List Nat} {P : Prog} {past : List Prog} {b n f : Int32} (hM : KM h tx P past b n f) (hv : TV tx) (hVP : VP P) (hpv : ∀ Q ∈ past, VP Q) (hp5 : past.length ≤ 5) {x y : Int32} (hx : outN x P.length) : CT a 20 mX10_drops [rv a 50, .int x, .int y] S h (fun v S' h' => v = some (.int (-2)) ∧ S = S' ∧ KM h' tx P past (b + nI 1) n f ∧ MF h h') := by
  obtain ⟨hX, hN, ⟨hst, hpa⟩, hrf⟩ := hM
  have hM : KM h tx P past b n f := ⟨hX, hN, ⟨hst, hpa⟩, hrf⟩
  have hVB := hVP.1
  have hV1 := hVB.1
  have hv200 := hv.1
  have hnS := nSt_le hVB
  refine met_of (by decide +kernel) (Nat.le_of_ble_eq_true rfl) ?_
  show T a 20 mX10_drops 0 [(0, rv a 50), (1, .int x), (2, .int y)] [] S h _
  refine tr_aload_n (pc := 0) 0 dX10_drops_0 rfl rfl ?_
  refine tr_iload_n (pc := 1) 1 dX10_drops_1 rfl rfl ?_
  refine tr_iload_n (pc := 2) 2 dX10_drops_2 rfl rfl ?_
  refine tr_callV (pc := 3) (rest := []) (ci := 10) dX10_drops_3 ml_X10_171 cv_X10_isLine rfl rfl (Nat.le_of_ble_eq_true rfl) (hS.1 50 (13, 45) rfl) rfl (by decide) (c_misL_o1 hS hVB hN hx) ?_
  rintro _ _ _ ⟨rfl, rfl, rfl⟩
  show T a 20 mX10_drops 6 [(0, rv a 50), (1, .int x), (2, .int y)] [.int (nI 0)] S h _
  refine tr_if_ne (pc := 6) (tgt := 16) dX10_drops_6 (by decide) (nI_z_eq (by omega)) (fun hcc => absurd (by decide) hcc) (fun _ => ?_)
  refine tr_aload_n (pc := 9) 0 dX10_drops_9 rfl rfl ?_
  refine tr_bipush (pc := 10) (v := -2) dX10_drops_10 (by decide) ?_
  refine tr_callV (pc := 12) (rest := []) (ci := 10) dX10_drops_12 ml_X10_156 cv_X10_refuse rfl rfl (Nat.le_of_ble_eq_true rfl) (hS.1 50 (13, 45) rfl) rfl (by decide) (c_mref0 hS hM) ?_
  rintro _ _ h9 ⟨rfl, rfl, hM9, hF9⟩
  show T a 20 mX10_drops 15 [(0, rv a 50), (1, .int x), (2, .int y)] [.int (-2)] S h9 _
  exact tr_iret (pc := 15) dX10_drops_15 rfl rfl (⟨rfl, rfl, hM9, hF9⟩)

set_option maxHeartbeats 4000000 in
set_option maxRecDepth 100000 in
theorem n_drops_2 {a : Am} {S : St} {h : Hp} (hS : IsSt S) {tx : List Nat} {P : Prog} {past : List Prog} {b n f : Int32} (hM : KM h tx P past b n f) (hv : TV tx) (hVP : VP P) (hpv : ∀ Q ∈ past, VP Q) (hp5 : past.length ≤ 5) {m : Nat} {y : Int32} (hm : m < P.length) (hy : outN y (lnN P m)) : CT a 20 mX10_drops [rv a 50, .int (nI m), .int y] S h (fun v S' h' => v = some (.int (-2)) ∧ S = S' ∧ KM h' tx P past (b + nI 1) n f ∧ MF h h') := by
  obtain ⟨hX, hN, ⟨hst, hpa⟩, hrf⟩ := hM
  have hM : KM h tx P past b n f := ⟨hX, hN, ⟨hst, hpa⟩, hrf⟩
  have hVB := hVP.1
  have hV1 := hVB.1
  have hv200 := hv.1
  have hnS := nSt_le hVB
  refine met_of (by decide +kernel) (Nat.le_of_ble_eq_true rfl) ?_
  show T a 20 mX10_drops 0 [(0, rv a 50), (1, .int (nI m)), (2, .int y)] [] S h _
  refine tr_aload_n (pc := 0) 0 dX10_drops_0 rfl rfl ?_
  refine tr_iload_n (pc := 1) 1 dX10_drops_1 rfl rfl ?_
  refine tr_iload_n (pc := 2) 2 dX10_drops_2 rfl rfl ?_
  refine tr_callV (pc := 3) (rest := []) (ci := 10) dX10_drops_3 ml_X10_171 cv_X10_isLine rfl rfl (Nat.le_of_ble_eq_true rfl) (hS.1 50 (13, 45) rfl) rfl (by decide) (c_misL_o2 hS hVB hN hm hy) ?_
  rintro _ _ _ ⟨rfl, rfl, rfl⟩
  show T a 20 mX10_drops 6 [(0, rv a 50), (1, .int (nI m)), (2, .int y)] [.int (nI 0)] S h _
  refine tr_if_ne (pc := 6) (tgt := 16) dX10_drops_6 (by decide) (nI_z_eq (by omega)) (fun hcc => absurd (by decide) hcc) (fun _ => ?_)
  refine tr_aload_n (pc := 9) 0 dX10_drops_9 rfl rfl ?_
  refine tr_bipush (pc := 10) (v := -2) dX10_drops_10 (by decide) ?_
  refine tr_callV (pc := 12) (rest := []) (ci := 10) dX10_drops_12 ml_X10_156 cv_X10_refuse rfl rfl (Nat.le_of_ble_eq_true rfl) (hS.1 50 (13, 45) rfl) rfl (by decide) (c_mref0 hS hM) ?_
  rintro _ _ h9 ⟨rfl, rfl, hM9, hF9⟩
  show T a 20 mX10_drops 15 [(0, rv a 50), (1, .int (nI m)), (2, .int y)] [.int (-2)] S h9 _
  exact tr_iret (pc := 15) dX10_drops_15 rfl rfl (⟨rfl, rfl, hM9, hF9⟩)

theorem rw_drop {f g : Nat → Int32} {P : Prog} {m i : Nat} (hV : VB P) (hi : i < lnN P m) (hR : RW f 0 P) (h1 : ∀ t, 2 + 33 * m + 4 * i ≤ t → t < 2 + 33 * m + 28 → g t = f (t + 4)) (h2 : g (1 + 33 * m) = nI (lnN P m - 1)) (h3 : ∀ t, (t < 2 + 33 * m + 4 * i ∨ 2 + 33 * m + 28 ≤ t) → t ≠ 1 + 33 * m → g t = f t) : RW g 0 (dropL P m i) := by
  obtain ⟨v1, v2, v3⟩ := hV
  obtain ⟨r1, r2, r3⟩ := hR
  have hm8 := v2 m
  refine ⟨?_, fun k hk => ?_, fun k j w hk hj hw => ?_⟩
  · rw [h3 0 (by omega) (by omega), len_drop]; exact r1
  · rw [len_drop] at hk
    rw [lnN_drop hi]
    by_cases e : k = m
    · rw [if_pos e, e, Nat.zero_add, h2]
    · rw [if_neg e, h3 _ (by omega) (by omega)]; exact r2 k hk
  · rw [len_drop] at hk
    rw [lnN_drop hi] at hj
    have hk8 := v2 k
    rw [gt_drop hi]
    by_cases e : k = m
    · subst e
      rw [if_pos rfl] at hj
      by_cases e2 : i ≤ j
      · rw [if_pos ⟨rfl, e2⟩, h1 _ (by omega) (by omega)]
        have := r3 k (j + 1) w hk (by omega) hw
        rw [← this]
        congr 1
        omega
      · rw [if_neg (fun z => e2 z.2), h3 _ (by omega) (by omega)]
        exact r3 k j w hk (by omega) hw
    · rw [if_neg e] at hj
      rw [if_neg (fun z => e z.1), h3 _ (by omega) (by omega)]
      exact r3 k j w hk hj hw
theorem pk_sub1 {x : Nat} : nI (2 + x) - nI 1 = nI (1 + x) := by
  rw [pk_sub (by omega), show 2 + x - 1 = 1 + x by omega]
set_option maxHeartbeats 4000000 in
set_option maxRecDepth 100000 in
theorem n_drops_o {a : Am} {S : St} {h : Hp} (hS : IsSt S) {tx : List Nat} {P : Prog} {past : List Prog} {b n f : Int32} (hM : KM h tx P past b n f) (hv : TV tx) (hVP : VP P) (hpv : ∀ Q ∈ past, VP Q) (hp5 : past.length ≤ 5) {m i : Nat} (hi : i < lnN P m) : CT a 20 mX10_drops [rv a 50, .int (nI m), .int (nI i)] S h (fun v S' h' => v = some (.int (nI (lnN P m - 1))) ∧ S = S' ∧ KM h' tx (dropL P m i) (keepP past P) b n f ∧ MF h h') := by
  obtain ⟨hX, hN, ⟨hst, hpa⟩, hrf⟩ := hM
  have hM : KM h tx P past b n f := ⟨hX, hN, ⟨hst, hpa⟩, hrf⟩
  have hVB := hVP.1
  have hV1 := hVB.1
  have hv200 := hv.1
  have hnS := nSt_le hVB
  have hm := lnN_lt hi
  have hm8 := hVB.2.1 m
  refine met_of (by decide +kernel) (Nat.le_of_ble_eq_true rfl) ?_
  show T a 20 mX10_drops 0 [(0, rv a 50), (1, .int (nI m)), (2, .int (nI i))] [] S h _
  refine tr_aload_n (pc := 0) 0 dX10_drops_0 rfl rfl ?_
  refine tr_iload_n (pc := 1) 1 dX10_drops_1 rfl rfl ?_
  refine tr_iload_n (pc := 2) 2 dX10_drops_2 rfl rfl ?_
  refine tr_callV (pc := 3) (rest := []) (ci := 10) dX10_drops_3 ml_X10_171 cv_X10_isLine rfl rfl (Nat.le_of_ble_eq_true rfl) (hS.1 50 (13, 45) rfl) rfl (by decide) (c_misL_in hS hVB hN hi) ?_
  rintro _ _ _ ⟨rfl, rfl, rfl⟩
  show T a 20 mX10_drops 6 [(0, rv a 50), (1, .int (nI m)), (2, .int (nI i))] [.int (nI 1)] S h _
  refine tr_if_ne (pc := 6) (tgt := 16) dX10_drops_6 (by decide) (nI_z_eq (by omega)) (fun _ => ?_) (fun hcc => absurd hcc (by decide))
  refine tr_aload_n (pc := 16) 0 dX10_drops_16 rfl rfl ?_
  refine tr_callV (pc := 17) (rest := []) (ci := 10) dX10_drops_17 ml_X10_162 cv_X10_note rfl rfl (Nat.le_of_ble_eq_true rfl) (hS.1 50 (13, 45) rfl) rfl (by decide) (c_note hS hM hv hVP hpv hp5) ?_
  rintro _ _ h1 ⟨rfl, rfl, hM1, hf1⟩
  have hN1 := hM1.2.1
  have hF1 : MF h h1 := hf1.mf (by decide)
  show T a 20 mX10_drops 20 [(0, rv a 50), (1, .int (nI m)), (2, .int (nI i))] [] S h1 _
  refine tr_iconst (pc := 20) (v := nI 2) dX10_drops_20 (by decide) ?_
  refine tr_bipush (pc := 21) (v := nI 33) dX10_drops_21 (by decide) ?_
  refine tr_iload_n (pc := 23) 1 dX10_drops_23 rfl rfl ?_
  refine tr_imul (pc := 24) (v := nI (33 * m)) dX10_drops_24 (pk_mul _ _) ?_
  refine tr_iadd (pc := 25) (v := nI (2 + 33 * m)) dX10_drops_25 (nI_add _ _) ?_
  refine tr_istore_n (pc := 26) (lv' := [(3, .int (nI (2 + 33 * m))), (0, rv a 50), (1, .int (nI m)), (2, .int (nI i))]) dX10_drops_26 rfl (by decide) rfl ?_
  refine tr_iconst (pc := 27) (v := nI 4) dX10_drops_27 (by decide) ?_
  refine tr_iload_n (pc := 28) 3 dX10_drops_28 rfl rfl ?_
  refine tr_imul (pc := 29) (v := nI (4 * i)) dX10_drops_29 (pk_mul _ _) ?_
  refine tr_istore (pc := 30) (lv' := [(4, .int (nI (4 * i))), (3, .int (nI (2 + 33 * m))), (0, rv a 50), (1, .int (nI m)), (2, .int (nI i))]) dX10_drops_30 (by decide) rfl ?_
  refine tr_sub (pc := 32) (lv' := [(0, rv a 50), (1, .int (nI m)), (2, .int (nI i)), (3, .int (nI (2 + 33 * m))), (4, .int (nI (4 * i)))]) [2, 3, 4, 1, 0] rfl ?_
  have L32 : ∀ (fu : Nat) (k : Nat) (g : Nat → Int32), 29 - k < fu → 4 * i ≤ k → k ≤ 28 → (∀ t, 2 + 33 * m + 4 * i ≤ t → t < 2 + 33 * m + k → g t = h1 51 (t + 4)) → (∀ t, (t < 2 + 33 * m + 4 * i ∨ 2 + 33 * m + k ≤ t) → g t = h1 51 t) → T a 20 mX10_drops 32 [(0, rv a 50), (1, .int (nI m)), (2, .int (nI i)), (3, .int (nI (2 + 33 * m))), (4, .int (nI k))] [] S (hs h1 51 g) (fun v S' h' => v = some (.int (nI (lnN P m - 1))) ∧ S = S' ∧ KM h' tx (dropL P m i) (keepP past P) b n f ∧ MF h h') := by
    intro fu
    induction fu with
    | zero => intro k g hu hk1 hk2 hg1 hg2; omega
    | succ fu ih =>
      intro k g hu hk1 hk2 hg1 hg2
      refine tr_iload (pc := 32) 4 dX10_drops_32 rfl ?_
      refine tr_bipush (pc := 34) (v := nI 28) dX10_drops_34 (by decide) ?_
      refine tr_icmp_ge (pc := 36) (tgt := 65) dX10_drops_36 (by decide) (nI_leI (by omega) (by omega)) (fun hb36 => ?_) (fun hb36 => ?_)
      · skip
        refine tr_aload_n (pc := 65) 0 dX10_drops_65 rfl rfl ?_
        refine tr_getR (pc := 66) (q := 51) dX10_drops_66 (hS.1 50 (13, 45) rfl) fi_X10_7 rfl (hS.2 50 0 51 rfl) ?_
        refine tr_iload_n (pc := 69) 3 dX10_drops_69 rfl rfl ?_
        refine tr_iconst (pc := 70) (v := nI 1) dX10_drops_70 (by decide) ?_
        refine tr_isub (pc := 71) (v := nI (1 + 33 * m)) dX10_drops_71 pk_sub1 ?_
        refine tr_dup2 (pc := 72) dX10_drops_72 rfl rfl ?_
        refine tr_iald (pc := 73) (v := nI (lnN P m)) (1 + 33 * m) dX10_drops_73 (hS.1 51 (0, 133) rfl) rfl (by omega) (by decide) (by rw [hs_same, hg2 _ (by omega)]; exact hN1.2.1 m hm) ?_
        refine tr_iconst (pc := 74) (v := nI 1) dX10_drops_74 (by decide) ?_
        refine tr_isub (pc := 75) (v := nI ((lnN P m) - 1)) dX10_drops_75 (pk_sub (by omega)) ?_
        refine tr_iast (pc := 76) (1 + 33 * m) dX10_drops_76 (hS.1 51 (0, 133) rfl) rfl (by omega) (by decide) ?_
        rw [hs_hs, hs_same]
        have hW2 : RW (upd g (1 + 33 * m) (nI (lnN P m - 1))) 0 (dropL P m i) := rw_drop hVB hi (np_rw.1 hN1) (fun t h3 h4 => by rw [upd_n (by omega)]; exact hg1 t h3 (by omega)) upd_s (fun t h3 h4 => by rw [upd_n h4]; exact hg2 t (by omega))
        refine tr_aload_n (pc := 77) 0 dX10_drops_77 rfl rfl ?_
        refine tr_getR (pc := 78) (q := 51) dX10_drops_78 (hS.1 50 (13, 45) rfl) fi_X10_7 rfl (hS.2 50 0 51 rfl) ?_
        refine tr_iload_n (pc := 81) 3 dX10_drops_81 rfl rfl ?_
        refine tr_iconst (pc := 82) (v := nI 1) dX10_drops_82 (by decide) ?_
        refine tr_isub (pc := 83) (v := nI (1 + 33 * m)) dX10_drops_83 pk_sub1 ?_
        refine tr_iald (pc := 84) (v := nI (lnN P m - 1)) (1 + 33 * m) dX10_drops_84 (hS.1 51 (0, 133) rfl) rfl (by omega) (by decide) (by rw [hs_same, upd_s]) ?_
        exact tr_iret (pc := 85) dX10_drops_85 rfl rfl (⟨rfl, rfl, km_now (h := h) hM1 hW2, hF1.hs (by decide)⟩)
      · skip
        refine tr_aload_n (pc := 39) 0 dX10_drops_39 rfl rfl ?_
        refine tr_getR (pc := 40) (q := 51) dX10_drops_40 (hS.1 50 (13, 45) rfl) fi_X10_7 rfl (hS.2 50 0 51 rfl) ?_
        refine tr_iload_n (pc := 43) 3 dX10_drops_43 rfl rfl ?_
        refine tr_iload (pc := 44) 4 dX10_drops_44 rfl ?_
        refine tr_iadd (pc := 46) (v := nI (2 + 33 * m + k)) dX10_drops_46 (nI_add _ _) ?_
        refine tr_aload_n (pc := 47) 0 dX10_drops_47 rfl rfl ?_
        refine tr_getR (pc := 48) (q := 51) dX10_drops_48 (hS.1 50 (13, 45) rfl) fi_X10_7 rfl (hS.2 50 0 51 rfl) ?_
        refine tr_iload_n (pc := 51) 3 dX10_drops_51 rfl rfl ?_
        refine tr_iload (pc := 52) 4 dX10_drops_52 rfl ?_
        refine tr_iadd (pc := 54) (v := nI (2 + 33 * m + k)) dX10_drops_54 (nI_add _ _) ?_
        refine tr_iconst (pc := 55) (v := nI 4) dX10_drops_55 (by decide) ?_
        refine tr_iadd (pc := 56) (v := nI (2 + 33 * m + k + 4)) dX10_drops_56 (nI_add _ _) ?_
        refine tr_iald (pc := 57) (v := h1 51 (2 + 33 * m + k + 4)) (2 + 33 * m + k + 4) dX10_drops_57 (hS.1 51 (0, 133) rfl) rfl (by omega) (by decide) (by rw [hs_same]; exact hg2 _ (by omega)) ?_
        refine tr_iast (pc := 58) (2 + 33 * m + k) dX10_drops_58 (hS.1 51 (0, 133) rfl) rfl (by omega) (by decide) ?_
        refine tr_iinc (pc := 59) (v := nI (k + 1)) (lv' := [(4, .int (nI (k + 1))), (0, rv a 50), (1, .int (nI m)), (2, .int (nI i)), (3, .int (nI (2 + 33 * m)))]) 4 dX10_drops_59 rfl (by rw [show Int32.ofInt 1 = nI 1 from by decide, nI_add]) (by decide) rfl ?_
        refine tr_goto (pc := 62) (tgt := 32) dX10_drops_62 (by decide) ?_
        refine tr_sub (pc := 32) (lv' := [(0, rv a 50), (1, .int (nI m)), (2, .int (nI i)), (3, .int (nI (2 + 33 * m))), (4, .int (nI (k + 1)))]) [1, 2, 3, 4, 0] rfl ?_
        rw [hs_hs, hs_same]
        exact ih (k + 1) (upd g (2 + 33 * m + k) (h1 51 (2 + 33 * m + k + 4))) (by omega) (by omega) (by omega) (fun t h3 h4 => by
          by_cases q : t = 2 + 33 * m + k
          · subst q; exact upd_s
          · rw [upd_n q]; exact hg1 t h3 (by omega)) (fun t ht => by
          rw [upd_n (by omega)]; exact hg2 t (by omega))
  have K := L32 (29 - 4 * i + 1) (4 * i) (h1 51) (by omega) (by omega) (by omega) (fun t h3 h4 => absurd h3 (by omega)) (fun t _ => rfl)
  rw [hs_self] at K
  exact K

set_option maxHeartbeats 4000000 in
set_option maxRecDepth 100000 in
theorem n_swaps_1 {a : Am} {S : St} {h : Hp} (hS : IsSt S) {tx : List Nat} {P : Prog} {past : List Prog} {b n f : Int32} (hM : KM h tx P past b n f) (hv : TV tx) (hVP : VP P) (hpv : ∀ Q ∈ past, VP Q) (hp5 : past.length ≤ 5) {x y : Int32} (hx : outN x P.length) : CT a 20 mX10_swaps [rv a 50, .int x, .int y] S h (fun v S' h' => v = some (.int (-2)) ∧ S = S' ∧ KM h' tx P past (b + nI 1) n f ∧ MF h h') := by
  obtain ⟨hX, hN, ⟨hst, hpa⟩, hrf⟩ := hM
  have hM : KM h tx P past b n f := ⟨hX, hN, ⟨hst, hpa⟩, hrf⟩
  have hVB := hVP.1
  have hV1 := hVB.1
  have hv200 := hv.1
  have hnS := nSt_le hVB
  refine met_of (by decide +kernel) (Nat.le_of_ble_eq_true rfl) ?_
  show T a 20 mX10_swaps 0 [(0, rv a 50), (1, .int x), (2, .int y)] [] S h _
  refine tr_aload_n (pc := 0) 0 dX10_swaps_0 rfl rfl ?_
  refine tr_iload_n (pc := 1) 1 dX10_swaps_1 rfl rfl ?_
  refine tr_iload_n (pc := 2) 2 dX10_swaps_2 rfl rfl ?_
  refine tr_callV (pc := 3) (rest := []) (ci := 10) dX10_swaps_3 ml_X10_171 cv_X10_isLine rfl rfl (Nat.le_of_ble_eq_true rfl) (hS.1 50 (13, 45) rfl) rfl (by decide) (c_misL_o1 hS hVB hN hx) ?_
  rintro _ _ _ ⟨rfl, rfl, rfl⟩
  show T a 20 mX10_swaps 6 [(0, rv a 50), (1, .int x), (2, .int y)] [.int (nI 0)] S h _
  refine tr_if_eq (pc := 6) (tgt := 20) dX10_swaps_6 (by decide) (nI_z_eq (by omega)) (fun _ => ?_) (fun hcc => absurd (by decide) hcc)
  refine tr_aload_n (pc := 20) 0 dX10_swaps_20 rfl rfl ?_
  refine tr_bipush (pc := 21) (v := -2) dX10_swaps_21 (by decide) ?_
  refine tr_callV (pc := 23) (rest := []) (ci := 10) dX10_swaps_23 ml_X10_156 cv_X10_refuse rfl rfl (Nat.le_of_ble_eq_true rfl) (hS.1 50 (13, 45) rfl) rfl (by decide) (c_mref0 hS hM) ?_
  rintro _ _ h9 ⟨rfl, rfl, hM9, hF9⟩
  show T a 20 mX10_swaps 26 [(0, rv a 50), (1, .int x), (2, .int y)] [.int (-2)] S h9 _
  exact tr_iret (pc := 26) dX10_swaps_26 rfl rfl (⟨rfl, rfl, hM9, hF9⟩)

set_option maxHeartbeats 4000000 in
set_option maxRecDepth 100000 in
theorem n_swaps_2 {a : Am} {S : St} {h : Hp} (hS : IsSt S) {tx : List Nat} {P : Prog} {past : List Prog} {b n f : Int32} (hM : KM h tx P past b n f) (hv : TV tx) (hVP : VP P) (hpv : ∀ Q ∈ past, VP Q) (hp5 : past.length ≤ 5) {m : Nat} {y : Int32} (hm : m < P.length) (hy : outN y (lnN P m)) : CT a 20 mX10_swaps [rv a 50, .int (nI m), .int y] S h (fun v S' h' => v = some (.int (-2)) ∧ S = S' ∧ KM h' tx P past (b + nI 1) n f ∧ MF h h') := by
  obtain ⟨hX, hN, ⟨hst, hpa⟩, hrf⟩ := hM
  have hM : KM h tx P past b n f := ⟨hX, hN, ⟨hst, hpa⟩, hrf⟩
  have hVB := hVP.1
  have hV1 := hVB.1
  have hv200 := hv.1
  have hnS := nSt_le hVB
  refine met_of (by decide +kernel) (Nat.le_of_ble_eq_true rfl) ?_
  show T a 20 mX10_swaps 0 [(0, rv a 50), (1, .int (nI m)), (2, .int y)] [] S h _
  refine tr_aload_n (pc := 0) 0 dX10_swaps_0 rfl rfl ?_
  refine tr_iload_n (pc := 1) 1 dX10_swaps_1 rfl rfl ?_
  refine tr_iload_n (pc := 2) 2 dX10_swaps_2 rfl rfl ?_
  refine tr_callV (pc := 3) (rest := []) (ci := 10) dX10_swaps_3 ml_X10_171 cv_X10_isLine rfl rfl (Nat.le_of_ble_eq_true rfl) (hS.1 50 (13, 45) rfl) rfl (by decide) (c_misL_o2 hS hVB hN hm hy) ?_
  rintro _ _ _ ⟨rfl, rfl, rfl⟩
  show T a 20 mX10_swaps 6 [(0, rv a 50), (1, .int (nI m)), (2, .int y)] [.int (nI 0)] S h _
  refine tr_if_eq (pc := 6) (tgt := 20) dX10_swaps_6 (by decide) (nI_z_eq (by omega)) (fun _ => ?_) (fun hcc => absurd (by decide) hcc)
  refine tr_aload_n (pc := 20) 0 dX10_swaps_20 rfl rfl ?_
  refine tr_bipush (pc := 21) (v := -2) dX10_swaps_21 (by decide) ?_
  refine tr_callV (pc := 23) (rest := []) (ci := 10) dX10_swaps_23 ml_X10_156 cv_X10_refuse rfl rfl (Nat.le_of_ble_eq_true rfl) (hS.1 50 (13, 45) rfl) rfl (by decide) (c_mref0 hS hM) ?_
  rintro _ _ h9 ⟨rfl, rfl, hM9, hF9⟩
  show T a 20 mX10_swaps 26 [(0, rv a 50), (1, .int (nI m)), (2, .int y)] [.int (-2)] S h9 _
  exact tr_iret (pc := 26) dX10_swaps_26 rfl rfl (⟨rfl, rfl, hM9, hF9⟩)

set_option maxHeartbeats 4000000 in
set_option maxRecDepth 100000 in
theorem n_swaps_3 {a : Am} {S : St} {h : Hp} (hS : IsSt S) {tx : List Nat} {P : Prog} {past : List Prog} {b n f : Int32} (hM : KM h tx P past b n f) (hv : TV tx) (hVP : VP P) (hpv : ∀ Q ∈ past, VP Q) (hp5 : past.length ≤ 5) {m i : Nat} (hi : i < lnN P m) (hi2 : i + 1 = lnN P m) : CT a 20 mX10_swaps [rv a 50, .int (nI m), .int (nI i)] S h (fun v S' h' => v = some (.int (-2)) ∧ S = S' ∧ KM h' tx P past (b + nI 1) n f ∧ MF h h') := by
  obtain ⟨hX, hN, ⟨hst, hpa⟩, hrf⟩ := hM
  have hM : KM h tx P past b n f := ⟨hX, hN, ⟨hst, hpa⟩, hrf⟩
  have hVB := hVP.1
  have hV1 := hVB.1
  have hv200 := hv.1
  have hnS := nSt_le hVB
  have hm8 := hVB.2.1 m
  refine met_of (by decide +kernel) (Nat.le_of_ble_eq_true rfl) ?_
  show T a 20 mX10_swaps 0 [(0, rv a 50), (1, .int (nI m)), (2, .int (nI i))] [] S h _
  refine tr_aload_n (pc := 0) 0 dX10_swaps_0 rfl rfl ?_
  refine tr_iload_n (pc := 1) 1 dX10_swaps_1 rfl rfl ?_
  refine tr_iload_n (pc := 2) 2 dX10_swaps_2 rfl rfl ?_
  refine tr_callV (pc := 3) (rest := []) (ci := 10) dX10_swaps_3 ml_X10_171 cv_X10_isLine rfl rfl (Nat.le_of_ble_eq_true rfl) (hS.1 50 (13, 45) rfl) rfl (by decide) (c_misL_in hS hVB hN hi) ?_
  rintro _ _ _ ⟨rfl, rfl, rfl⟩
  show T a 20 mX10_swaps 6 [(0, rv a 50), (1, .int (nI m)), (2, .int (nI i))] [.int (nI 1)] S h _
  refine tr_if_eq (pc := 6) (tgt := 20) dX10_swaps_6 (by decide) (nI_z_eq (by omega)) (fun hcc => absurd hcc (by decide)) (fun _ => ?_)
  refine tr_iload_n (pc := 9) 2 dX10_swaps_9 rfl rfl ?_
  refine tr_iconst (pc := 10) (v := nI 1) dX10_swaps_10 (by decide) ?_
  refine tr_iadd (pc := 11) (v := nI (i + 1)) dX10_swaps_11 (nI_add _ _) ?_
  refine tr_aload_n (pc := 12) 0 dX10_swaps_12 rfl rfl ?_
  refine tr_iload_n (pc := 13) 1 dX10_swaps_13 rfl rfl ?_
  refine tr_callV (pc := 14) (rest := [.int (nI (i + 1))]) (ci := 10) dX10_swaps_14 ml_X10_168 cv_X10_linesOf rfl rfl (Nat.le_of_ble_eq_true rfl) (hS.1 50 (13, 45) rfl) rfl (by decide) (c_mlines hS hVB hN (lnN_lt (by omega : i < lnN P m))) ?_
  rintro _ _ _ ⟨rfl, rfl, rfl⟩
  show T a 20 mX10_swaps 17 [(0, rv a 50), (1, .int (nI m)), (2, .int (nI i))] [.int (nI (lnN P m)), .int (nI (i + 1))] S h _
  refine tr_icmp_ne (pc := 17) (tgt := 27) dX10_swaps_17 (by decide) (nI_eq (by omega) (by omega)) (fun hcc => absurd (by omega) hcc) (fun _ => ?_)
  refine tr_aload_n (pc := 20) 0 dX10_swaps_20 rfl rfl ?_
  refine tr_bipush (pc := 21) (v := -2) dX10_swaps_21 (by decide) ?_
  refine tr_callV (pc := 23) (rest := []) (ci := 10) dX10_swaps_23 ml_X10_156 cv_X10_refuse rfl rfl (Nat.le_of_ble_eq_true rfl) (hS.1 50 (13, 45) rfl) rfl (by decide) (c_mref0 hS hM) ?_
  rintro _ _ h9 ⟨rfl, rfl, hM9, hF9⟩
  show T a 20 mX10_swaps 26 [(0, rv a 50), (1, .int (nI m)), (2, .int (nI i))] [.int (-2)] S h9 _
  exact tr_iret (pc := 26) dX10_swaps_26 rfl rfl (⟨rfl, rfl, hM9, hF9⟩)

theorem rw_swap {f g : Nat → Int32} {P : Prog} {m i : Nat} (hV : VB P) (hi : i + 1 < lnN P m) (hR : RW f 0 P) (h1 : ∀ t, 2 + 33 * m + 4 * i ≤ t → t < 2 + 33 * m + 4 * i + 4 → g t = f (t + 4)) (h2 : ∀ t, 2 + 33 * m + 4 * i ≤ t → t < 2 + 33 * m + 4 * i + 4 → g (t + 4) = f t) (h3 : ∀ t, (t < 2 + 33 * m + 4 * i ∨ 2 + 33 * m + 4 * i + 8 ≤ t) → g t = f t) : RW g 0 (swapL P m i) := by
  obtain ⟨v1, v2, v3⟩ := hV
  obtain ⟨r1, r2, r3⟩ := hR
  have hm8 := v2 m
  refine ⟨?_, fun k hk => ?_, fun k j w hk hj hw => ?_⟩
  · rw [h3 0 (by omega), len_swap]; exact r1
  · rw [len_swap] at hk
    rw [lnN_swap hi, h3 _ (by rcases (by omega : k < m ∨ k = m ∨ m < k) with z | z | z <;> omega)]; exact r2 k hk
  · rw [len_swap] at hk
    rw [lnN_swap hi] at hj
    have hk8 := v2 k
    rw [gt_swap hi]
    by_cases e1 : k = m ∧ j = i
    · obtain ⟨rfl, rfl⟩ := e1
      rw [if_pos ⟨rfl, rfl⟩, h1 _ (by omega) (by omega)]
      have := r3 k (j + 1) w hk hi hw
      rw [← this]
      congr 1
      omega
    · rw [if_neg e1]
      by_cases e2 : k = m ∧ j = i + 1
      · obtain ⟨rfl, rfl⟩ := e2
        rw [if_pos ⟨rfl, rfl⟩]
        have q := h2 (2 + 33 * k + 4 * i + w) (by omega) (by omega)
        have := r3 k i w hk (by omega) hw
        rw [Nat.zero_add] at this
        rw [← this, ← q]
        congr 1
        omega
      · rw [if_neg e2, h3 _ (by rcases (by omega : k < m ∨ k = m ∨ m < k) with z | z | z <;> omega)]
        exact r3 k j w hk hj hw
set_option maxHeartbeats 4000000 in
set_option maxRecDepth 100000 in
theorem n_swaps_o {a : Am} {S : St} {h : Hp} (hS : IsSt S) {tx : List Nat} {P : Prog} {past : List Prog} {b n f : Int32} (hM : KM h tx P past b n f) (hv : TV tx) (hVP : VP P) (hpv : ∀ Q ∈ past, VP Q) (hp5 : past.length ≤ 5) {m i : Nat} (hi : i + 1 < lnN P m) : CT a 20 mX10_swaps [rv a 50, .int (nI m), .int (nI i)] S h (fun v S' h' => v = some (.int (nI 1)) ∧ S = S' ∧ KM h' tx (swapL P m i) (keepP past P) b n f ∧ MF h h') := by
  obtain ⟨hX, hN, ⟨hst, hpa⟩, hrf⟩ := hM
  have hM : KM h tx P past b n f := ⟨hX, hN, ⟨hst, hpa⟩, hrf⟩
  have hVB := hVP.1
  have hV1 := hVB.1
  have hv200 := hv.1
  have hnS := nSt_le hVB
  have hm := lnN_lt hi
  have hm8 := hVB.2.1 m
  refine met_of (by decide +kernel) (Nat.le_of_ble_eq_true rfl) ?_
  show T a 20 mX10_swaps 0 [(0, rv a 50), (1, .int (nI m)), (2, .int (nI i))] [] S h _
  refine tr_aload_n (pc := 0) 0 dX10_swaps_0 rfl rfl ?_
  refine tr_iload_n (pc := 1) 1 dX10_swaps_1 rfl rfl ?_
  refine tr_iload_n (pc := 2) 2 dX10_swaps_2 rfl rfl ?_
  refine tr_callV (pc := 3) (rest := []) (ci := 10) dX10_swaps_3 ml_X10_171 cv_X10_isLine rfl rfl (Nat.le_of_ble_eq_true rfl) (hS.1 50 (13, 45) rfl) rfl (by decide) (c_misL_in hS hVB hN (by omega : i < lnN P m)) ?_
  rintro _ _ _ ⟨rfl, rfl, rfl⟩
  show T a 20 mX10_swaps 6 [(0, rv a 50), (1, .int (nI m)), (2, .int (nI i))] [.int (nI 1)] S h _
  refine tr_if_eq (pc := 6) (tgt := 20) dX10_swaps_6 (by decide) (nI_z_eq (by omega)) (fun hcc => absurd hcc (by decide)) (fun _ => ?_)
  refine tr_iload_n (pc := 9) 2 dX10_swaps_9 rfl rfl ?_
  refine tr_iconst (pc := 10) (v := nI 1) dX10_swaps_10 (by decide) ?_
  refine tr_iadd (pc := 11) (v := nI (i + 1)) dX10_swaps_11 (nI_add _ _) ?_
  refine tr_aload_n (pc := 12) 0 dX10_swaps_12 rfl rfl ?_
  refine tr_iload_n (pc := 13) 1 dX10_swaps_13 rfl rfl ?_
  refine tr_callV (pc := 14) (rest := [.int (nI (i + 1))]) (ci := 10) dX10_swaps_14 ml_X10_168 cv_X10_linesOf rfl rfl (Nat.le_of_ble_eq_true rfl) (hS.1 50 (13, 45) rfl) rfl (by decide) (c_mlines hS hVB hN (lnN_lt (by omega : i < lnN P m))) ?_
  rintro _ _ _ ⟨rfl, rfl, rfl⟩
  show T a 20 mX10_swaps 17 [(0, rv a 50), (1, .int (nI m)), (2, .int (nI i))] [.int (nI (lnN P m)), .int (nI (i + 1))] S h _
  refine tr_icmp_ne (pc := 17) (tgt := 27) dX10_swaps_17 (by decide) (nI_eq (by omega) (by omega)) (fun _ => ?_) (fun hcc => absurd hcc (by omega))
  refine tr_aload_n (pc := 27) 0 dX10_swaps_27 rfl rfl ?_
  refine tr_callV (pc := 28) (rest := []) (ci := 10) dX10_swaps_28 ml_X10_162 cv_X10_note rfl rfl (Nat.le_of_ble_eq_true rfl) (hS.1 50 (13, 45) rfl) rfl (by decide) (c_note hS hM hv hVP hpv hp5) ?_
  rintro _ _ h1 ⟨rfl, rfl, hM1, hf1⟩
  have hN1 := hM1.2.1
  have hF1 : MF h h1 := hf1.mf (by decide)
  show T a 20 mX10_swaps 31 [(0, rv a 50), (1, .int (nI m)), (2, .int (nI i))] [] S h1 _
  refine tr_iconst (pc := 31) (v := nI 2) dX10_swaps_31 (by decide) ?_
  refine tr_bipush (pc := 32) (v := nI 33) dX10_swaps_32 (by decide) ?_
  refine tr_iload_n (pc := 34) 1 dX10_swaps_34 rfl rfl ?_
  refine tr_imul (pc := 35) (v := nI (33 * m)) dX10_swaps_35 (pk_mul _ _) ?_
  refine tr_iadd (pc := 36) (v := nI (2 + 33 * m)) dX10_swaps_36 (nI_add _ _) ?_
  refine tr_iconst (pc := 37) (v := nI 4) dX10_swaps_37 (by decide) ?_
  refine tr_iload_n (pc := 38) 2 dX10_swaps_38 rfl rfl ?_
  refine tr_imul (pc := 39) (v := nI (4 * i)) dX10_swaps_39 (pk_mul _ _) ?_
  refine tr_iadd (pc := 40) (v := nI (2 + 33 * m + 4 * i)) dX10_swaps_40 (nI_add _ _) ?_
  refine tr_istore_n (pc := 41) (lv' := [(3, .int (nI (2 + 33 * m + 4 * i))), (0, rv a 50), (1, .int (nI m)), (2, .int (nI i))]) dX10_swaps_41 rfl (by decide) rfl ?_
  refine tr_iconst (pc := 42) (v := nI 0) dX10_swaps_42 (by decide) ?_
  refine tr_istore (pc := 43) (lv' := [(4, .int (nI 0)), (3, .int (nI (2 + 33 * m + 4 * i))), (0, rv a 50), (1, .int (nI m)), (2, .int (nI i))]) dX10_swaps_43 (by decide) rfl ?_
  refine tr_sub (pc := 45) (lv' := [(0, rv a 50), (1, .int (nI m)), (2, .int (nI i)), (3, .int (nI (2 + 33 * m + 4 * i))), (4, .int (nI 0))]) [2, 3, 4, 1, 0] rfl ?_
  have L45 : ∀ (fu : Nat) (k : Nat) (g : Nat → Int32), 5 - k < fu → k ≤ 4 → (∀ t, 2 + 33 * m + 4 * i ≤ t → t < 2 + 33 * m + 4 * i + k → g t = h1 51 (t + 4)) → (∀ t, 2 + 33 * m + 4 * i ≤ t → t < 2 + 33 * m + 4 * i + k → g (t + 4) = h1 51 t) → (∀ t, (t < 2 + 33 * m + 4 * i ∨ (2 + 33 * m + 4 * i + k ≤ t ∧ t < 2 + 33 * m + 4 * i + 4) ∨ 2 + 33 * m + 4 * i + 4 + k ≤ t) → g t = h1 51 t) → T a 20 mX10_swaps 45 [(0, rv a 50), (1, .int (nI m)), (2, .int (nI i)), (3, .int (nI (2 + 33 * m + 4 * i))), (4, .int (nI k))] [] S (hs h1 51 g) (fun v S' h' => v = some (.int (nI 1)) ∧ S = S' ∧ KM h' tx (swapL P m i) (keepP past P) b n f ∧ MF h h') := by
    intro fu
    induction fu with
    | zero => intro k g hu hk2 hg1 hg2 hg3; omega
    | succ fu ih =>
      intro k g hu hk2 hg1 hg2 hg3
      refine tr_iload (pc := 45) 4 dX10_swaps_45 rfl ?_
      refine tr_iconst (pc := 47) (v := nI 4) dX10_swaps_47 (by decide) ?_
      refine tr_icmp_ge (pc := 48) (tgt := 101) dX10_swaps_48 (by decide) (nI_leI (by omega) (by omega)) (fun hb48 => ?_) (fun hb48 => ?_)
      · skip
        refine tr_iconst (pc := 101) (v := nI 1) dX10_swaps_101 (by decide) ?_
        exact tr_iret (pc := 102) dX10_swaps_102 rfl rfl (⟨rfl, rfl, km_now (h := h) hM1 (rw_swap hVB hi (np_rw.1 hN1) (fun t h3 h4 => hg1 t h3 (by omega)) (fun t h3 h4 => hg2 t h3 (by omega)) (fun t h3 => hg3 t (by omega))), hF1.hs (by decide)⟩)
      · skip
        refine tr_aload_n (pc := 51) 0 dX10_swaps_51 rfl rfl ?_
        refine tr_getR (pc := 52) (q := 51) dX10_swaps_52 (hS.1 50 (13, 45) rfl) fi_X10_7 rfl (hS.2 50 0 51 rfl) ?_
        refine tr_iload_n (pc := 55) 3 dX10_swaps_55 rfl rfl ?_
        refine tr_iload (pc := 56) 4 dX10_swaps_56 rfl ?_
        refine tr_iadd (pc := 58) (v := nI (2 + 33 * m + 4 * i + k)) dX10_swaps_58 (nI_add _ _) ?_
        refine tr_iald (pc := 59) (v := h1 51 (2 + 33 * m + 4 * i + k)) (2 + 33 * m + 4 * i + k) dX10_swaps_59 (hS.1 51 (0, 133) rfl) rfl (by omega) (by decide) (by rw [hs_same]; exact hg3 _ (by omega)) ?_
        refine tr_istore (pc := 60) (lv' := [(5, .int (h1 51 (2 + 33 * m + 4 * i + k))), (0, rv a 50), (1, .int (nI m)), (2, .int (nI i)), (3, .int (nI (2 + 33 * m + 4 * i))), (4, .int (nI k))]) dX10_swaps_60 (by decide) rfl ?_
        refine tr_aload_n (pc := 62) 1 dX10_swaps_62 rfl rfl ?_
        refine tr_getR (pc := 63) (q := 51) dX10_swaps_63 (hS.1 50 (13, 45) rfl) fi_X10_7 rfl (hS.2 50 0 51 rfl) ?_
        refine tr_iload_n (pc := 66) 4 dX10_swaps_66 rfl rfl ?_
        refine tr_iload (pc := 67) 5 dX10_swaps_67 rfl ?_
        refine tr_iadd (pc := 69) (v := nI (2 + 33 * m + 4 * i + k)) dX10_swaps_69 (nI_add _ _) ?_
        refine tr_aload_n (pc := 70) 1 dX10_swaps_70 rfl rfl ?_
        refine tr_getR (pc := 71) (q := 51) dX10_swaps_71 (hS.1 50 (13, 45) rfl) fi_X10_7 rfl (hS.2 50 0 51 rfl) ?_
        refine tr_iload_n (pc := 74) 4 dX10_swaps_74 rfl rfl ?_
        refine tr_iload (pc := 75) 5 dX10_swaps_75 rfl ?_
        refine tr_iadd (pc := 77) (v := nI (2 + 33 * m + 4 * i + k)) dX10_swaps_77 (nI_add _ _) ?_
        refine tr_iconst (pc := 78) (v := nI 4) dX10_swaps_78 (by decide) ?_
        refine tr_iadd (pc := 79) (v := nI (2 + 33 * m + 4 * i + k + 4)) dX10_swaps_79 (nI_add _ _) ?_
        refine tr_iald (pc := 80) (v := h1 51 (2 + 33 * m + 4 * i + k + 4)) (2 + 33 * m + 4 * i + k + 4) dX10_swaps_80 (hS.1 51 (0, 133) rfl) rfl (by omega) (by decide) (by rw [hs_same]; exact hg3 _ (by omega)) ?_
        refine tr_iast (pc := 81) (2 + 33 * m + 4 * i + k) dX10_swaps_81 (hS.1 51 (0, 133) rfl) rfl (by omega) (by decide) ?_
        refine tr_aload_n (pc := 82) 1 dX10_swaps_82 rfl rfl ?_
        refine tr_getR (pc := 83) (q := 51) dX10_swaps_83 (hS.1 50 (13, 45) rfl) fi_X10_7 rfl (hS.2 50 0 51 rfl) ?_
        refine tr_iload_n (pc := 86) 4 dX10_swaps_86 rfl rfl ?_
        refine tr_iload (pc := 87) 5 dX10_swaps_87 rfl ?_
        refine tr_iadd (pc := 89) (v := nI (2 + 33 * m + 4 * i + k)) dX10_swaps_89 (nI_add _ _) ?_
        refine tr_iconst (pc := 90) (v := nI 4) dX10_swaps_90 (by decide) ?_
        refine tr_iadd (pc := 91) (v := nI (2 + 33 * m + 4 * i + k + 4)) dX10_swaps_91 (nI_add _ _) ?_
        refine tr_iload (pc := 92) 0 dX10_swaps_92 rfl ?_
        refine tr_iast (pc := 94) (2 + 33 * m + 4 * i + k + 4) dX10_swaps_94 (hS.1 51 (0, 133) rfl) rfl (by omega) (by decide) ?_
        refine tr_iinc (pc := 95) (v := nI (k + 1)) (lv' := [(4, .int (nI (k + 1))), (5, .int (h1 51 (2 + 33 * m + 4 * i + k))), (0, rv a 50), (1, .int (nI m)), (2, .int (nI i)), (3, .int (nI (2 + 33 * m + 4 * i)))]) 5 dX10_swaps_95 rfl (by rw [show Int32.ofInt 1 = nI 1 from by decide, nI_add]) (by decide) rfl ?_
        refine tr_goto (pc := 98) (tgt := 45) dX10_swaps_98 (by decide) ?_
        refine tr_sub (pc := 45) (lv' := [(0, rv a 50), (1, .int (nI m)), (2, .int (nI i)), (3, .int (nI (2 + 33 * m + 4 * i))), (4, .int (nI (k + 1)))]) [2, 3, 4, 5, 0] rfl ?_
        rw [hs_same, hs_hs, hs_same, hs_hs]
        exact ih (k + 1) (upd (upd g (2 + 33 * m + 4 * i + k) (h1 51 (2 + 33 * m + 4 * i + k + 4))) (2 + 33 * m + 4 * i + k + 4) (h1 51 (2 + 33 * m + 4 * i + k))) (by omega) (by omega) (fun t h3 h4 => by
          rw [upd_n (by omega)]
          by_cases q : t = 2 + 33 * m + 4 * i + k
          · subst q; exact upd_s
          · rw [upd_n q]; exact hg1 t h3 (by omega)) (fun t h3 h4 => by
          by_cases q : t = 2 + 33 * m + 4 * i + k
          · subst q; exact upd_s
          · rw [upd_n (by omega), upd_n (by omega)]; exact hg2 t h3 (by omega)) (fun t ht => by
          rw [upd_n (by omega), upd_n (by omega)]; exact hg3 t (by omega))
  have K := L45 6 0 (h1 51) (by omega) (by omega) (fun t h3 h4 => absurd h3 (by omega)) (fun t h3 h4 => absurd h3 (by omega)) (fun t _ => rfl)
  rw [hs_self] at K
  exact K

set_option maxHeartbeats 4000000 in
set_option maxRecDepth 100000 in
theorem n_of_1 {a : Am} {S : St} {h : Hp} (hS : IsSt S) {tx : List Nat} {P : Prog} {past : List Prog} {b n f : Int32} (hM : KM h tx P past b n f) (hv : TV tx) (hVP : VP P) (hpv : ∀ Q ∈ past, VP Q) (hp5 : past.length ≤ 5) {x y : Int32} (hx : outN x P.length) : CT a 20 mX10_of [rv a 50, .int x, .int y] S h (fun v S' h' => v = some (.int (-2)) ∧ S = S' ∧ KM h' tx P past (b + nI 1) n f ∧ MF h h') := by
  obtain ⟨hX, hN, ⟨hst, hpa⟩, hrf⟩ := hM
  have hM : KM h tx P past b n f := ⟨hX, hN, ⟨hst, hpa⟩, hrf⟩
  have hVB := hVP.1
  have hV1 := hVB.1
  have hv200 := hv.1
  have hnS := nSt_le hVB
  refine met_of (by decide +kernel) (Nat.le_of_ble_eq_true rfl) ?_
  show T a 20 mX10_of 0 [(0, rv a 50), (1, .int x), (2, .int y)] [] S h _
  refine tr_aload_n (pc := 0) 0 dX10_of_0 rfl rfl ?_
  refine tr_iload_n (pc := 1) 1 dX10_of_1 rfl rfl ?_
  refine tr_callV (pc := 2) (rest := []) (ci := 10) dX10_of_2 ml_X10_165 cv_X10_isMethod rfl rfl (Nat.le_of_ble_eq_true rfl) (hS.1 50 (13, 45) rfl) rfl (by decide) (c_misM_out hS hVB hN hx) ?_
  rintro _ _ _ ⟨rfl, rfl, rfl⟩
  show T a 20 mX10_of 5 [(0, rv a 50), (1, .int x), (2, .int y)] [.int (nI 0)] S h _
  refine tr_if_eq (pc := 5) (tgt := 17) dX10_of_5 (by decide) (nI_z_eq (by omega)) (fun _ => ?_) (fun hcc => absurd (by decide) hcc)
  refine tr_aload_n (pc := 17) 0 dX10_of_17 rfl rfl ?_
  refine tr_bipush (pc := 18) (v := -2) dX10_of_18 (by decide) ?_
  refine tr_callV (pc := 20) (rest := []) (ci := 10) dX10_of_20 ml_X10_156 cv_X10_refuse rfl rfl (Nat.le_of_ble_eq_true rfl) (hS.1 50 (13, 45) rfl) rfl (by decide) (c_mref0 hS hM) ?_
  rintro _ _ h9 ⟨rfl, rfl, hM9, hF9⟩
  show T a 20 mX10_of 23 [(0, rv a 50), (1, .int x), (2, .int y)] [.int (-2)] S h9 _
  exact tr_iret (pc := 23) dX10_of_23 rfl rfl (⟨rfl, rfl, hM9, hF9⟩)

set_option maxHeartbeats 4000000 in
set_option maxRecDepth 100000 in
theorem n_of_2 {a : Am} {S : St} {h : Hp} (hS : IsSt S) {tx : List Nat} {P : Prog} {past : List Prog} {b n f : Int32} (hM : KM h tx P past b n f) (hv : TV tx) (hVP : VP P) (hpv : ∀ Q ∈ past, VP Q) (hp5 : past.length ≤ 5) {m : Nat} {y : Int32} (hm : m < P.length) (hy : outN y 5) : CT a 20 mX10_of [rv a 50, .int (nI m), .int y] S h (fun v S' h' => v = some (.int (-2)) ∧ S = S' ∧ KM h' tx P past (b + nI 1) n f ∧ MF h h') := by
  obtain ⟨hX, hN, ⟨hst, hpa⟩, hrf⟩ := hM
  have hM : KM h tx P past b n f := ⟨hX, hN, ⟨hst, hpa⟩, hrf⟩
  have hVB := hVP.1
  have hV1 := hVB.1
  have hv200 := hv.1
  have hnS := nSt_le hVB
  refine met_of (by decide +kernel) (Nat.le_of_ble_eq_true rfl) ?_
  show T a 20 mX10_of 0 [(0, rv a 50), (1, .int (nI m)), (2, .int y)] [] S h _
  refine tr_aload_n (pc := 0) 0 dX10_of_0 rfl rfl ?_
  refine tr_iload_n (pc := 1) 1 dX10_of_1 rfl rfl ?_
  refine tr_callV (pc := 2) (rest := []) (ci := 10) dX10_of_2 ml_X10_165 cv_X10_isMethod rfl rfl (Nat.le_of_ble_eq_true rfl) (hS.1 50 (13, 45) rfl) rfl (by decide) (c_misM_in hS hVB hN hm) ?_
  rintro _ _ _ ⟨rfl, rfl, rfl⟩
  show T a 20 mX10_of 5 [(0, rv a 50), (1, .int (nI m)), (2, .int y)] [.int (nI 1)] S h _
  refine tr_if_eq (pc := 5) (tgt := 17) dX10_of_5 (by decide) (nI_z_eq (by omega)) (fun hcc => absurd hcc (by decide)) (fun _ => ?_)
  refine tr_iload_n (pc := 8) 2 dX10_of_8 rfl rfl ?_
  refine tr_iconst (pc := 9) (v := nI 0) dX10_of_9 (by decide) ?_
  refine tr_iconst (pc := 10) (v := nI 4) dX10_of_10 (by decide) ?_
  refine tr_callS (pc := 11) (rest := []) dX10_of_11 ml_X10_99 cs_X10_in rfl rfl (Nat.le_of_ble_eq_true rfl) (by decide) (c_min_out (mo_out (N := 4) hy (by decide))) ?_
  rintro _ _ _ ⟨rfl, rfl, rfl⟩
  show T a 20 mX10_of 14 [(0, rv a 50), (1, .int (nI m)), (2, .int y)] [.int (nI 0)] S h _
  refine tr_if_ne (pc := 14) (tgt := 24) dX10_of_14 (by decide) (nI_z_eq (by omega)) (fun hcc => absurd (by decide) hcc) (fun _ => ?_)
  refine tr_aload_n (pc := 17) 0 dX10_of_17 rfl rfl ?_
  refine tr_bipush (pc := 18) (v := -2) dX10_of_18 (by decide) ?_
  refine tr_callV (pc := 20) (rest := []) (ci := 10) dX10_of_20 ml_X10_156 cv_X10_refuse rfl rfl (Nat.le_of_ble_eq_true rfl) (hS.1 50 (13, 45) rfl) rfl (by decide) (c_mref0 hS hM) ?_
  rintro _ _ h9 ⟨rfl, rfl, hM9, hF9⟩
  show T a 20 mX10_of 23 [(0, rv a 50), (1, .int (nI m)), (2, .int y)] [.int (-2)] S h9 _
  exact tr_iret (pc := 23) dX10_of_23 rfl rfl (⟨rfl, rfl, hM9, hF9⟩)

set_option maxHeartbeats 4000000 in
set_option maxRecDepth 100000 in
theorem n_may_1 {a : Am} {S : St} {h : Hp} (hS : IsSt S) {tx : List Nat} {P : Prog} {past : List Prog} {b n f : Int32} (hM : KM h tx P past b n f) (hv : TV tx) (hVP : VP P) (hpv : ∀ Q ∈ past, VP Q) (hp5 : past.length ≤ 5) {x y : Int32} (hx : outN x P.length) : CT a 20 mX10_may [rv a 50, .int x, .int y] S h (fun v S' h' => v = some (.int (-2)) ∧ S = S' ∧ KM h' tx P past (b + nI 1) n f ∧ MF h h') := by
  obtain ⟨hX, hN, ⟨hst, hpa⟩, hrf⟩ := hM
  have hM : KM h tx P past b n f := ⟨hX, hN, ⟨hst, hpa⟩, hrf⟩
  have hVB := hVP.1
  have hV1 := hVB.1
  have hv200 := hv.1
  have hnS := nSt_le hVB
  refine met_of (by decide +kernel) (Nat.le_of_ble_eq_true rfl) ?_
  show T a 20 mX10_may 0 [(0, rv a 50), (1, .int x), (2, .int y)] [] S h _
  refine tr_aload_n (pc := 0) 0 dX10_may_0 rfl rfl ?_
  refine tr_iload_n (pc := 1) 1 dX10_may_1 rfl rfl ?_
  refine tr_callV (pc := 2) (rest := []) (ci := 10) dX10_may_2 ml_X10_165 cv_X10_isMethod rfl rfl (Nat.le_of_ble_eq_true rfl) (hS.1 50 (13, 45) rfl) rfl (by decide) (c_misM_out hS hVB hN hx) ?_
  rintro _ _ _ ⟨rfl, rfl, rfl⟩
  show T a 20 mX10_may 5 [(0, rv a 50), (1, .int x), (2, .int y)] [.int (nI 0)] S h _
  refine tr_if_eq (pc := 5) (tgt := 17) dX10_may_5 (by decide) (nI_z_eq (by omega)) (fun _ => ?_) (fun hcc => absurd (by decide) hcc)
  refine tr_aload_n (pc := 17) 0 dX10_may_17 rfl rfl ?_
  refine tr_bipush (pc := 18) (v := -2) dX10_may_18 (by decide) ?_
  refine tr_callV (pc := 20) (rest := []) (ci := 10) dX10_may_20 ml_X10_156 cv_X10_refuse rfl rfl (Nat.le_of_ble_eq_true rfl) (hS.1 50 (13, 45) rfl) rfl (by decide) (c_mref0 hS hM) ?_
  rintro _ _ h9 ⟨rfl, rfl, hM9, hF9⟩
  show T a 20 mX10_may 23 [(0, rv a 50), (1, .int x), (2, .int y)] [.int (-2)] S h9 _
  exact tr_iret (pc := 23) dX10_may_23 rfl rfl (⟨rfl, rfl, hM9, hF9⟩)

set_option maxHeartbeats 4000000 in
set_option maxRecDepth 100000 in
theorem n_may_2 {a : Am} {S : St} {h : Hp} (hS : IsSt S) {tx : List Nat} {P : Prog} {past : List Prog} {b n f : Int32} (hM : KM h tx P past b n f) (hv : TV tx) (hVP : VP P) (hpv : ∀ Q ∈ past, VP Q) (hp5 : past.length ≤ 5) {m : Nat} {y : Int32} (hm : m < P.length) (hy : outN y 4) : CT a 20 mX10_may [rv a 50, .int (nI m), .int y] S h (fun v S' h' => v = some (.int (-2)) ∧ S = S' ∧ KM h' tx P past (b + nI 1) n f ∧ MF h h') := by
  obtain ⟨hX, hN, ⟨hst, hpa⟩, hrf⟩ := hM
  have hM : KM h tx P past b n f := ⟨hX, hN, ⟨hst, hpa⟩, hrf⟩
  have hVB := hVP.1
  have hV1 := hVB.1
  have hv200 := hv.1
  have hnS := nSt_le hVB
  refine met_of (by decide +kernel) (Nat.le_of_ble_eq_true rfl) ?_
  show T a 20 mX10_may 0 [(0, rv a 50), (1, .int (nI m)), (2, .int y)] [] S h _
  refine tr_aload_n (pc := 0) 0 dX10_may_0 rfl rfl ?_
  refine tr_iload_n (pc := 1) 1 dX10_may_1 rfl rfl ?_
  refine tr_callV (pc := 2) (rest := []) (ci := 10) dX10_may_2 ml_X10_165 cv_X10_isMethod rfl rfl (Nat.le_of_ble_eq_true rfl) (hS.1 50 (13, 45) rfl) rfl (by decide) (c_misM_in hS hVB hN hm) ?_
  rintro _ _ _ ⟨rfl, rfl, rfl⟩
  show T a 20 mX10_may 5 [(0, rv a 50), (1, .int (nI m)), (2, .int y)] [.int (nI 1)] S h _
  refine tr_if_eq (pc := 5) (tgt := 17) dX10_may_5 (by decide) (nI_z_eq (by omega)) (fun hcc => absurd hcc (by decide)) (fun _ => ?_)
  refine tr_iload_n (pc := 8) 2 dX10_may_8 rfl rfl ?_
  refine tr_iconst (pc := 9) (v := nI 0) dX10_may_9 (by decide) ?_
  refine tr_iconst (pc := 10) (v := nI 3) dX10_may_10 (by decide) ?_
  refine tr_callS (pc := 11) (rest := []) dX10_may_11 ml_X10_99 cs_X10_in rfl rfl (Nat.le_of_ble_eq_true rfl) (by decide) (c_min_out (mo_out (N := 3) hy (by decide))) ?_
  rintro _ _ _ ⟨rfl, rfl, rfl⟩
  show T a 20 mX10_may 14 [(0, rv a 50), (1, .int (nI m)), (2, .int y)] [.int (nI 0)] S h _
  refine tr_if_ne (pc := 14) (tgt := 24) dX10_may_14 (by decide) (nI_z_eq (by omega)) (fun hcc => absurd (by decide) hcc) (fun _ => ?_)
  refine tr_aload_n (pc := 17) 0 dX10_may_17 rfl rfl ?_
  refine tr_bipush (pc := 18) (v := -2) dX10_may_18 (by decide) ?_
  refine tr_callV (pc := 20) (rest := []) (ci := 10) dX10_may_20 ml_X10_156 cv_X10_refuse rfl rfl (Nat.le_of_ble_eq_true rfl) (hS.1 50 (13, 45) rfl) rfl (by decide) (c_mref0 hS hM) ?_
  rintro _ _ h9 ⟨rfl, rfl, hM9, hF9⟩
  show T a 20 mX10_may 23 [(0, rv a 50), (1, .int (nI m)), (2, .int y)] [.int (-2)] S h9 _
  exact tr_iret (pc := 23) dX10_may_23 rfl rfl (⟨rfl, rfl, hM9, hF9⟩)

set_option maxHeartbeats 4000000 in
set_option maxRecDepth 100000 in
theorem n_reached_1 {a : Am} {S : St} {h : Hp} (hS : IsSt S) {tx : List Nat} {P : Prog} {past : List Prog} {b n f : Int32} (hM : KM h tx P past b n f) (hv : TV tx) (hVP : VP P) (hpv : ∀ Q ∈ past, VP Q) (hp5 : past.length ≤ 5) {x y : Int32} (hx : outN x P.length) : CT a 20 mX10_reached [rv a 50, .int x, .int y] S h (fun v S' h' => v = some (.int (-2)) ∧ S = S' ∧ KM h' tx P past (b + nI 1) n f ∧ MF h h') := by
  obtain ⟨hX, hN, ⟨hst, hpa⟩, hrf⟩ := hM
  have hM : KM h tx P past b n f := ⟨hX, hN, ⟨hst, hpa⟩, hrf⟩
  have hVB := hVP.1
  have hV1 := hVB.1
  have hv200 := hv.1
  have hnS := nSt_le hVB
  refine met_of (by decide +kernel) (Nat.le_of_ble_eq_true rfl) ?_
  show T a 20 mX10_reached 0 [(0, rv a 50), (1, .int x), (2, .int y)] [] S h _
  refine tr_aload_n (pc := 0) 0 dX10_reached_0 rfl rfl ?_
  refine tr_iload_n (pc := 1) 1 dX10_reached_1 rfl rfl ?_
  refine tr_callV (pc := 2) (rest := []) (ci := 10) dX10_reached_2 ml_X10_165 cv_X10_isMethod rfl rfl (Nat.le_of_ble_eq_true rfl) (hS.1 50 (13, 45) rfl) rfl (by decide) (c_misM_out hS hVB hN hx) ?_
  rintro _ _ _ ⟨rfl, rfl, rfl⟩
  show T a 20 mX10_reached 5 [(0, rv a 50), (1, .int x), (2, .int y)] [.int (nI 0)] S h _
  refine tr_if_eq (pc := 5) (tgt := 17) dX10_reached_5 (by decide) (nI_z_eq (by omega)) (fun _ => ?_) (fun hcc => absurd (by decide) hcc)
  refine tr_aload_n (pc := 17) 0 dX10_reached_17 rfl rfl ?_
  refine tr_bipush (pc := 18) (v := -2) dX10_reached_18 (by decide) ?_
  refine tr_callV (pc := 20) (rest := []) (ci := 10) dX10_reached_20 ml_X10_156 cv_X10_refuse rfl rfl (Nat.le_of_ble_eq_true rfl) (hS.1 50 (13, 45) rfl) rfl (by decide) (c_mref0 hS hM) ?_
  rintro _ _ h9 ⟨rfl, rfl, hM9, hF9⟩
  show T a 20 mX10_reached 23 [(0, rv a 50), (1, .int x), (2, .int y)] [.int (-2)] S h9 _
  exact tr_iret (pc := 23) dX10_reached_23 rfl rfl (⟨rfl, rfl, hM9, hF9⟩)

set_option maxHeartbeats 4000000 in
set_option maxRecDepth 100000 in
theorem n_reached_2 {a : Am} {S : St} {h : Hp} (hS : IsSt S) {tx : List Nat} {P : Prog} {past : List Prog} {b n f : Int32} (hM : KM h tx P past b n f) (hv : TV tx) (hVP : VP P) (hpv : ∀ Q ∈ past, VP Q) (hp5 : past.length ≤ 5) {m : Nat} {y : Int32} (hm : m < P.length) (hy : outN y 4) : CT a 20 mX10_reached [rv a 50, .int (nI m), .int y] S h (fun v S' h' => v = some (.int (-2)) ∧ S = S' ∧ KM h' tx P past (b + nI 1) n f ∧ MF h h') := by
  obtain ⟨hX, hN, ⟨hst, hpa⟩, hrf⟩ := hM
  have hM : KM h tx P past b n f := ⟨hX, hN, ⟨hst, hpa⟩, hrf⟩
  have hVB := hVP.1
  have hV1 := hVB.1
  have hv200 := hv.1
  have hnS := nSt_le hVB
  refine met_of (by decide +kernel) (Nat.le_of_ble_eq_true rfl) ?_
  show T a 20 mX10_reached 0 [(0, rv a 50), (1, .int (nI m)), (2, .int y)] [] S h _
  refine tr_aload_n (pc := 0) 0 dX10_reached_0 rfl rfl ?_
  refine tr_iload_n (pc := 1) 1 dX10_reached_1 rfl rfl ?_
  refine tr_callV (pc := 2) (rest := []) (ci := 10) dX10_reached_2 ml_X10_165 cv_X10_isMethod rfl rfl (Nat.le_of_ble_eq_true rfl) (hS.1 50 (13, 45) rfl) rfl (by decide) (c_misM_in hS hVB hN hm) ?_
  rintro _ _ _ ⟨rfl, rfl, rfl⟩
  show T a 20 mX10_reached 5 [(0, rv a 50), (1, .int (nI m)), (2, .int y)] [.int (nI 1)] S h _
  refine tr_if_eq (pc := 5) (tgt := 17) dX10_reached_5 (by decide) (nI_z_eq (by omega)) (fun hcc => absurd hcc (by decide)) (fun _ => ?_)
  refine tr_iload_n (pc := 8) 2 dX10_reached_8 rfl rfl ?_
  refine tr_iconst (pc := 9) (v := nI 0) dX10_reached_9 (by decide) ?_
  refine tr_iconst (pc := 10) (v := nI 3) dX10_reached_10 (by decide) ?_
  refine tr_callS (pc := 11) (rest := []) dX10_reached_11 ml_X10_99 cs_X10_in rfl rfl (Nat.le_of_ble_eq_true rfl) (by decide) (c_min_out (mo_out (N := 3) hy (by decide))) ?_
  rintro _ _ _ ⟨rfl, rfl, rfl⟩
  show T a 20 mX10_reached 14 [(0, rv a 50), (1, .int (nI m)), (2, .int y)] [.int (nI 0)] S h _
  refine tr_if_ne (pc := 14) (tgt := 24) dX10_reached_14 (by decide) (nI_z_eq (by omega)) (fun hcc => absurd (by decide) hcc) (fun _ => ?_)
  refine tr_aload_n (pc := 17) 0 dX10_reached_17 rfl rfl ?_
  refine tr_bipush (pc := 18) (v := -2) dX10_reached_18 (by decide) ?_
  refine tr_callV (pc := 20) (rest := []) (ci := 10) dX10_reached_20 ml_X10_156 cv_X10_refuse rfl rfl (Nat.le_of_ble_eq_true rfl) (hS.1 50 (13, 45) rfl) rfl (by decide) (c_mref0 hS hM) ?_
  rintro _ _ h9 ⟨rfl, rfl, hM9, hF9⟩
  show T a 20 mX10_reached 23 [(0, rv a 50), (1, .int (nI m)), (2, .int y)] [.int (-2)] S h9 _
  exact tr_iret (pc := 23) dX10_reached_23 rfl rfl (⟨rfl, rfl, hM9, hF9⟩)

set_option maxHeartbeats 4000000 in
set_option maxRecDepth 100000 in
theorem n_of_o {a : Am} {S : St} {h : Hp} (hS : IsSt S) {tx : List Nat} {P : Prog} {past : List Prog} {b n f : Int32} (hM : KM h tx P past b n f) (hv : TV tx) (hVP : VP P) (hpv : ∀ Q ∈ past, VP Q) (hp5 : past.length ≤ 5) {m w : Nat} (hm : m < P.length) (hw : w < 5) : CT a 20 mX10_of [rv a 50, .int (nI m), .int (nI w)] S h (fun v S' h' => v = some (.int (aOf P m w)) ∧ S = S' ∧ KM h' tx P past b n f ∧ MF h h') := by
  obtain ⟨hX, hN, ⟨hst, hpa⟩, hrf⟩ := hM
  have hM : KM h tx P past b n f := ⟨hX, hN, ⟨hst, hpa⟩, hrf⟩
  have hVB := hVP.1
  have hV1 := hVB.1
  have hv200 := hv.1
  have hnS := nSt_le hVB
  refine met_of (by decide +kernel) (Nat.le_of_ble_eq_true rfl) ?_
  show T a 20 mX10_of 0 [(0, rv a 50), (1, .int (nI m)), (2, .int (nI w))] [] S h _
  refine tr_aload_n (pc := 0) 0 dX10_of_0 rfl rfl ?_
  refine tr_iload_n (pc := 1) 1 dX10_of_1 rfl rfl ?_
  refine tr_callV (pc := 2) (rest := []) (ci := 10) dX10_of_2 ml_X10_165 cv_X10_isMethod rfl rfl (Nat.le_of_ble_eq_true rfl) (hS.1 50 (13, 45) rfl) rfl (by decide) (c_misM_in hS hVB hN hm) ?_
  rintro _ _ _ ⟨rfl, rfl, rfl⟩
  show T a 20 mX10_of 5 [(0, rv a 50), (1, .int (nI m)), (2, .int (nI w))] [.int (nI 1)] S h _
  refine tr_if_eq (pc := 5) (tgt := 17) dX10_of_5 (by decide) (nI_z_eq (by omega)) (fun hcc => absurd hcc (by decide)) (fun _ => ?_)
  refine tr_iload_n (pc := 8) 2 dX10_of_8 rfl rfl ?_
  refine tr_iconst (pc := 9) (v := nI 0) dX10_of_9 (by decide) ?_
  refine tr_iconst (pc := 10) (v := nI 4) dX10_of_10 (by decide) ?_
  refine tr_callS (pc := 11) (rest := []) dX10_of_11 ml_X10_99 cs_X10_in rfl rfl (Nat.le_of_ble_eq_true rfl) (by decide) (c_min_in (mo_in (N := 4) (by omega) (by decide)).1 (mo_in (N := 4) (by omega) (by decide)).2) ?_
  rintro _ _ _ ⟨rfl, rfl, rfl⟩
  show T a 20 mX10_of 14 [(0, rv a 50), (1, .int (nI m)), (2, .int (nI w))] [.int (nI 1)] S h _
  refine tr_if_ne (pc := 14) (tgt := 24) dX10_of_14 (by decide) (nI_z_eq (by omega)) (fun _ => ?_) (fun hcc => absurd hcc (by decide))
  refine tr_aload_n (pc := 24) 0 dX10_of_24 rfl rfl ?_
  refine tr_callV (pc := 25) (rest := []) (ci := 10) dX10_of_25 ml_X10_214 cv_X10_findMays rfl rfl (Nat.le_of_ble_eq_true rfl) (hS.1 50 (13, 45) rfl) rfl (by decide) (c_mfindMays hS hVP hN) ?_
  rintro _ _ h1 ⟨rfl, rfl, hSN1, hMN1, hf1⟩
  have hM1 := hM.q hf1 (by decide) (by decide) (by decide) (by decide) (by decide) (by decide)
  have hN1 := hM1.2.1
  have hF1 : MF h h1 := hf1.mf (by decide)
  show T a 20 mX10_of 28 [(0, rv a 50), (1, .int (nI m)), (2, .int (nI w))] [] S h1 _
  refine tr_aload_n (pc := 28) 0 dX10_of_28 rfl rfl ?_
  refine tr_iload_n (pc := 29) 1 dX10_of_29 rfl rfl ?_
  refine tr_iload_n (pc := 30) 2 dX10_of_30 rfl rfl ?_
  refine tr_callV (pc := 31) (rest := []) (ci := 10) dX10_of_31 ml_X10_217 cv_X10_ofMethod rfl rfl (Nat.le_of_ble_eq_true rfl) (hS.1 50 (13, 45) rfl) rfl (by decide) (c_mofA hS hVB hN1 hSN1 hMN1 hm hw) ?_
  rintro _ _ _ ⟨rfl, rfl, rfl⟩
  show T a 20 mX10_of 34 [(0, rv a 50), (1, .int (nI m)), (2, .int (nI w))] [.int (aOf P m w)] S h1 _
  exact tr_iret (pc := 34) dX10_of_34 rfl rfl (⟨rfl, rfl, hM1, hF1⟩)

set_option maxHeartbeats 4000000 in
set_option maxRecDepth 100000 in
theorem n_may_o {a : Am} {S : St} {h : Hp} (hS : IsSt S) {tx : List Nat} {P : Prog} {past : List Prog} {b n f : Int32} (hM : KM h tx P past b n f) (hv : TV tx) (hVP : VP P) (hpv : ∀ Q ∈ past, VP Q) (hp5 : past.length ≤ 5) {m w : Nat} (hm : m < P.length) (hw : w < 4) : CT a 20 mX10_may [rv a 50, .int (nI m), .int (nI w)] S h (fun v S' h' => v = some (.int (mayV P (4 * m + w))) ∧ S = S' ∧ KM h' tx P past b n f ∧ MF h h') := by
  obtain ⟨hX, hN, ⟨hst, hpa⟩, hrf⟩ := hM
  have hM : KM h tx P past b n f := ⟨hX, hN, ⟨hst, hpa⟩, hrf⟩
  have hVB := hVP.1
  have hV1 := hVB.1
  have hv200 := hv.1
  have hnS := nSt_le hVB
  refine met_of (by decide +kernel) (Nat.le_of_ble_eq_true rfl) ?_
  show T a 20 mX10_may 0 [(0, rv a 50), (1, .int (nI m)), (2, .int (nI w))] [] S h _
  refine tr_aload_n (pc := 0) 0 dX10_may_0 rfl rfl ?_
  refine tr_iload_n (pc := 1) 1 dX10_may_1 rfl rfl ?_
  refine tr_callV (pc := 2) (rest := []) (ci := 10) dX10_may_2 ml_X10_165 cv_X10_isMethod rfl rfl (Nat.le_of_ble_eq_true rfl) (hS.1 50 (13, 45) rfl) rfl (by decide) (c_misM_in hS hVB hN hm) ?_
  rintro _ _ _ ⟨rfl, rfl, rfl⟩
  show T a 20 mX10_may 5 [(0, rv a 50), (1, .int (nI m)), (2, .int (nI w))] [.int (nI 1)] S h _
  refine tr_if_eq (pc := 5) (tgt := 17) dX10_may_5 (by decide) (nI_z_eq (by omega)) (fun hcc => absurd hcc (by decide)) (fun _ => ?_)
  refine tr_iload_n (pc := 8) 2 dX10_may_8 rfl rfl ?_
  refine tr_iconst (pc := 9) (v := nI 0) dX10_may_9 (by decide) ?_
  refine tr_iconst (pc := 10) (v := nI 3) dX10_may_10 (by decide) ?_
  refine tr_callS (pc := 11) (rest := []) dX10_may_11 ml_X10_99 cs_X10_in rfl rfl (Nat.le_of_ble_eq_true rfl) (by decide) (c_min_in (mo_in (N := 3) (by omega) (by decide)).1 (mo_in (N := 3) (by omega) (by decide)).2) ?_
  rintro _ _ _ ⟨rfl, rfl, rfl⟩
  show T a 20 mX10_may 14 [(0, rv a 50), (1, .int (nI m)), (2, .int (nI w))] [.int (nI 1)] S h _
  refine tr_if_ne (pc := 14) (tgt := 24) dX10_may_14 (by decide) (nI_z_eq (by omega)) (fun _ => ?_) (fun hcc => absurd hcc (by decide))
  refine tr_aload_n (pc := 24) 0 dX10_may_24 rfl rfl ?_
  refine tr_callV (pc := 25) (rest := []) (ci := 10) dX10_may_25 ml_X10_214 cv_X10_findMays rfl rfl (Nat.le_of_ble_eq_true rfl) (hS.1 50 (13, 45) rfl) rfl (by decide) (c_mfindMays hS hVP hN) ?_
  rintro _ _ h1 ⟨rfl, rfl, hSN1, hMN1, hf1⟩
  have hM1 := hM.q hf1 (by decide) (by decide) (by decide) (by decide) (by decide) (by decide)
  have hN1 := hM1.2.1
  have hF1 : MF h h1 := hf1.mf (by decide)
  show T a 20 mX10_may 28 [(0, rv a 50), (1, .int (nI m)), (2, .int (nI w))] [] S h1 _
  refine tr_aload_n (pc := 28) 0 dX10_may_28 rfl rfl ?_
  refine tr_getR (pc := 29) (q := 61) dX10_may_29 (hS.1 50 (13, 45) rfl) fi_X10_40 rfl (hS.2 50 21 61 rfl) ?_
  refine tr_iconst (pc := 32) (v := nI 4) dX10_may_32 (by decide) ?_
  refine tr_iload_n (pc := 33) 1 dX10_may_33 rfl rfl ?_
  refine tr_imul (pc := 34) (v := nI (4 * m)) dX10_may_34 (pk_mul _ _) ?_
  refine tr_iload_n (pc := 35) 2 dX10_may_35 rfl rfl ?_
  refine tr_iadd (pc := 36) (v := nI (4 * m + w)) dX10_may_36 (nI_add _ _) ?_
  refine tr_iald (pc := 37) (v := mayV P (4 * m + w)) (4 * m + w) dX10_may_37 (hS.1 61 (0, 49) rfl) rfl (by omega) (by decide) (hMN1.1 _ (by omega)) ?_
  exact tr_iret (pc := 38) dX10_may_38 rfl rfl (⟨rfl, rfl, hM1, hF1⟩)

set_option maxHeartbeats 4000000 in
set_option maxRecDepth 100000 in
theorem n_reached_o {a : Am} {S : St} {h : Hp} (hS : IsSt S) {tx : List Nat} {P : Prog} {past : List Prog} {b n f : Int32} (hM : KM h tx P past b n f) (hv : TV tx) (hVP : VP P) (hpv : ∀ Q ∈ past, VP Q) (hp5 : past.length ≤ 5) {m w : Nat} (hm : m < P.length) (hw : w < 4) : CT a 20 mX10_reached [rv a 50, .int (nI m), .int (nI w)] S h (fun v S' h' => v = some (.int (rch (mayV P) (nSt P) (mayV P (4 * m + w)))) ∧ S = S' ∧ KM h' tx P past b n f ∧ MF h h') := by
  obtain ⟨hX, hN, ⟨hst, hpa⟩, hrf⟩ := hM
  have hM : KM h tx P past b n f := ⟨hX, hN, ⟨hst, hpa⟩, hrf⟩
  have hVB := hVP.1
  have hV1 := hVB.1
  have hv200 := hv.1
  have hnS := nSt_le hVB
  refine met_of (by decide +kernel) (Nat.le_of_ble_eq_true rfl) ?_
  show T a 20 mX10_reached 0 [(0, rv a 50), (1, .int (nI m)), (2, .int (nI w))] [] S h _
  refine tr_aload_n (pc := 0) 0 dX10_reached_0 rfl rfl ?_
  refine tr_iload_n (pc := 1) 1 dX10_reached_1 rfl rfl ?_
  refine tr_callV (pc := 2) (rest := []) (ci := 10) dX10_reached_2 ml_X10_165 cv_X10_isMethod rfl rfl (Nat.le_of_ble_eq_true rfl) (hS.1 50 (13, 45) rfl) rfl (by decide) (c_misM_in hS hVB hN hm) ?_
  rintro _ _ _ ⟨rfl, rfl, rfl⟩
  show T a 20 mX10_reached 5 [(0, rv a 50), (1, .int (nI m)), (2, .int (nI w))] [.int (nI 1)] S h _
  refine tr_if_eq (pc := 5) (tgt := 17) dX10_reached_5 (by decide) (nI_z_eq (by omega)) (fun hcc => absurd hcc (by decide)) (fun _ => ?_)
  refine tr_iload_n (pc := 8) 2 dX10_reached_8 rfl rfl ?_
  refine tr_iconst (pc := 9) (v := nI 0) dX10_reached_9 (by decide) ?_
  refine tr_iconst (pc := 10) (v := nI 3) dX10_reached_10 (by decide) ?_
  refine tr_callS (pc := 11) (rest := []) dX10_reached_11 ml_X10_99 cs_X10_in rfl rfl (Nat.le_of_ble_eq_true rfl) (by decide) (c_min_in (mo_in (N := 3) (by omega) (by decide)).1 (mo_in (N := 3) (by omega) (by decide)).2) ?_
  rintro _ _ _ ⟨rfl, rfl, rfl⟩
  show T a 20 mX10_reached 14 [(0, rv a 50), (1, .int (nI m)), (2, .int (nI w))] [.int (nI 1)] S h _
  refine tr_if_ne (pc := 14) (tgt := 24) dX10_reached_14 (by decide) (nI_z_eq (by omega)) (fun _ => ?_) (fun hcc => absurd hcc (by decide))
  refine tr_aload_n (pc := 24) 0 dX10_reached_24 rfl rfl ?_
  refine tr_callV (pc := 25) (rest := []) (ci := 10) dX10_reached_25 ml_X10_214 cv_X10_findMays rfl rfl (Nat.le_of_ble_eq_true rfl) (hS.1 50 (13, 45) rfl) rfl (by decide) (c_mfindMays hS hVP hN) ?_
  rintro _ _ h1 ⟨rfl, rfl, hSN1, hMN1, hf1⟩
  have hM1 := hM.q hf1 (by decide) (by decide) (by decide) (by decide) (by decide) (by decide)
  have hN1 := hM1.2.1
  have hF1 : MF h h1 := hf1.mf (by decide)
  show T a 20 mX10_reached 28 [(0, rv a 50), (1, .int (nI m)), (2, .int (nI w))] [] S h1 _
  refine tr_aload_n (pc := 28) 0 dX10_reached_28 rfl rfl ?_
  refine tr_aload_n (pc := 29) 0 dX10_reached_29 rfl rfl ?_
  refine tr_getR (pc := 30) (q := 61) dX10_reached_30 (hS.1 50 (13, 45) rfl) fi_X10_40 rfl (hS.2 50 21 61 rfl) ?_
  refine tr_iconst (pc := 33) (v := nI 4) dX10_reached_33 (by decide) ?_
  refine tr_iload_n (pc := 34) 1 dX10_reached_34 rfl rfl ?_
  refine tr_imul (pc := 35) (v := nI (4 * m)) dX10_reached_35 (pk_mul _ _) ?_
  refine tr_iload_n (pc := 36) 2 dX10_reached_36 rfl rfl ?_
  refine tr_iadd (pc := 37) (v := nI (4 * m + w)) dX10_reached_37 (nI_add _ _) ?_
  refine tr_iald (pc := 38) (v := mayV P (4 * m + w)) (4 * m + w) dX10_reached_38 (hS.1 61 (0, 49) rfl) rfl (by omega) (by decide) (hMN1.1 _ (by omega)) ?_
  refine tr_callV (pc := 39) (rest := []) (ci := 10) dX10_reached_39 ml_X10_202 cv_X10_reachedFrom rfl rfl (Nat.le_of_ble_eq_true rfl) (hS.1 50 (13, 45) rfl) rfl (by decide) (c_mreach hS hVB hSN1 hMN1) ?_
  rintro _ _ _ ⟨rfl, rfl, rfl⟩
  show T a 20 mX10_reached 42 [(0, rv a 50), (1, .int (nI m)), (2, .int (nI w))] [.int (rch (mayV P) (nSt P) (mayV P (4 * m + w)))] S h1 _
  exact tr_iret (pc := 42) dX10_reached_42 rfl rfl (⟨rfl, rfl, hM1, hF1⟩)

set_option maxHeartbeats 4000000 in
set_option maxRecDepth 100000 in
theorem n_line_1 {a : Am} {S : St} {h : Hp} (hS : IsSt S) {tx : List Nat} {P : Prog} {past : List Prog} {b n f : Int32} (hM : KM h tx P past b n f) (hv : TV tx) (hVP : VP P) (hpv : ∀ Q ∈ past, VP Q) (hp5 : past.length ≤ 5) {x y z : Int32} (hx : outN x P.length) : CT a 20 mX10_line [rv a 50, .int x, .int y, .int z] S h (fun v S' h' => v = some (.int (-2)) ∧ S = S' ∧ KM h' tx P past (b + nI 1) n f ∧ MF h h') := by
  obtain ⟨hX, hN, ⟨hst, hpa⟩, hrf⟩ := hM
  have hM : KM h tx P past b n f := ⟨hX, hN, ⟨hst, hpa⟩, hrf⟩
  have hVB := hVP.1
  have hV1 := hVB.1
  have hv200 := hv.1
  have hnS := nSt_le hVB
  refine met_of (by decide +kernel) (Nat.le_of_ble_eq_true rfl) ?_
  show T a 20 mX10_line 0 [(0, rv a 50), (1, .int x), (2, .int y), (3, .int z)] [] S h _
  refine tr_aload_n (pc := 0) 0 dX10_line_0 rfl rfl ?_
  refine tr_iload_n (pc := 1) 1 dX10_line_1 rfl rfl ?_
  refine tr_iload_n (pc := 2) 2 dX10_line_2 rfl rfl ?_
  refine tr_callV (pc := 3) (rest := []) (ci := 10) dX10_line_3 ml_X10_171 cv_X10_isLine rfl rfl (Nat.le_of_ble_eq_true rfl) (hS.1 50 (13, 45) rfl) rfl (by decide) (c_misL_o1 hS hVB hN hx) ?_
  rintro _ _ _ ⟨rfl, rfl, rfl⟩
  show T a 20 mX10_line 6 [(0, rv a 50), (1, .int x), (2, .int y), (3, .int z)] [.int (nI 0)] S h _
  refine tr_if_eq (pc := 6) (tgt := 18) dX10_line_6 (by decide) (nI_z_eq (by omega)) (fun _ => ?_) (fun hcc => absurd (by decide) hcc)
  refine tr_aload_n (pc := 18) 0 dX10_line_18 rfl rfl ?_
  refine tr_bipush (pc := 19) (v := -2) dX10_line_19 (by decide) ?_
  refine tr_callV (pc := 21) (rest := []) (ci := 10) dX10_line_21 ml_X10_156 cv_X10_refuse rfl rfl (Nat.le_of_ble_eq_true rfl) (hS.1 50 (13, 45) rfl) rfl (by decide) (c_mref0 hS hM) ?_
  rintro _ _ h9 ⟨rfl, rfl, hM9, hF9⟩
  show T a 20 mX10_line 24 [(0, rv a 50), (1, .int x), (2, .int y), (3, .int z)] [.int (-2)] S h9 _
  exact tr_iret (pc := 24) dX10_line_24 rfl rfl (⟨rfl, rfl, hM9, hF9⟩)

set_option maxHeartbeats 4000000 in
set_option maxRecDepth 100000 in
theorem n_line_2 {a : Am} {S : St} {h : Hp} (hS : IsSt S) {tx : List Nat} {P : Prog} {past : List Prog} {b n f : Int32} (hM : KM h tx P past b n f) (hv : TV tx) (hVP : VP P) (hpv : ∀ Q ∈ past, VP Q) (hp5 : past.length ≤ 5) {m : Nat} {y z : Int32} (hm : m < P.length) (hy : outN y (lnN P m)) : CT a 20 mX10_line [rv a 50, .int (nI m), .int y, .int z] S h (fun v S' h' => v = some (.int (-2)) ∧ S = S' ∧ KM h' tx P past (b + nI 1) n f ∧ MF h h') := by
  obtain ⟨hX, hN, ⟨hst, hpa⟩, hrf⟩ := hM
  have hM : KM h tx P past b n f := ⟨hX, hN, ⟨hst, hpa⟩, hrf⟩
  have hVB := hVP.1
  have hV1 := hVB.1
  have hv200 := hv.1
  have hnS := nSt_le hVB
  refine met_of (by decide +kernel) (Nat.le_of_ble_eq_true rfl) ?_
  show T a 20 mX10_line 0 [(0, rv a 50), (1, .int (nI m)), (2, .int y), (3, .int z)] [] S h _
  refine tr_aload_n (pc := 0) 0 dX10_line_0 rfl rfl ?_
  refine tr_iload_n (pc := 1) 1 dX10_line_1 rfl rfl ?_
  refine tr_iload_n (pc := 2) 2 dX10_line_2 rfl rfl ?_
  refine tr_callV (pc := 3) (rest := []) (ci := 10) dX10_line_3 ml_X10_171 cv_X10_isLine rfl rfl (Nat.le_of_ble_eq_true rfl) (hS.1 50 (13, 45) rfl) rfl (by decide) (c_misL_o2 hS hVB hN hm hy) ?_
  rintro _ _ _ ⟨rfl, rfl, rfl⟩
  show T a 20 mX10_line 6 [(0, rv a 50), (1, .int (nI m)), (2, .int y), (3, .int z)] [.int (nI 0)] S h _
  refine tr_if_eq (pc := 6) (tgt := 18) dX10_line_6 (by decide) (nI_z_eq (by omega)) (fun _ => ?_) (fun hcc => absurd (by decide) hcc)
  refine tr_aload_n (pc := 18) 0 dX10_line_18 rfl rfl ?_
  refine tr_bipush (pc := 19) (v := -2) dX10_line_19 (by decide) ?_
  refine tr_callV (pc := 21) (rest := []) (ci := 10) dX10_line_21 ml_X10_156 cv_X10_refuse rfl rfl (Nat.le_of_ble_eq_true rfl) (hS.1 50 (13, 45) rfl) rfl (by decide) (c_mref0 hS hM) ?_
  rintro _ _ h9 ⟨rfl, rfl, hM9, hF9⟩
  show T a 20 mX10_line 24 [(0, rv a 50), (1, .int (nI m)), (2, .int y), (3, .int z)] [.int (-2)] S h9 _
  exact tr_iret (pc := 24) dX10_line_24 rfl rfl (⟨rfl, rfl, hM9, hF9⟩)

set_option maxHeartbeats 4000000 in
set_option maxRecDepth 100000 in
theorem n_line_3 {a : Am} {S : St} {h : Hp} (hS : IsSt S) {tx : List Nat} {P : Prog} {past : List Prog} {b n f : Int32} (hM : KM h tx P past b n f) (hv : TV tx) (hVP : VP P) (hpv : ∀ Q ∈ past, VP Q) (hp5 : past.length ≤ 5) {m i : Nat} {z : Int32} (hi : i < lnN P m) (hz : outN z 5) : CT a 20 mX10_line [rv a 50, .int (nI m), .int (nI i), .int z] S h (fun v S' h' => v = some (.int (-2)) ∧ S = S' ∧ KM h' tx P past (b + nI 1) n f ∧ MF h h') := by
  obtain ⟨hX, hN, ⟨hst, hpa⟩, hrf⟩ := hM
  have hM : KM h tx P past b n f := ⟨hX, hN, ⟨hst, hpa⟩, hrf⟩
  have hVB := hVP.1
  have hV1 := hVB.1
  have hv200 := hv.1
  have hnS := nSt_le hVB
  refine met_of (by decide +kernel) (Nat.le_of_ble_eq_true rfl) ?_
  show T a 20 mX10_line 0 [(0, rv a 50), (1, .int (nI m)), (2, .int (nI i)), (3, .int z)] [] S h _
  refine tr_aload_n (pc := 0) 0 dX10_line_0 rfl rfl ?_
  refine tr_iload_n (pc := 1) 1 dX10_line_1 rfl rfl ?_
  refine tr_iload_n (pc := 2) 2 dX10_line_2 rfl rfl ?_
  refine tr_callV (pc := 3) (rest := []) (ci := 10) dX10_line_3 ml_X10_171 cv_X10_isLine rfl rfl (Nat.le_of_ble_eq_true rfl) (hS.1 50 (13, 45) rfl) rfl (by decide) (c_misL_in hS hVB hN hi) ?_
  rintro _ _ _ ⟨rfl, rfl, rfl⟩
  show T a 20 mX10_line 6 [(0, rv a 50), (1, .int (nI m)), (2, .int (nI i)), (3, .int z)] [.int (nI 1)] S h _
  refine tr_if_eq (pc := 6) (tgt := 18) dX10_line_6 (by decide) (nI_z_eq (by omega)) (fun hcc => absurd hcc (by decide)) (fun _ => ?_)
  refine tr_iload_n (pc := 9) 3 dX10_line_9 rfl rfl ?_
  refine tr_iconst (pc := 10) (v := nI 0) dX10_line_10 (by decide) ?_
  refine tr_iconst (pc := 11) (v := nI 4) dX10_line_11 (by decide) ?_
  refine tr_callS (pc := 12) (rest := []) dX10_line_12 ml_X10_99 cs_X10_in rfl rfl (Nat.le_of_ble_eq_true rfl) (by decide) (c_min_out (mo_out (N := 4) hz (by decide))) ?_
  rintro _ _ _ ⟨rfl, rfl, rfl⟩
  show T a 20 mX10_line 15 [(0, rv a 50), (1, .int (nI m)), (2, .int (nI i)), (3, .int z)] [.int (nI 0)] S h _
  refine tr_if_ne (pc := 15) (tgt := 25) dX10_line_15 (by decide) (nI_z_eq (by omega)) (fun hcc => absurd (by decide) hcc) (fun _ => ?_)
  refine tr_aload_n (pc := 18) 0 dX10_line_18 rfl rfl ?_
  refine tr_bipush (pc := 19) (v := -2) dX10_line_19 (by decide) ?_
  refine tr_callV (pc := 21) (rest := []) (ci := 10) dX10_line_21 ml_X10_156 cv_X10_refuse rfl rfl (Nat.le_of_ble_eq_true rfl) (hS.1 50 (13, 45) rfl) rfl (by decide) (c_mref0 hS hM) ?_
  rintro _ _ h9 ⟨rfl, rfl, hM9, hF9⟩
  show T a 20 mX10_line 24 [(0, rv a 50), (1, .int (nI m)), (2, .int (nI i)), (3, .int z)] [.int (-2)] S h9 _
  exact tr_iret (pc := 24) dX10_line_24 rfl rfl (⟨rfl, rfl, hM9, hF9⟩)

set_option maxHeartbeats 4000000 in
set_option maxRecDepth 100000 in
theorem n_line_o {a : Am} {S : St} {h : Hp} (hS : IsSt S) {tx : List Nat} {P : Prog} {past : List Prog} {b n f : Int32} (hM : KM h tx P past b n f) (hv : TV tx) (hVP : VP P) (hpv : ∀ Q ∈ past, VP Q) (hp5 : past.length ≤ 5) {m i w : Nat} (hi : i < lnN P m) (hw : w < 5) : CT a 20 mX10_line [rv a 50, .int (nI m), .int (nI i), .int (nI w)] S h (fun v S' h' => v = some (.int (aLine P m i w)) ∧ S = S' ∧ KM h' tx P past b n f ∧ MF h h') := by
  obtain ⟨hX, hN, ⟨hst, hpa⟩, hrf⟩ := hM
  have hM : KM h tx P past b n f := ⟨hX, hN, ⟨hst, hpa⟩, hrf⟩
  have hVB := hVP.1
  have hV1 := hVB.1
  have hv200 := hv.1
  have hnS := nSt_le hVB
  refine met_of (by decide +kernel) (Nat.le_of_ble_eq_true rfl) ?_
  show T a 20 mX10_line 0 [(0, rv a 50), (1, .int (nI m)), (2, .int (nI i)), (3, .int (nI w))] [] S h _
  refine tr_aload_n (pc := 0) 0 dX10_line_0 rfl rfl ?_
  refine tr_iload_n (pc := 1) 1 dX10_line_1 rfl rfl ?_
  refine tr_iload_n (pc := 2) 2 dX10_line_2 rfl rfl ?_
  refine tr_callV (pc := 3) (rest := []) (ci := 10) dX10_line_3 ml_X10_171 cv_X10_isLine rfl rfl (Nat.le_of_ble_eq_true rfl) (hS.1 50 (13, 45) rfl) rfl (by decide) (c_misL_in hS hVB hN hi) ?_
  rintro _ _ _ ⟨rfl, rfl, rfl⟩
  show T a 20 mX10_line 6 [(0, rv a 50), (1, .int (nI m)), (2, .int (nI i)), (3, .int (nI w))] [.int (nI 1)] S h _
  refine tr_if_eq (pc := 6) (tgt := 18) dX10_line_6 (by decide) (nI_z_eq (by omega)) (fun hcc => absurd hcc (by decide)) (fun _ => ?_)
  refine tr_iload_n (pc := 9) 3 dX10_line_9 rfl rfl ?_
  refine tr_iconst (pc := 10) (v := nI 0) dX10_line_10 (by decide) ?_
  refine tr_iconst (pc := 11) (v := nI 4) dX10_line_11 (by decide) ?_
  refine tr_callS (pc := 12) (rest := []) dX10_line_12 ml_X10_99 cs_X10_in rfl rfl (Nat.le_of_ble_eq_true rfl) (by decide) (c_min_in (mo_in (N := 4) (by omega) (by decide)).1 (mo_in (N := 4) (by omega) (by decide)).2) ?_
  rintro _ _ _ ⟨rfl, rfl, rfl⟩
  show T a 20 mX10_line 15 [(0, rv a 50), (1, .int (nI m)), (2, .int (nI i)), (3, .int (nI w))] [.int (nI 1)] S h _
  refine tr_if_ne (pc := 15) (tgt := 25) dX10_line_15 (by decide) (nI_z_eq (by omega)) (fun _ => ?_) (fun hcc => absurd hcc (by decide))
  refine tr_aload_n (pc := 25) 0 dX10_line_25 rfl rfl ?_
  refine tr_callV (pc := 26) (rest := []) (ci := 10) dX10_line_26 ml_X10_196 cv_X10_findSites rfl rfl (Nat.le_of_ble_eq_true rfl) (hS.1 50 (13, 45) rfl) rfl (by decide) (c_findSites hS hVB hN) ?_
  rintro _ _ h1 ⟨rfl, rfl, hSN1, hf1⟩
  have hM1 := hM.q hf1 (by decide) (by decide) (by decide) (by decide) (by decide) (by decide)
  have hN1 := hM1.2.1
  have hF1 : MF h h1 := hf1.mf (by decide)
  show T a 20 mX10_line 29 [(0, rv a 50), (1, .int (nI m)), (2, .int (nI i)), (3, .int (nI w))] [] S h1 _
  refine tr_aload_n (pc := 29) 0 dX10_line_29 rfl rfl ?_
  refine tr_iload_n (pc := 30) 1 dX10_line_30 rfl rfl ?_
  refine tr_iload_n (pc := 31) 2 dX10_line_31 rfl rfl ?_
  refine tr_iload_n (pc := 32) 3 dX10_line_32 rfl rfl ?_
  refine tr_callV (pc := 33) (rest := []) (ci := 10) dX10_line_33 ml_X10_221 cv_X10_ofLine rfl rfl (Nat.le_of_ble_eq_true rfl) (hS.1 50 (13, 45) rfl) rfl (by decide) (c_mlineA hS hVB hN1 hSN1 hi hw) ?_
  rintro _ _ _ ⟨rfl, rfl, rfl⟩
  show T a 20 mX10_line 36 [(0, rv a 50), (1, .int (nI m)), (2, .int (nI i)), (3, .int (nI w))] [.int (aLine P m i w)] S h1 _
  exact tr_iret (pc := 36) dX10_line_36 rfl rfl (⟨rfl, rfl, hM1, hF1⟩)

set_option maxHeartbeats 4000000 in
set_option maxRecDepth 100000 in
theorem n_site_1 {a : Am} {S : St} {h : Hp} (hS : IsSt S) {tx : List Nat} {P : Prog} {past : List Prog} {b n f : Int32} (hM : KM h tx P past b n f) (hv : TV tx) (hVP : VP P) (hpv : ∀ Q ∈ past, VP Q) (hp5 : past.length ≤ 5) {x y : Int32} (hx : outN x (nSt P)) : CT a 20 mX10_site [rv a 50, .int x, .int y] S h (fun v S' h' => v = some (.int (-2)) ∧ S = S' ∧ KM h' tx P past (b + nI 1) n f ∧ MF h h') := by
  obtain ⟨hX, hN, ⟨hst, hpa⟩, hrf⟩ := hM
  have hM : KM h tx P past b n f := ⟨hX, hN, ⟨hst, hpa⟩, hrf⟩
  have hVB := hVP.1
  have hV1 := hVB.1
  have hv200 := hv.1
  have hnS := nSt_le hVB
  refine met_of (by decide +kernel) (Nat.le_of_ble_eq_true rfl) ?_
  show T a 20 mX10_site 0 [(0, rv a 50), (1, .int x), (2, .int y)] [] S h _
  refine tr_aload_n (pc := 0) 0 dX10_site_0 rfl rfl ?_
  refine tr_callV (pc := 1) (rest := []) (ci := 10) dX10_site_1 ml_X10_214 cv_X10_findMays rfl rfl (Nat.le_of_ble_eq_true rfl) (hS.1 50 (13, 45) rfl) rfl (by decide) (c_mfindMays hS hVP hN) ?_
  rintro _ _ h1 ⟨rfl, rfl, hSN1, hMN1, hf1⟩
  have hM1 := hM.q hf1 (by decide) (by decide) (by decide) (by decide) (by decide) (by decide)
  have hN1 := hM1.2.1
  have hF1 : MF h h1 := hf1.mf (by decide)
  show T a 20 mX10_site 4 [(0, rv a 50), (1, .int x), (2, .int y)] [] S h1 _
  refine tr_iload_n (pc := 4) 1 dX10_site_4 rfl rfl ?_
  refine tr_iconst (pc := 5) (v := nI 0) dX10_site_5 (by decide) ?_
  refine tr_aload_n (pc := 6) 0 dX10_site_6 rfl rfl ?_
  refine tr_getI (pc := 7) (x := nI (nSt P)) dX10_site_7 (hS.1 50 (13, 45) rfl) fi_X10_175 rfl hSN1.1 ?_
  refine tr_iconst (pc := 10) (v := nI 1) dX10_site_10 (by decide) ?_
  refine tr_isub (pc := 11) (v := nI (nSt P) - nI 1) dX10_site_11 rfl ?_
  refine tr_callS (pc := 12) (rest := []) dX10_site_12 ml_X10_99 cs_X10_in rfl rfl (Nat.le_of_ble_eq_true rfl) (by decide) (c_min_out (hx.imp id (fun z => lt_pred z (by omega)))) ?_
  rintro _ _ _ ⟨rfl, rfl, rfl⟩
  show T a 20 mX10_site 15 [(0, rv a 50), (1, .int x), (2, .int y)] [.int (nI 0)] S h1 _
  refine tr_if_eq (pc := 15) (tgt := 36) dX10_site_15 (by decide) (nI_z_eq (by omega)) (fun _ => ?_) (fun hcc => absurd (by decide) hcc)
  refine tr_aload_n (pc := 36) 0 dX10_site_36 rfl rfl ?_
  refine tr_bipush (pc := 37) (v := -2) dX10_site_37 (by decide) ?_
  refine tr_callV (pc := 39) (rest := []) (ci := 10) dX10_site_39 ml_X10_156 cv_X10_refuse rfl rfl (Nat.le_of_ble_eq_true rfl) (hS.1 50 (13, 45) rfl) rfl (by decide) (c_mref0 hS hM1) ?_
  rintro _ _ h9 ⟨rfl, rfl, hM9, hF9⟩
  show T a 20 mX10_site 42 [(0, rv a 50), (1, .int x), (2, .int y)] [.int (-2)] S h9 _
  exact tr_iret (pc := 42) dX10_site_42 rfl rfl (⟨rfl, rfl, hM9, hF1.trans hF9⟩)

set_option maxHeartbeats 4000000 in
set_option maxRecDepth 100000 in
theorem n_site_2 {a : Am} {S : St} {h : Hp} (hS : IsSt S) {tx : List Nat} {P : Prog} {past : List Prog} {b n f : Int32} (hM : KM h tx P past b n f) (hv : TV tx) (hVP : VP P) (hpv : ∀ Q ∈ past, VP Q) (hp5 : past.length ≤ 5) {s : Nat} {y : Int32} (hs : s < nSt P) (hy : outN y 4) : CT a 20 mX10_site [rv a 50, .int (nI s), .int y] S h (fun v S' h' => v = some (.int (-2)) ∧ S = S' ∧ KM h' tx P past (b + nI 1) n f ∧ MF h h') := by
  obtain ⟨hX, hN, ⟨hst, hpa⟩, hrf⟩ := hM
  have hM : KM h tx P past b n f := ⟨hX, hN, ⟨hst, hpa⟩, hrf⟩
  have hVB := hVP.1
  have hV1 := hVB.1
  have hv200 := hv.1
  have hnS := nSt_le hVB
  refine met_of (by decide +kernel) (Nat.le_of_ble_eq_true rfl) ?_
  show T a 20 mX10_site 0 [(0, rv a 50), (1, .int (nI s)), (2, .int y)] [] S h _
  refine tr_aload_n (pc := 0) 0 dX10_site_0 rfl rfl ?_
  refine tr_callV (pc := 1) (rest := []) (ci := 10) dX10_site_1 ml_X10_214 cv_X10_findMays rfl rfl (Nat.le_of_ble_eq_true rfl) (hS.1 50 (13, 45) rfl) rfl (by decide) (c_mfindMays hS hVP hN) ?_
  rintro _ _ h1 ⟨rfl, rfl, hSN1, hMN1, hf1⟩
  have hM1 := hM.q hf1 (by decide) (by decide) (by decide) (by decide) (by decide) (by decide)
  have hN1 := hM1.2.1
  have hF1 : MF h h1 := hf1.mf (by decide)
  show T a 20 mX10_site 4 [(0, rv a 50), (1, .int (nI s)), (2, .int y)] [] S h1 _
  refine tr_iload_n (pc := 4) 1 dX10_site_4 rfl rfl ?_
  refine tr_iconst (pc := 5) (v := nI 0) dX10_site_5 (by decide) ?_
  refine tr_aload_n (pc := 6) 0 dX10_site_6 rfl rfl ?_
  refine tr_getI (pc := 7) (x := nI (nSt P)) dX10_site_7 (hS.1 50 (13, 45) rfl) fi_X10_175 rfl hSN1.1 ?_
  refine tr_iconst (pc := 10) (v := nI 1) dX10_site_10 (by decide) ?_
  refine tr_isub (pc := 11) (v := nI ((nSt P) - 1)) dX10_site_11 (pk_sub (by omega)) ?_
  refine tr_callS (pc := 12) (rest := []) dX10_site_12 ml_X10_99 cs_X10_in rfl rfl (Nat.le_of_ble_eq_true rfl) (by decide) (c_min_in (mo_in (N := nSt P - 1) (by omega) (by omega)).1 (mo_in (N := nSt P - 1) (by omega) (by omega)).2) ?_
  rintro _ _ _ ⟨rfl, rfl, rfl⟩
  show T a 20 mX10_site 15 [(0, rv a 50), (1, .int (nI s)), (2, .int y)] [.int (nI 1)] S h1 _
  refine tr_if_eq (pc := 15) (tgt := 36) dX10_site_15 (by decide) (nI_z_eq (by omega)) (fun hcc => absurd hcc (by decide)) (fun _ => ?_)
  refine tr_iload_n (pc := 18) 2 dX10_site_18 rfl rfl ?_
  refine tr_iconst (pc := 19) (v := nI 0) dX10_site_19 (by decide) ?_
  refine tr_iconst (pc := 20) (v := nI 3) dX10_site_20 (by decide) ?_
  refine tr_callS (pc := 21) (rest := []) dX10_site_21 ml_X10_99 cs_X10_in rfl rfl (Nat.le_of_ble_eq_true rfl) (by decide) (c_min_out (mo_out (N := 3) hy (by decide))) ?_
  rintro _ _ _ ⟨rfl, rfl, rfl⟩
  show T a 20 mX10_site 24 [(0, rv a 50), (1, .int (nI s)), (2, .int y)] [.int (nI 0)] S h1 _
  refine tr_if_eq (pc := 24) (tgt := 36) dX10_site_24 (by decide) (nI_z_eq (by omega)) (fun _ => ?_) (fun hcc => absurd (by decide) hcc)
  refine tr_aload_n (pc := 36) 0 dX10_site_36 rfl rfl ?_
  refine tr_bipush (pc := 37) (v := -2) dX10_site_37 (by decide) ?_
  refine tr_callV (pc := 39) (rest := []) (ci := 10) dX10_site_39 ml_X10_156 cv_X10_refuse rfl rfl (Nat.le_of_ble_eq_true rfl) (hS.1 50 (13, 45) rfl) rfl (by decide) (c_mref0 hS hM1) ?_
  rintro _ _ h9 ⟨rfl, rfl, hM9, hF9⟩
  show T a 20 mX10_site 42 [(0, rv a 50), (1, .int (nI s)), (2, .int y)] [.int (-2)] S h9 _
  exact tr_iret (pc := 42) dX10_site_42 rfl rfl (⟨rfl, rfl, hM9, hF1.trans hF9⟩)

set_option maxHeartbeats 4000000 in
set_option maxRecDepth 100000 in
theorem n_site_o {a : Am} {S : St} {h : Hp} (hS : IsSt S) {tx : List Nat} {P : Prog} {past : List Prog} {b n f : Int32} (hM : KM h tx P past b n f) (hv : TV tx) (hVP : VP P) (hpv : ∀ Q ∈ past, VP Q) (hp5 : past.length ≤ 5) {s w : Nat} (hs : s < nSt P) (hw : w < 4) : CT a 20 mX10_site [rv a 50, .int (nI s), .int (nI w)] S h (fun v S' h' => v = some (.int (aSite P s w)) ∧ S = S' ∧ KM h' tx P past b n f ∧ MF h h') := by
  obtain ⟨hX, hN, ⟨hst, hpa⟩, hrf⟩ := hM
  have hM : KM h tx P past b n f := ⟨hX, hN, ⟨hst, hpa⟩, hrf⟩
  have hVB := hVP.1
  have hV1 := hVB.1
  have hv200 := hv.1
  have hnS := nSt_le hVB
  refine met_of (by decide +kernel) (Nat.le_of_ble_eq_true rfl) ?_
  show T a 20 mX10_site 0 [(0, rv a 50), (1, .int (nI s)), (2, .int (nI w))] [] S h _
  refine tr_aload_n (pc := 0) 0 dX10_site_0 rfl rfl ?_
  refine tr_callV (pc := 1) (rest := []) (ci := 10) dX10_site_1 ml_X10_214 cv_X10_findMays rfl rfl (Nat.le_of_ble_eq_true rfl) (hS.1 50 (13, 45) rfl) rfl (by decide) (c_mfindMays hS hVP hN) ?_
  rintro _ _ h1 ⟨rfl, rfl, hSN1, hMN1, hf1⟩
  have hM1 := hM.q hf1 (by decide) (by decide) (by decide) (by decide) (by decide) (by decide)
  have hN1 := hM1.2.1
  have hF1 : MF h h1 := hf1.mf (by decide)
  show T a 20 mX10_site 4 [(0, rv a 50), (1, .int (nI s)), (2, .int (nI w))] [] S h1 _
  refine tr_iload_n (pc := 4) 1 dX10_site_4 rfl rfl ?_
  refine tr_iconst (pc := 5) (v := nI 0) dX10_site_5 (by decide) ?_
  refine tr_aload_n (pc := 6) 0 dX10_site_6 rfl rfl ?_
  refine tr_getI (pc := 7) (x := nI (nSt P)) dX10_site_7 (hS.1 50 (13, 45) rfl) fi_X10_175 rfl hSN1.1 ?_
  refine tr_iconst (pc := 10) (v := nI 1) dX10_site_10 (by decide) ?_
  refine tr_isub (pc := 11) (v := nI ((nSt P) - 1)) dX10_site_11 (pk_sub (by omega)) ?_
  refine tr_callS (pc := 12) (rest := []) dX10_site_12 ml_X10_99 cs_X10_in rfl rfl (Nat.le_of_ble_eq_true rfl) (by decide) (c_min_in (mo_in (N := nSt P - 1) (by omega) (by omega)).1 (mo_in (N := nSt P - 1) (by omega) (by omega)).2) ?_
  rintro _ _ _ ⟨rfl, rfl, rfl⟩
  show T a 20 mX10_site 15 [(0, rv a 50), (1, .int (nI s)), (2, .int (nI w))] [.int (nI 1)] S h1 _
  refine tr_if_eq (pc := 15) (tgt := 36) dX10_site_15 (by decide) (nI_z_eq (by omega)) (fun hcc => absurd hcc (by decide)) (fun _ => ?_)
  refine tr_iload_n (pc := 18) 2 dX10_site_18 rfl rfl ?_
  refine tr_iconst (pc := 19) (v := nI 0) dX10_site_19 (by decide) ?_
  refine tr_iconst (pc := 20) (v := nI 3) dX10_site_20 (by decide) ?_
  refine tr_callS (pc := 21) (rest := []) dX10_site_21 ml_X10_99 cs_X10_in rfl rfl (Nat.le_of_ble_eq_true rfl) (by decide) (c_min_in (mo_in (N := 3) (by omega) (by decide)).1 (mo_in (N := 3) (by omega) (by decide)).2) ?_
  rintro _ _ _ ⟨rfl, rfl, rfl⟩
  show T a 20 mX10_site 24 [(0, rv a 50), (1, .int (nI s)), (2, .int (nI w))] [.int (nI 1)] S h1 _
  refine tr_if_eq (pc := 24) (tgt := 36) dX10_site_24 (by decide) (nI_z_eq (by omega)) (fun hcc => absurd hcc (by decide)) (fun _ => ?_)
  refine tr_aload_n (pc := 27) 0 dX10_site_27 rfl rfl ?_
  refine tr_iload_n (pc := 28) 1 dX10_site_28 rfl rfl ?_
  refine tr_iload_n (pc := 29) 2 dX10_site_29 rfl rfl ?_
  refine tr_callV (pc := 30) (rest := []) (ci := 10) dX10_site_30 ml_X10_224 cv_X10_ofSite rfl rfl (Nat.le_of_ble_eq_true rfl) (hS.1 50 (13, 45) rfl) rfl (by decide) (c_msiteA hS hVB hN1 hSN1 hMN1 hs hw) ?_
  rintro _ _ _ ⟨rfl, rfl, rfl⟩
  show T a 20 mX10_site 33 [(0, rv a 50), (1, .int (nI s)), (2, .int (nI w))] [.int (aSite P s w)] S h1 _
  refine tr_goto (pc := 33) (tgt := 42) dX10_site_33 (by decide) ?_
  exact tr_iret (pc := 42) dX10_site_42 rfl rfl (⟨rfl, rfl, hM1, hF1⟩)

set_option maxHeartbeats 4000000 in
set_option maxRecDepth 100000 in
theorem n_ran_1 {a : Am} {S : St} {h : Hp} (hS : IsSt S) {tx : List Nat} {P : Prog} {past : List Prog} {b n f : Int32} (hM : KM h tx P past b n f) (hv : TV tx) (hVP : VP P) (hpv : ∀ Q ∈ past, VP Q) (hp5 : past.length ≤ 5) {x y : Int32} (hx : outN x (nSt P)) : CT a 20 mX10_ran [rv a 50, .int x, .int y] S h (fun v S' h' => v = some (.int (-2)) ∧ S = S' ∧ KM h' tx P past (b + nI 1) n f ∧ MF h h') := by
  obtain ⟨hX, hN, ⟨hst, hpa⟩, hrf⟩ := hM
  have hM : KM h tx P past b n f := ⟨hX, hN, ⟨hst, hpa⟩, hrf⟩
  have hVB := hVP.1
  have hV1 := hVB.1
  have hv200 := hv.1
  have hnS := nSt_le hVB
  refine met_of (by decide +kernel) (Nat.le_of_ble_eq_true rfl) ?_
  show T a 20 mX10_ran 0 [(0, rv a 50), (1, .int x), (2, .int y)] [] S h _
  refine tr_aload_n (pc := 0) 0 dX10_ran_0 rfl rfl ?_
  refine tr_callV (pc := 1) (rest := []) (ci := 10) dX10_ran_1 ml_X10_196 cv_X10_findSites rfl rfl (Nat.le_of_ble_eq_true rfl) (hS.1 50 (13, 45) rfl) rfl (by decide) (c_findSites hS hVB hN) ?_
  rintro _ _ h1 ⟨rfl, rfl, hSN1, hf1⟩
  have hM1 := hM.q hf1 (by decide) (by decide) (by decide) (by decide) (by decide) (by decide)
  have hN1 := hM1.2.1
  have hF1 : MF h h1 := hf1.mf (by decide)
  show T a 20 mX10_ran 4 [(0, rv a 50), (1, .int x), (2, .int y)] [] S h1 _
  refine tr_iload_n (pc := 4) 1 dX10_ran_4 rfl rfl ?_
  refine tr_iconst (pc := 5) (v := nI 0) dX10_ran_5 (by decide) ?_
  refine tr_aload_n (pc := 6) 0 dX10_ran_6 rfl rfl ?_
  refine tr_getI (pc := 7) (x := nI (nSt P)) dX10_ran_7 (hS.1 50 (13, 45) rfl) fi_X10_175 rfl hSN1.1 ?_
  refine tr_iconst (pc := 10) (v := nI 1) dX10_ran_10 (by decide) ?_
  refine tr_isub (pc := 11) (v := nI (nSt P) - nI 1) dX10_ran_11 rfl ?_
  refine tr_callS (pc := 12) (rest := []) dX10_ran_12 ml_X10_99 cs_X10_in rfl rfl (Nat.le_of_ble_eq_true rfl) (by decide) (c_min_out (hx.imp id (fun z => lt_pred z (by omega)))) ?_
  rintro _ _ _ ⟨rfl, rfl, rfl⟩
  show T a 20 mX10_ran 15 [(0, rv a 50), (1, .int x), (2, .int y)] [.int (nI 0)] S h1 _
  refine tr_if_eq (pc := 15) (tgt := 27) dX10_ran_15 (by decide) (nI_z_eq (by omega)) (fun _ => ?_) (fun hcc => absurd (by decide) hcc)
  refine tr_aload_n (pc := 27) 0 dX10_ran_27 rfl rfl ?_
  refine tr_bipush (pc := 28) (v := -2) dX10_ran_28 (by decide) ?_
  refine tr_callV (pc := 30) (rest := []) (ci := 10) dX10_ran_30 ml_X10_156 cv_X10_refuse rfl rfl (Nat.le_of_ble_eq_true rfl) (hS.1 50 (13, 45) rfl) rfl (by decide) (c_mref0 hS hM1) ?_
  rintro _ _ h9 ⟨rfl, rfl, hM9, hF9⟩
  show T a 20 mX10_ran 33 [(0, rv a 50), (1, .int x), (2, .int y)] [.int (-2)] S h9 _
  exact tr_iret (pc := 33) dX10_ran_33 rfl rfl (⟨rfl, rfl, hM9, hF1.trans hF9⟩)

set_option maxHeartbeats 4000000 in
set_option maxRecDepth 100000 in
theorem n_ran_2 {a : Am} {S : St} {h : Hp} (hS : IsSt S) {tx : List Nat} {P : Prog} {past : List Prog} {b n f : Int32} (hM : KM h tx P past b n f) (hv : TV tx) (hVP : VP P) (hpv : ∀ Q ∈ past, VP Q) (hp5 : past.length ≤ 5) {s : Nat} {y : Int32} (hs : s < nSt P) (hy : outN y 3) : CT a 20 mX10_ran [rv a 50, .int (nI s), .int y] S h (fun v S' h' => v = some (.int (-2)) ∧ S = S' ∧ KM h' tx P past (b + nI 1) n f ∧ MF h h') := by
  obtain ⟨hX, hN, ⟨hst, hpa⟩, hrf⟩ := hM
  have hM : KM h tx P past b n f := ⟨hX, hN, ⟨hst, hpa⟩, hrf⟩
  have hVB := hVP.1
  have hV1 := hVB.1
  have hv200 := hv.1
  have hnS := nSt_le hVB
  refine met_of (by decide +kernel) (Nat.le_of_ble_eq_true rfl) ?_
  show T a 20 mX10_ran 0 [(0, rv a 50), (1, .int (nI s)), (2, .int y)] [] S h _
  refine tr_aload_n (pc := 0) 0 dX10_ran_0 rfl rfl ?_
  refine tr_callV (pc := 1) (rest := []) (ci := 10) dX10_ran_1 ml_X10_196 cv_X10_findSites rfl rfl (Nat.le_of_ble_eq_true rfl) (hS.1 50 (13, 45) rfl) rfl (by decide) (c_findSites hS hVB hN) ?_
  rintro _ _ h1 ⟨rfl, rfl, hSN1, hf1⟩
  have hM1 := hM.q hf1 (by decide) (by decide) (by decide) (by decide) (by decide) (by decide)
  have hN1 := hM1.2.1
  have hF1 : MF h h1 := hf1.mf (by decide)
  show T a 20 mX10_ran 4 [(0, rv a 50), (1, .int (nI s)), (2, .int y)] [] S h1 _
  refine tr_iload_n (pc := 4) 1 dX10_ran_4 rfl rfl ?_
  refine tr_iconst (pc := 5) (v := nI 0) dX10_ran_5 (by decide) ?_
  refine tr_aload_n (pc := 6) 0 dX10_ran_6 rfl rfl ?_
  refine tr_getI (pc := 7) (x := nI (nSt P)) dX10_ran_7 (hS.1 50 (13, 45) rfl) fi_X10_175 rfl hSN1.1 ?_
  refine tr_iconst (pc := 10) (v := nI 1) dX10_ran_10 (by decide) ?_
  refine tr_isub (pc := 11) (v := nI ((nSt P) - 1)) dX10_ran_11 (pk_sub (by omega)) ?_
  refine tr_callS (pc := 12) (rest := []) dX10_ran_12 ml_X10_99 cs_X10_in rfl rfl (Nat.le_of_ble_eq_true rfl) (by decide) (c_min_in (mo_in (N := nSt P - 1) (by omega) (by omega)).1 (mo_in (N := nSt P - 1) (by omega) (by omega)).2) ?_
  rintro _ _ _ ⟨rfl, rfl, rfl⟩
  show T a 20 mX10_ran 15 [(0, rv a 50), (1, .int (nI s)), (2, .int y)] [.int (nI 1)] S h1 _
  refine tr_if_eq (pc := 15) (tgt := 27) dX10_ran_15 (by decide) (nI_z_eq (by omega)) (fun hcc => absurd hcc (by decide)) (fun _ => ?_)
  refine tr_iload_n (pc := 18) 2 dX10_ran_18 rfl rfl ?_
  refine tr_iconst (pc := 19) (v := nI 0) dX10_ran_19 (by decide) ?_
  refine tr_iconst (pc := 20) (v := nI 2) dX10_ran_20 (by decide) ?_
  refine tr_callS (pc := 21) (rest := []) dX10_ran_21 ml_X10_99 cs_X10_in rfl rfl (Nat.le_of_ble_eq_true rfl) (by decide) (c_min_out (mo_out (N := 2) hy (by decide))) ?_
  rintro _ _ _ ⟨rfl, rfl, rfl⟩
  show T a 20 mX10_ran 24 [(0, rv a 50), (1, .int (nI s)), (2, .int y)] [.int (nI 0)] S h1 _
  refine tr_if_ne (pc := 24) (tgt := 34) dX10_ran_24 (by decide) (nI_z_eq (by omega)) (fun hcc => absurd (by decide) hcc) (fun _ => ?_)
  refine tr_aload_n (pc := 27) 0 dX10_ran_27 rfl rfl ?_
  refine tr_bipush (pc := 28) (v := -2) dX10_ran_28 (by decide) ?_
  refine tr_callV (pc := 30) (rest := []) (ci := 10) dX10_ran_30 ml_X10_156 cv_X10_refuse rfl rfl (Nat.le_of_ble_eq_true rfl) (hS.1 50 (13, 45) rfl) rfl (by decide) (c_mref0 hS hM1) ?_
  rintro _ _ h9 ⟨rfl, rfl, hM9, hF9⟩
  show T a 20 mX10_ran 33 [(0, rv a 50), (1, .int (nI s)), (2, .int y)] [.int (-2)] S h9 _
  exact tr_iret (pc := 33) dX10_ran_33 rfl rfl (⟨rfl, rfl, hM9, hF1.trans hF9⟩)

set_option maxHeartbeats 4000000 in
set_option maxRecDepth 100000 in
theorem n_ran_o {a : Am} {S : St} {h : Hp} (hS : IsSt S) {tx : List Nat} {P : Prog} {past : List Prog} {b n f : Int32} (hM : KM h tx P past b n f) (hv : TV tx) (hVP : VP P) (hpv : ∀ Q ∈ past, VP Q) (hp5 : past.length ≤ 5) {s w : Nat} (hs : s < nSt P) (hw : w < 3) : CT a 20 mX10_ran [rv a 50, .int (nI s), .int (nI w)] S h (fun v S' h' => v = some (.int (aRan P s w)) ∧ S = S' ∧ KM h' tx P past b n f ∧ MF h h') := by
  obtain ⟨hX, hN, ⟨hst, hpa⟩, hrf⟩ := hM
  have hM : KM h tx P past b n f := ⟨hX, hN, ⟨hst, hpa⟩, hrf⟩
  have hVB := hVP.1
  have hV1 := hVB.1
  have hv200 := hv.1
  have hnS := nSt_le hVB
  refine met_of (by decide +kernel) (Nat.le_of_ble_eq_true rfl) ?_
  show T a 20 mX10_ran 0 [(0, rv a 50), (1, .int (nI s)), (2, .int (nI w))] [] S h _
  refine tr_aload_n (pc := 0) 0 dX10_ran_0 rfl rfl ?_
  refine tr_callV (pc := 1) (rest := []) (ci := 10) dX10_ran_1 ml_X10_196 cv_X10_findSites rfl rfl (Nat.le_of_ble_eq_true rfl) (hS.1 50 (13, 45) rfl) rfl (by decide) (c_findSites hS hVB hN) ?_
  rintro _ _ h1 ⟨rfl, rfl, hSN1, hf1⟩
  have hM1 := hM.q hf1 (by decide) (by decide) (by decide) (by decide) (by decide) (by decide)
  have hN1 := hM1.2.1
  have hF1 : MF h h1 := hf1.mf (by decide)
  show T a 20 mX10_ran 4 [(0, rv a 50), (1, .int (nI s)), (2, .int (nI w))] [] S h1 _
  refine tr_iload_n (pc := 4) 1 dX10_ran_4 rfl rfl ?_
  refine tr_iconst (pc := 5) (v := nI 0) dX10_ran_5 (by decide) ?_
  refine tr_aload_n (pc := 6) 0 dX10_ran_6 rfl rfl ?_
  refine tr_getI (pc := 7) (x := nI (nSt P)) dX10_ran_7 (hS.1 50 (13, 45) rfl) fi_X10_175 rfl hSN1.1 ?_
  refine tr_iconst (pc := 10) (v := nI 1) dX10_ran_10 (by decide) ?_
  refine tr_isub (pc := 11) (v := nI ((nSt P) - 1)) dX10_ran_11 (pk_sub (by omega)) ?_
  refine tr_callS (pc := 12) (rest := []) dX10_ran_12 ml_X10_99 cs_X10_in rfl rfl (Nat.le_of_ble_eq_true rfl) (by decide) (c_min_in (mo_in (N := nSt P - 1) (by omega) (by omega)).1 (mo_in (N := nSt P - 1) (by omega) (by omega)).2) ?_
  rintro _ _ _ ⟨rfl, rfl, rfl⟩
  show T a 20 mX10_ran 15 [(0, rv a 50), (1, .int (nI s)), (2, .int (nI w))] [.int (nI 1)] S h1 _
  refine tr_if_eq (pc := 15) (tgt := 27) dX10_ran_15 (by decide) (nI_z_eq (by omega)) (fun hcc => absurd hcc (by decide)) (fun _ => ?_)
  refine tr_iload_n (pc := 18) 2 dX10_ran_18 rfl rfl ?_
  refine tr_iconst (pc := 19) (v := nI 0) dX10_ran_19 (by decide) ?_
  refine tr_iconst (pc := 20) (v := nI 2) dX10_ran_20 (by decide) ?_
  refine tr_callS (pc := 21) (rest := []) dX10_ran_21 ml_X10_99 cs_X10_in rfl rfl (Nat.le_of_ble_eq_true rfl) (by decide) (c_min_in (mo_in (N := 2) (by omega) (by decide)).1 (mo_in (N := 2) (by omega) (by decide)).2) ?_
  rintro _ _ _ ⟨rfl, rfl, rfl⟩
  show T a 20 mX10_ran 24 [(0, rv a 50), (1, .int (nI s)), (2, .int (nI w))] [.int (nI 1)] S h1 _
  refine tr_if_ne (pc := 24) (tgt := 34) dX10_ran_24 (by decide) (nI_z_eq (by omega)) (fun _ => ?_) (fun hcc => absurd hcc (by decide))
  refine tr_aload_n (pc := 34) 0 dX10_ran_34 rfl rfl ?_
  refine tr_callV (pc := 35) (rest := []) (ci := 10) dX10_ran_35 ml_X10_273 cv_X10_goRun rfl rfl (Nat.le_of_ble_eq_true rfl) (hS.1 50 (13, 45) rfl) rfl (by decide) (c_mgo hS hVP hN1) ?_
  rintro _ _ h2 ⟨rfl, rfl, ⟨hSN2, hMN2, hTM2⟩, hf2⟩
  have hM2 := hM1.q hf2 (by decide) (by decide) (by decide) (by decide) (by decide) (by decide)
  have hF2 : MF h1 h2 := hf2.mf (by decide)
  show T a 20 mX10_ran 38 [(0, rv a 50), (1, .int (nI s)), (2, .int (nI w))] [] S h2 _
  refine tr_aload_n (pc := 38) 0 dX10_ran_38 rfl rfl ?_
  refine tr_iload_n (pc := 39) 1 dX10_ran_39 rfl rfl ?_
  refine tr_iload_n (pc := 40) 2 dX10_ran_40 rfl rfl ?_
  refine tr_callV (pc := 41) (rest := []) (ci := 10) dX10_ran_41 ml_X10_279 cv_X10_ranOf rfl rfl (Nat.le_of_ble_eq_true rfl) (hS.1 50 (13, 45) rfl) rfl (by decide) (c_moranA hS hTM2 (by omega) hw) ?_
  rintro _ _ _ ⟨rfl, rfl, rfl⟩
  show T a 20 mX10_ran 44 [(0, rv a 50), (1, .int (nI s)), (2, .int (nI w))] [.int (aRan P s w)] S h2 _
  exact tr_iret (pc := 44) dX10_ran_44 rfl rfl (⟨rfl, rfl, hM2, hF1.trans hF2⟩)

set_option maxHeartbeats 4000000 in
set_option maxRecDepth 100000 in
theorem n_open {a : Am} {S : St} {h : Hp} (hS : IsSt S) {tx : List Nat} {P : Prog} {past : List Prog} {b n f : Int32} (hM : KM h tx P past b n f) (hv : TV tx) (hVP : VP P) (hpv : ∀ Q ∈ past, VP Q) (hp5 : past.length ≤ 5) : CT a 20 mX10_open [rv a 50] S h (fun v S' h' => v = some (.int (mayV P 16)) ∧ S = S' ∧ KM h' tx P past b n f ∧ MF h h') := by
  obtain ⟨hX, hN, ⟨hst, hpa⟩, hrf⟩ := hM
  have hM : KM h tx P past b n f := ⟨hX, hN, ⟨hst, hpa⟩, hrf⟩
  have hVB := hVP.1
  have hV1 := hVB.1
  have hv200 := hv.1
  have hnS := nSt_le hVB
  refine met_of (by decide +kernel) (Nat.le_of_ble_eq_true rfl) ?_
  show T a 20 mX10_open 0 [(0, rv a 50)] [] S h _
  refine tr_aload_n (pc := 0) 0 dX10_open_0 rfl rfl ?_
  refine tr_callV (pc := 1) (rest := []) (ci := 10) dX10_open_1 ml_X10_214 cv_X10_findMays rfl rfl (Nat.le_of_ble_eq_true rfl) (hS.1 50 (13, 45) rfl) rfl (by decide) (c_mfindMays hS hVP hN) ?_
  rintro _ _ h1 ⟨rfl, rfl, hSN1, hMN1, hf1⟩
  have hM1 := hM.q hf1 (by decide) (by decide) (by decide) (by decide) (by decide) (by decide)
  have hN1 := hM1.2.1
  have hF1 : MF h h1 := hf1.mf (by decide)
  show T a 20 mX10_open 4 [(0, rv a 50)] [] S h1 _
  refine tr_aload_n (pc := 4) 0 dX10_open_4 rfl rfl ?_
  refine tr_getR (pc := 5) (q := 61) dX10_open_5 (hS.1 50 (13, 45) rfl) fi_X10_40 rfl (hS.2 50 21 61 rfl) ?_
  refine tr_bipush (pc := 8) (v := nI 16) dX10_open_8 (by decide) ?_
  refine tr_iald (pc := 10) (v := mayV P 16) 16 dX10_open_10 (hS.1 61 (0, 49) rfl) rfl (by omega) (by decide) (hMN1.1 _ (by omega)) ?_
  exact tr_iret (pc := 11) dX10_open_11 rfl rfl (⟨rfl, rfl, hM1, hF1⟩)

set_option maxHeartbeats 4000000 in
set_option maxRecDepth 100000 in
theorem n_fates_1 {a : Am} {S : St} {h : Hp} (hS : IsSt S) {tx : List Nat} {P : Prog} {past : List Prog} {b n f : Int32} (hM : KM h tx P past b n f) (hv : TV tx) (hVP : VP P) (hpv : ∀ Q ∈ past, VP Q) (hp5 : past.length ≤ 5) {x : Int32} (hx : outN x 3) : CT a 20 mX10_fates [rv a 50, .int x] S h (fun v S' h' => v = some (.int (-2)) ∧ S = S' ∧ KM h' tx P past (b + nI 1) n f ∧ MF h h') := by
  obtain ⟨hX, hN, ⟨hst, hpa⟩, hrf⟩ := hM
  have hM : KM h tx P past b n f := ⟨hX, hN, ⟨hst, hpa⟩, hrf⟩
  have hVB := hVP.1
  have hV1 := hVB.1
  have hv200 := hv.1
  have hnS := nSt_le hVB
  refine met_of (by decide +kernel) (Nat.le_of_ble_eq_true rfl) ?_
  show T a 20 mX10_fates 0 [(0, rv a 50), (1, .int x)] [] S h _
  refine tr_iload_n (pc := 0) 1 dX10_fates_0 rfl rfl ?_
  refine tr_iconst (pc := 1) (v := nI 0) dX10_fates_1 (by decide) ?_
  refine tr_iconst (pc := 2) (v := nI 2) dX10_fates_2 (by decide) ?_
  refine tr_callS (pc := 3) (rest := []) dX10_fates_3 ml_X10_99 cs_X10_in rfl rfl (Nat.le_of_ble_eq_true rfl) (by decide) (c_min_out (mo_out (N := 2) hx (by decide))) ?_
  rintro _ _ _ ⟨rfl, rfl, rfl⟩
  show T a 20 mX10_fates 6 [(0, rv a 50), (1, .int x)] [.int (nI 0)] S h _
  refine tr_if_ne (pc := 6) (tgt := 16) dX10_fates_6 (by decide) (nI_z_eq (by omega)) (fun hcc => absurd (by decide) hcc) (fun _ => ?_)
  refine tr_aload_n (pc := 9) 0 dX10_fates_9 rfl rfl ?_
  refine tr_bipush (pc := 10) (v := -2) dX10_fates_10 (by decide) ?_
  refine tr_callV (pc := 12) (rest := []) (ci := 10) dX10_fates_12 ml_X10_156 cv_X10_refuse rfl rfl (Nat.le_of_ble_eq_true rfl) (hS.1 50 (13, 45) rfl) rfl (by decide) (c_mref0 hS hM) ?_
  rintro _ _ h9 ⟨rfl, rfl, hM9, hF9⟩
  show T a 20 mX10_fates 15 [(0, rv a 50), (1, .int x)] [.int (-2)] S h9 _
  exact tr_iret (pc := 15) dX10_fates_15 rfl rfl (⟨rfl, rfl, hM9, hF9⟩)

set_option maxHeartbeats 4000000 in
set_option maxRecDepth 100000 in
theorem n_fates_o {a : Am} {S : St} {h : Hp} (hS : IsSt S) {tx : List Nat} {P : Prog} {past : List Prog} {b n f : Int32} (hM : KM h tx P past b n f) (hv : TV tx) (hVP : VP P) (hpv : ∀ Q ∈ past, VP Q) (hp5 : past.length ≤ 5) {w : Nat} (hw : w < 3) : CT a 20 mX10_fates [rv a 50, .int (nI w)] S h (fun v S' h' => v = some (.int (nI (cntG (fun s => decide (fate P s = w)) (nSt P)))) ∧ S = S' ∧ KM h' tx P past b n f ∧ MF h h') := by
  obtain ⟨hX, hN, ⟨hst, hpa⟩, hrf⟩ := hM
  have hM : KM h tx P past b n f := ⟨hX, hN, ⟨hst, hpa⟩, hrf⟩
  have hVB := hVP.1
  have hV1 := hVB.1
  have hv200 := hv.1
  have hnS := nSt_le hVB
  refine met_of (by decide +kernel) (Nat.le_of_ble_eq_true rfl) ?_
  show T a 20 mX10_fates 0 [(0, rv a 50), (1, .int (nI w))] [] S h _
  refine tr_iload_n (pc := 0) 1 dX10_fates_0 rfl rfl ?_
  refine tr_iconst (pc := 1) (v := nI 0) dX10_fates_1 (by decide) ?_
  refine tr_iconst (pc := 2) (v := nI 2) dX10_fates_2 (by decide) ?_
  refine tr_callS (pc := 3) (rest := []) dX10_fates_3 ml_X10_99 cs_X10_in rfl rfl (Nat.le_of_ble_eq_true rfl) (by decide) (c_min_in (mo_in (N := 2) (by omega) (by decide)).1 (mo_in (N := 2) (by omega) (by decide)).2) ?_
  rintro _ _ _ ⟨rfl, rfl, rfl⟩
  show T a 20 mX10_fates 6 [(0, rv a 50), (1, .int (nI w))] [.int (nI 1)] S h _
  refine tr_if_ne (pc := 6) (tgt := 16) dX10_fates_6 (by decide) (nI_z_eq (by omega)) (fun _ => ?_) (fun hcc => absurd hcc (by decide))
  refine tr_aload_n (pc := 16) 0 dX10_fates_16 rfl rfl ?_
  refine tr_callV (pc := 17) (rest := []) (ci := 10) dX10_fates_17 ml_X10_214 cv_X10_findMays rfl rfl (Nat.le_of_ble_eq_true rfl) (hS.1 50 (13, 45) rfl) rfl (by decide) (c_mfindMays hS hVP hN) ?_
  rintro _ _ h1 ⟨rfl, rfl, hSN1, hMN1, hf1⟩
  have hM1 := hM.q hf1 (by decide) (by decide) (by decide) (by decide) (by decide) (by decide)
  have hN1 := hM1.2.1
  have hF1 : MF h h1 := hf1.mf (by decide)
  show T a 20 mX10_fates 20 [(0, rv a 50), (1, .int (nI w))] [] S h1 _
  refine tr_aload_n (pc := 20) 0 dX10_fates_20 rfl rfl ?_
  refine tr_iload_n (pc := 21) 1 dX10_fates_21 rfl rfl ?_
  refine tr_callV (pc := 22) (rest := []) (ci := 10) dX10_fates_22 ml_X10_208 cv_X10_fated rfl rfl (Nat.le_of_ble_eq_true rfl) (hS.1 50 (13, 45) rfl) rfl (by decide) (c_mfated hS hVB hN1 hSN1 hMN1 hw) ?_
  rintro _ _ _ ⟨rfl, rfl, rfl⟩
  show T a 20 mX10_fates 25 [(0, rv a 50), (1, .int (nI w))] [.int (fatB P w (nSt P))] S h1 _
  refine tr_callS (pc := 25) (rest := []) dX10_fates_25 ml_X10_227 cs_X10_ones rfl rfl (Nat.le_of_ble_eq_true rfl) (by decide) (c_mones) ?_
  rintro _ _ _ ⟨rfl, rfl, rfl⟩
  show T a 20 mX10_fates 28 [(0, rv a 50), (1, .int (nI w))] [.int (nI (cntG (fun j => (fatB P w (nSt P)).toBitVec.getLsbD j) 32))] S h1 _
  exact tr_iret (pc := 28) dX10_fates_28 rfl rfl (⟨by rw [ones_fat hVB], rfl, hM1, hF1⟩)

set_option maxHeartbeats 4000000 in
set_option maxRecDepth 100000 in
theorem n_run_1 {a : Am} {S : St} {h : Hp} (hS : IsSt S) {tx : List Nat} {P : Prog} {past : List Prog} {b n f : Int32} (hM : KM h tx P past b n f) (hv : TV tx) (hVP : VP P) (hpv : ∀ Q ∈ past, VP Q) (hp5 : past.length ≤ 5) {x : Int32} (hx : outN x 6) : CT a 20 mX10_run [rv a 50, .int x] S h (fun v S' h' => v = some (.int (-2)) ∧ S = S' ∧ KM h' tx P past (b + nI 1) n f ∧ MF h h') := by
  obtain ⟨hX, hN, ⟨hst, hpa⟩, hrf⟩ := hM
  have hM : KM h tx P past b n f := ⟨hX, hN, ⟨hst, hpa⟩, hrf⟩
  have hVB := hVP.1
  have hV1 := hVB.1
  have hv200 := hv.1
  have hnS := nSt_le hVB
  refine met_of (by decide +kernel) (Nat.le_of_ble_eq_true rfl) ?_
  show T a 20 mX10_run 0 [(0, rv a 50), (1, .int x)] [] S h _
  refine tr_iload_n (pc := 0) 1 dX10_run_0 rfl rfl ?_
  refine tr_iconst (pc := 1) (v := nI 0) dX10_run_1 (by decide) ?_
  refine tr_iconst (pc := 2) (v := nI 5) dX10_run_2 (by decide) ?_
  refine tr_callS (pc := 3) (rest := []) dX10_run_3 ml_X10_99 cs_X10_in rfl rfl (Nat.le_of_ble_eq_true rfl) (by decide) (c_min_out (mo_out (N := 5) hx (by decide))) ?_
  rintro _ _ _ ⟨rfl, rfl, rfl⟩
  show T a 20 mX10_run 6 [(0, rv a 50), (1, .int x)] [.int (nI 0)] S h _
  refine tr_if_ne (pc := 6) (tgt := 16) dX10_run_6 (by decide) (nI_z_eq (by omega)) (fun hcc => absurd (by decide) hcc) (fun _ => ?_)
  refine tr_aload_n (pc := 9) 0 dX10_run_9 rfl rfl ?_
  refine tr_bipush (pc := 10) (v := -2) dX10_run_10 (by decide) ?_
  refine tr_callV (pc := 12) (rest := []) (ci := 10) dX10_run_12 ml_X10_156 cv_X10_refuse rfl rfl (Nat.le_of_ble_eq_true rfl) (hS.1 50 (13, 45) rfl) rfl (by decide) (c_mref0 hS hM) ?_
  rintro _ _ h9 ⟨rfl, rfl, hM9, hF9⟩
  show T a 20 mX10_run 15 [(0, rv a 50), (1, .int x)] [.int (-2)] S h9 _
  exact tr_iret (pc := 15) dX10_run_15 rfl rfl (⟨rfl, rfl, hM9, hF9⟩)

set_option maxHeartbeats 4000000 in
set_option maxRecDepth 100000 in
theorem n_run_o {a : Am} {S : St} {h : Hp} (hS : IsSt S) {tx : List Nat} {P : Prog} {past : List Prog} {b n f : Int32} (hM : KM h tx P past b n f) (hv : TV tx) (hVP : VP P) (hpv : ∀ Q ∈ past, VP Q) (hp5 : past.length ≤ 5) {w : Nat} (hw : w < 6) : CT a 20 mX10_run [rv a 50, .int (nI w)] S h (fun v S' h' => v = some (.int (aRun P w)) ∧ S = S' ∧ KM h' tx P past b n f ∧ MF h h') := by
  obtain ⟨hX, hN, ⟨hst, hpa⟩, hrf⟩ := hM
  have hM : KM h tx P past b n f := ⟨hX, hN, ⟨hst, hpa⟩, hrf⟩
  have hVB := hVP.1
  have hV1 := hVB.1
  have hv200 := hv.1
  have hnS := nSt_le hVB
  refine met_of (by decide +kernel) (Nat.le_of_ble_eq_true rfl) ?_
  show T a 20 mX10_run 0 [(0, rv a 50), (1, .int (nI w))] [] S h _
  refine tr_iload_n (pc := 0) 1 dX10_run_0 rfl rfl ?_
  refine tr_iconst (pc := 1) (v := nI 0) dX10_run_1 (by decide) ?_
  refine tr_iconst (pc := 2) (v := nI 5) dX10_run_2 (by decide) ?_
  refine tr_callS (pc := 3) (rest := []) dX10_run_3 ml_X10_99 cs_X10_in rfl rfl (Nat.le_of_ble_eq_true rfl) (by decide) (c_min_in (mo_in (N := 5) (by omega) (by decide)).1 (mo_in (N := 5) (by omega) (by decide)).2) ?_
  rintro _ _ _ ⟨rfl, rfl, rfl⟩
  show T a 20 mX10_run 6 [(0, rv a 50), (1, .int (nI w))] [.int (nI 1)] S h _
  refine tr_if_ne (pc := 6) (tgt := 16) dX10_run_6 (by decide) (nI_z_eq (by omega)) (fun _ => ?_) (fun hcc => absurd hcc (by decide))
  refine tr_aload_n (pc := 16) 0 dX10_run_16 rfl rfl ?_
  refine tr_callV (pc := 17) (rest := []) (ci := 10) dX10_run_17 ml_X10_273 cv_X10_goRun rfl rfl (Nat.le_of_ble_eq_true rfl) (hS.1 50 (13, 45) rfl) rfl (by decide) (c_mgo hS hVP hN) ?_
  rintro _ _ h1 ⟨rfl, rfl, ⟨hSN1, hMN1, hTM1⟩, hf1⟩
  have hM1 := hM.q hf1 (by decide) (by decide) (by decide) (by decide) (by decide) (by decide)
  have hN1 := hM1.2.1
  have hF1 : MF h h1 := hf1.mf (by decide)
  show T a 20 mX10_run 20 [(0, rv a 50), (1, .int (nI w))] [] S h1 _
  refine tr_aload_n (pc := 20) 0 dX10_run_20 rfl rfl ?_
  refine tr_iload_n (pc := 21) 1 dX10_run_21 rfl rfl ?_
  refine tr_callV (pc := 22) (rest := []) (ci := 10) dX10_run_22 ml_X10_276 cv_X10_ofRun rfl rfl (Nat.le_of_ble_eq_true rfl) (hS.1 50 (13, 45) rfl) rfl (by decide) (c_morunA hS hTM1 hw) ?_
  rintro _ _ _ ⟨rfl, rfl, rfl⟩
  show T a 20 mX10_run 25 [(0, rv a 50), (1, .int (nI w))] [.int (aRun P w)] S h1 _
  exact tr_iret (pc := 25) dX10_run_25 rfl rfl (⟨rfl, rfl, hM1, hF1⟩)

set_option maxHeartbeats 4000000 in
set_option maxRecDepth 100000 in
theorem n_held {a : Am} {S : St} {h : Hp} (hS : IsSt S) {tx : List Nat} {P : Prog} {past : List Prog} {b n f : Int32} (hM : KM h tx P past b n f) (hv : TV tx) (hVP : VP P) (hpv : ∀ Q ∈ past, VP Q) (hp5 : past.length ≤ 5) : CT a 20 mX10_held [rv a 50] S h (fun v S' h' => v = some (.int (aHeld P)) ∧ S = S' ∧ KM h' tx P past b n f ∧ MF h h') := by
  obtain ⟨hX, hN, ⟨hst, hpa⟩, hrf⟩ := hM
  have hM : KM h tx P past b n f := ⟨hX, hN, ⟨hst, hpa⟩, hrf⟩
  have hVB := hVP.1
  have hV1 := hVB.1
  have hv200 := hv.1
  have hnS := nSt_le hVB
  refine met_of (by decide +kernel) (Nat.le_of_ble_eq_true rfl) ?_
  show T a 20 mX10_held 0 [(0, rv a 50)] [] S h _
  refine tr_aload_n (pc := 0) 0 dX10_held_0 rfl rfl ?_
  refine tr_callV (pc := 1) (rest := []) (ci := 10) dX10_held_1 ml_X10_273 cv_X10_goRun rfl rfl (Nat.le_of_ble_eq_true rfl) (hS.1 50 (13, 45) rfl) rfl (by decide) (c_mgo hS hVP hN) ?_
  rintro _ _ h1 ⟨rfl, rfl, ⟨hSN1, hMN1, hTM1⟩, hf1⟩
  have hM1 := hM.q hf1 (by decide) (by decide) (by decide) (by decide) (by decide) (by decide)
  have hN1 := hM1.2.1
  have hF1 : MF h h1 := hf1.mf (by decide)
  show T a 20 mX10_held 4 [(0, rv a 50)] [] S h1 _
  refine tr_aload_n (pc := 4) 0 dX10_held_4 rfl rfl ?_
  refine tr_callV (pc := 5) (rest := []) (ci := 10) dX10_held_5 ml_X10_282 cv_X10_heldNow rfl rfl (Nat.le_of_ble_eq_true rfl) (hS.1 50 (13, 45) rfl) rfl (by decide) (c_mheld hS hTM1 hVP) ?_
  rintro _ _ _ ⟨rfl, rfl, rfl⟩
  show T a 20 mX10_held 8 [(0, rv a 50)] [.int (aHeld P)] S h1 _
  exact tr_iret (pc := 8) dX10_held_8 rfl rfl (⟨rfl, rfl, hM1, hF1⟩)

theorem km_back {h h1 : Hp} {tx : List Nat} {P P1 : Prog} {past : List Prog} {b n f : Int32} {g : Nat → Int32} (hM : KM h tx P past b n f) (h0 : 0 < past.length) (h1' : h1 = hs h 50 (upd (h 50) 3 (nI (past.length - 1)))) (hW : RW g 0 P1) : KM (hs h1 51 g) tx P1 past.dropLast b n f := by
  obtain ⟨m1, m2, m3, m4⟩ := hM
  subst h1'
  refine ⟨?_, np_rw.2 (by rw [hs_same]; exact hW), ⟨?_, fun j hj => ?_⟩, ?_⟩
  · unfold MTx; rw [hs_ne (show 50 ≠ 51 by decide), hs_ne (show 55 ≠ 51 by decide), f50_n (by decide), hs_ne (show 55 ≠ 50 by decide)]; exact m1
  · rw [hs_ne (show 50 ≠ 51 by decide), f50_s, List.length_dropLast]
  · rw [hs_ne (show 53 ≠ 51 by decide), hs_ne (show 53 ≠ 50 by decide)]
    rw [List.length_dropLast] at hj
    have e : past.dropLast.getD j [] = past.getD j [] := by
      rw [List.getD_eq_getElem?_getD, List.getD_eq_getElem?_getD, List.getElem?_dropLast, if_pos hj]
    rw [e]
    exact m3.2 j (by omega)
  · rw [hs_ne (show 54 ≠ 51 by decide), hs_ne (show 54 ≠ 50 by decide)]; exact m4
set_option maxHeartbeats 4000000 in
set_option maxRecDepth 100000 in
theorem n_back_n {a : Am} {S : St} {h : Hp} (hS : IsSt S) {tx : List Nat} {P : Prog} {past : List Prog} {b n f : Int32} (hM : KM h tx P past b n f) (hv : TV tx) (hVP : VP P) (hpv : ∀ Q ∈ past, VP Q) (hp5 : past.length ≤ 5) (h0 : past.length = 0) : CT a 20 mX10_back [rv a 50] S h (fun v S' h' => v = some (.int (-3)) ∧ S = S' ∧ KM h' tx P past b (n + nI 1) f ∧ MF h h') := by
  obtain ⟨hX, hN, ⟨hst, hpa⟩, hrf⟩ := hM
  have hM : KM h tx P past b n f := ⟨hX, hN, ⟨hst, hpa⟩, hrf⟩
  have hVB := hVP.1
  have hV1 := hVB.1
  have hv200 := hv.1
  have hnS := nSt_le hVB
  refine met_of (by decide +kernel) (Nat.le_of_ble_eq_true rfl) ?_
  show T a 20 mX10_back 0 [(0, rv a 50)] [] S h _
  refine tr_aload_n (pc := 0) 0 dX10_back_0 rfl rfl ?_
  refine tr_getI (pc := 1) (x := nI past.length) dX10_back_1 (hS.1 50 (13, 45) rfl) fi_X10_85 rfl hst ?_
  refine tr_if_ne (pc := 4) (tgt := 14) dX10_back_4 (by decide) (nI_z_eq (by omega)) (fun hcc => absurd (by omega) hcc) (fun _ => ?_)
  refine tr_aload_n (pc := 7) 0 dX10_back_7 rfl rfl ?_
  refine tr_bipush (pc := 8) (v := -3) dX10_back_8 (by decide) ?_
  refine tr_callV (pc := 10) (rest := []) (ci := 10) dX10_back_10 ml_X10_156 cv_X10_refuse rfl rfl (Nat.le_of_ble_eq_true rfl) (hS.1 50 (13, 45) rfl) rfl (by decide) (c_mref1 hS hM) ?_
  rintro _ _ h9 ⟨rfl, rfl, hM9, hF9⟩
  show T a 20 mX10_back 13 [(0, rv a 50)] [.int (-3)] S h9 _
  exact tr_iret (pc := 13) dX10_back_13 rfl rfl (⟨rfl, rfl, hM9, hF9⟩)

set_option maxHeartbeats 4000000 in
set_option maxRecDepth 100000 in
theorem n_back_o {a : Am} {S : St} {h : Hp} (hS : IsSt S) {tx : List Nat} {P : Prog} {past : List Prog} {b n f : Int32} (hM : KM h tx P past b n f) (hv : TV tx) (hVP : VP P) (hpv : ∀ Q ∈ past, VP Q) (hp5 : past.length ≤ 5) (h0 : 0 < past.length) : CT a 20 mX10_back [rv a 50] S h (fun v S' h' => v = some (.int (nI (past.length - 1))) ∧ S = S' ∧ KM h' tx (past.getD (past.length - 1) []) past.dropLast b n f ∧ MF h h') := by
  obtain ⟨hX, hN, ⟨hst, hpa⟩, hrf⟩ := hM
  have hM : KM h tx P past b n f := ⟨hX, hN, ⟨hst, hpa⟩, hrf⟩
  have hVB := hVP.1
  have hV1 := hVB.1
  have hv200 := hv.1
  have hnS := nSt_le hVB
  refine met_of (by decide +kernel) (Nat.le_of_ble_eq_true rfl) ?_
  show T a 20 mX10_back 0 [(0, rv a 50)] [] S h _
  refine tr_aload_n (pc := 0) 0 dX10_back_0 rfl rfl ?_
  refine tr_getI (pc := 1) (x := nI past.length) dX10_back_1 (hS.1 50 (13, 45) rfl) fi_X10_85 rfl hst ?_
  refine tr_if_ne (pc := 4) (tgt := 14) dX10_back_4 (by decide) (nI_z_eq (by omega)) (fun _ => ?_) (fun hcc => absurd hcc (by omega))
  refine tr_aload_n (pc := 14) 0 dX10_back_14 rfl rfl ?_
  refine tr_dup (pc := 15) dX10_back_15 rfl ?_
  refine tr_getI (pc := 16) (x := nI past.length) dX10_back_16 (hS.1 50 (13, 45) rfl) fi_X10_85 rfl hst ?_
  refine tr_iconst (pc := 19) (v := nI 1) dX10_back_19 (by decide) ?_
  refine tr_isub (pc := 20) (v := nI (past.length - 1)) dX10_back_20 (pk_sub (by omega)) ?_
  refine tr_putI (pc := 21) (x := nI (past.length - 1)) dX10_back_21 (hS.1 50 (13, 45) rfl) fi_X10_85 rfl rfl rfl ?_
  obtain ⟨h1, e1⟩ : ∃ z, z = hs h 50 (upd (h 50) 3 (nI (past.length - 1))) := ⟨_, rfl⟩
  rw [← e1]
  have hs1 : h1 50 3 = nI (past.length - 1) := by rw [e1, f50_s]
  have ha1 : h1 53 = h 53 := by rw [e1, hs_ne (by decide)]
  refine tr_aload_n (pc := 24) 0 dX10_back_24 rfl rfl ?_
  refine tr_getR (pc := 25) (q := 53) dX10_back_25 (hS.1 50 (13, 45) rfl) fi_X10_16 rfl (hS.2 50 2 53 rfl) ?_
  refine tr_sipush (pc := 28) (v := nI 133) dX10_back_28 (by decide) ?_
  refine tr_aload_n (pc := 31) 0 dX10_back_31 rfl rfl ?_
  refine tr_getI (pc := 32) (x := nI (past.length - 1)) dX10_back_32 (hS.1 50 (13, 45) rfl) fi_X10_85 rfl hs1 ?_
  refine tr_imul (pc := 35) (v := nI (133 * (past.length - 1))) dX10_back_35 (pk_mul _ _) ?_
  refine tr_aload_n (pc := 36) 0 dX10_back_36 rfl rfl ?_
  refine tr_getR (pc := 37) (q := 51) dX10_back_37 (hS.1 50 (13, 45) rfl) fi_X10_7 rfl (hS.2 50 0 51 rfl) ?_
  refine tr_iconst (pc := 40) (v := nI 0) dX10_back_40 (by decide) ?_
  refine tr_callS (pc := 41) (rest := []) dX10_back_41 ml_X10_89 cs_X10_bring rfl rfl (Nat.le_of_ble_eq_true rfl) (by decide) (c_bring (o1 := 53) (o2 := 51) (i := 133 * (past.length - 1)) (j := 0) (hS.1 53 _ rfl) (hS.1 51 _ rfl) (by decide) (by omega) (by decide) (by decide) (by decide)) ?_
  rintro _ _ _ ⟨rfl, rfl, g, hg1, hg2, rfl⟩
  have hW1 : RW g 0 (past.getD (past.length - 1) []) := rw_copy (hpv _ (past_get h0)).1 (hpa _ (by omega)) (fun t ht => by rw [hg1 t ht, ha1])
  show T a 20 mX10_back 44 [(0, rv a 50)] [] S (hs h1 51 g) _
  refine tr_aload_n (pc := 44) 0 dX10_back_44 rfl rfl ?_
  refine tr_getI (pc := 45) (x := nI (past.length - 1)) dX10_back_45 (hS.1 50 (13, 45) rfl) fi_X10_85 rfl hs1 ?_
  exact tr_iret (pc := 48) dX10_back_48 rfl rfl (⟨rfl, rfl, km_back hM h0 e1 hW1, by
      subst e1
      exact (MF.rf.hs (by decide)).hs (by decide)⟩)

set_option maxHeartbeats 4000000 in
set_option maxRecDepth 100000 in
theorem c_toldOf0 {a : Am} {S : St} {h : Hp} (hS : IsSt S) {tx : List Nat} {P : Prog} {past : List Prog} {b n f : Int32} (hM : KM h tx P past b n f) (hSN : SN h P) : CT a 0 mX10_toldOf [rv a 50, .int (nI 0)] S h (Rt (aTo tx P past b n f 0) S h) := by
  refine met_of (by decide +kernel) (Nat.le_of_ble_eq_true rfl) ?_
  show T a 0 mX10_toldOf 0 [(0, rv a 50), (1, .int (nI 0))] [] S h _
  refine tr_iload_n (pc := 0) 1 dX10_toldOf_0 rfl rfl ?_
  refine tr_iconst (pc := 1) (v := nI 3) dX10_toldOf_1 (by decide) ?_
  refine tr_icmp_ge (pc := 2) (tgt := 14) dX10_toldOf_2 (by decide) (nI_leI (by omega) (by omega)) (fun hcc => absurd hcc (by decide)) (fun _ => ?_)
  refine tr_aload_n (pc := 5) 0 dX10_toldOf_5 rfl rfl ?_
  refine tr_getR (pc := 6) (q := 54) dX10_toldOf_6 (hS.1 50 (13, 45) rfl) fi_X10_19 rfl (hS.2 50 4 54 rfl) ?_
  refine tr_iload_n (pc := 9) 1 dX10_toldOf_9 rfl rfl ?_
  refine tr_iald (pc := 10) (v := b) 0 dX10_toldOf_10 (hS.1 54 (0, 3) rfl) rfl (by decide) (by decide) hM.2.2.2.1 ?_
  refine tr_goto (pc := 11) (tgt := 56) dX10_toldOf_11 (by decide) ?_
  exact tr_iret (pc := 56) dX10_toldOf_56 rfl rfl (⟨rfl, rfl, rfl⟩)

set_option maxHeartbeats 4000000 in
set_option maxRecDepth 100000 in
theorem c_toldOf1 {a : Am} {S : St} {h : Hp} (hS : IsSt S) {tx : List Nat} {P : Prog} {past : List Prog} {b n f : Int32} (hM : KM h tx P past b n f) (hSN : SN h P) : CT a 0 mX10_toldOf [rv a 50, .int (nI 1)] S h (Rt (aTo tx P past b n f 1) S h) := by
  refine met_of (by decide +kernel) (Nat.le_of_ble_eq_true rfl) ?_
  show T a 0 mX10_toldOf 0 [(0, rv a 50), (1, .int (nI 1))] [] S h _
  refine tr_iload_n (pc := 0) 1 dX10_toldOf_0 rfl rfl ?_
  refine tr_iconst (pc := 1) (v := nI 3) dX10_toldOf_1 (by decide) ?_
  refine tr_icmp_ge (pc := 2) (tgt := 14) dX10_toldOf_2 (by decide) (nI_leI (by omega) (by omega)) (fun hcc => absurd hcc (by decide)) (fun _ => ?_)
  refine tr_aload_n (pc := 5) 0 dX10_toldOf_5 rfl rfl ?_
  refine tr_getR (pc := 6) (q := 54) dX10_toldOf_6 (hS.1 50 (13, 45) rfl) fi_X10_19 rfl (hS.2 50 4 54 rfl) ?_
  refine tr_iload_n (pc := 9) 1 dX10_toldOf_9 rfl rfl ?_
  refine tr_iald (pc := 10) (v := n) 1 dX10_toldOf_10 (hS.1 54 (0, 3) rfl) rfl (by decide) (by decide) hM.2.2.2.2.1 ?_
  refine tr_goto (pc := 11) (tgt := 56) dX10_toldOf_11 (by decide) ?_
  exact tr_iret (pc := 56) dX10_toldOf_56 rfl rfl (⟨rfl, rfl, rfl⟩)

set_option maxHeartbeats 4000000 in
set_option maxRecDepth 100000 in
theorem c_toldOf2 {a : Am} {S : St} {h : Hp} (hS : IsSt S) {tx : List Nat} {P : Prog} {past : List Prog} {b n f : Int32} (hM : KM h tx P past b n f) (hSN : SN h P) : CT a 0 mX10_toldOf [rv a 50, .int (nI 2)] S h (Rt (aTo tx P past b n f 2) S h) := by
  refine met_of (by decide +kernel) (Nat.le_of_ble_eq_true rfl) ?_
  show T a 0 mX10_toldOf 0 [(0, rv a 50), (1, .int (nI 2))] [] S h _
  refine tr_iload_n (pc := 0) 1 dX10_toldOf_0 rfl rfl ?_
  refine tr_iconst (pc := 1) (v := nI 3) dX10_toldOf_1 (by decide) ?_
  refine tr_icmp_ge (pc := 2) (tgt := 14) dX10_toldOf_2 (by decide) (nI_leI (by omega) (by omega)) (fun hcc => absurd hcc (by decide)) (fun _ => ?_)
  refine tr_aload_n (pc := 5) 0 dX10_toldOf_5 rfl rfl ?_
  refine tr_getR (pc := 6) (q := 54) dX10_toldOf_6 (hS.1 50 (13, 45) rfl) fi_X10_19 rfl (hS.2 50 4 54 rfl) ?_
  refine tr_iload_n (pc := 9) 1 dX10_toldOf_9 rfl rfl ?_
  refine tr_iald (pc := 10) (v := f) 2 dX10_toldOf_10 (hS.1 54 (0, 3) rfl) rfl (by decide) (by decide) hM.2.2.2.2.2 ?_
  refine tr_goto (pc := 11) (tgt := 56) dX10_toldOf_11 (by decide) ?_
  exact tr_iret (pc := 56) dX10_toldOf_56 rfl rfl (⟨rfl, rfl, rfl⟩)

set_option maxHeartbeats 4000000 in
set_option maxRecDepth 100000 in
theorem c_toldOf3 {a : Am} {S : St} {h : Hp} (hS : IsSt S) {tx : List Nat} {P : Prog} {past : List Prog} {b n f : Int32} (hM : KM h tx P past b n f) (hSN : SN h P) : CT a 0 mX10_toldOf [rv a 50, .int (nI 3)] S h (Rt (aTo tx P past b n f 3) S h) := by
  refine met_of (by decide +kernel) (Nat.le_of_ble_eq_true rfl) ?_
  show T a 0 mX10_toldOf 0 [(0, rv a 50), (1, .int (nI 3))] [] S h _
  refine tr_iload_n (pc := 0) 1 dX10_toldOf_0 rfl rfl ?_
  refine tr_iconst (pc := 1) (v := nI 3) dX10_toldOf_1 (by decide) ?_
  refine tr_icmp_ge (pc := 2) (tgt := 14) dX10_toldOf_2 (by decide) (nI_leI (by omega) (by omega)) (fun _ => ?_) (fun hcc => absurd (by decide) hcc)
  refine tr_iload_n (pc := 14) 1 dX10_toldOf_14 rfl rfl ?_
  refine tr_iconst (pc := 15) (v := nI 3) dX10_toldOf_15 (by decide) ?_
  refine tr_icmp_ne (pc := 16) (tgt := 26) dX10_toldOf_16 (by decide) (nI_eq (by omega) (by omega)) (fun hcc => absurd (by decide) hcc) (fun _ => ?_)
  refine tr_aload_n (pc := 19) 0 dX10_toldOf_19 rfl rfl ?_
  refine tr_getI (pc := 20) (x := nI tx.length) dX10_toldOf_20 (hS.1 50 (13, 45) rfl) fi_X10_96 rfl hM.1.1 ?_
  refine tr_goto (pc := 23) (tgt := 56) dX10_toldOf_23 (by decide) ?_
  exact tr_iret (pc := 56) dX10_toldOf_56 rfl rfl (⟨rfl, rfl, rfl⟩)

set_option maxHeartbeats 4000000 in
set_option maxRecDepth 100000 in
theorem c_toldOf4 {a : Am} {S : St} {h : Hp} (hS : IsSt S) {tx : List Nat} {P : Prog} {past : List Prog} {b n f : Int32} (hM : KM h tx P past b n f) (hSN : SN h P) : CT a 0 mX10_toldOf [rv a 50, .int (nI 4)] S h (Rt (aTo tx P past b n f 4) S h) := by
  refine met_of (by decide +kernel) (Nat.le_of_ble_eq_true rfl) ?_
  show T a 0 mX10_toldOf 0 [(0, rv a 50), (1, .int (nI 4))] [] S h _
  refine tr_iload_n (pc := 0) 1 dX10_toldOf_0 rfl rfl ?_
  refine tr_iconst (pc := 1) (v := nI 3) dX10_toldOf_1 (by decide) ?_
  refine tr_icmp_ge (pc := 2) (tgt := 14) dX10_toldOf_2 (by decide) (nI_leI (by omega) (by omega)) (fun _ => ?_) (fun hcc => absurd (by decide) hcc)
  refine tr_iload_n (pc := 14) 1 dX10_toldOf_14 rfl rfl ?_
  refine tr_iconst (pc := 15) (v := nI 3) dX10_toldOf_15 (by decide) ?_
  refine tr_icmp_ne (pc := 16) (tgt := 26) dX10_toldOf_16 (by decide) (nI_eq (by omega) (by omega)) (fun _ => ?_) (fun hcc => absurd hcc (by decide))
  refine tr_iload_n (pc := 26) 1 dX10_toldOf_26 rfl rfl ?_
  refine tr_iconst (pc := 27) (v := nI 4) dX10_toldOf_27 (by decide) ?_
  refine tr_icmp_ne (pc := 28) (tgt := 40) dX10_toldOf_28 (by decide) (nI_eq (by omega) (by omega)) (fun hcc => absurd (by decide) hcc) (fun _ => ?_)
  refine tr_aload_n (pc := 31) 0 dX10_toldOf_31 rfl rfl ?_
  refine tr_getR (pc := 32) (q := 51) dX10_toldOf_32 (hS.1 50 (13, 45) rfl) fi_X10_7 rfl (hS.2 50 0 51 rfl) ?_
  refine tr_iconst (pc := 35) (v := nI 0) dX10_toldOf_35 (by decide) ?_
  refine tr_iald (pc := 36) (v := nI P.length) 0 dX10_toldOf_36 (hS.1 51 (0, 133) rfl) rfl (by decide) (by decide) hM.2.1.1 ?_
  refine tr_goto (pc := 37) (tgt := 56) dX10_toldOf_37 (by decide) ?_
  exact tr_iret (pc := 56) dX10_toldOf_56 rfl rfl (⟨rfl, rfl, rfl⟩)

set_option maxHeartbeats 4000000 in
set_option maxRecDepth 100000 in
theorem c_toldOf5 {a : Am} {S : St} {h : Hp} (hS : IsSt S) {tx : List Nat} {P : Prog} {past : List Prog} {b n f : Int32} (hM : KM h tx P past b n f) (hSN : SN h P) : CT a 0 mX10_toldOf [rv a 50, .int (nI 5)] S h (Rt (aTo tx P past b n f 5) S h) := by
  refine met_of (by decide +kernel) (Nat.le_of_ble_eq_true rfl) ?_
  show T a 0 mX10_toldOf 0 [(0, rv a 50), (1, .int (nI 5))] [] S h _
  refine tr_iload_n (pc := 0) 1 dX10_toldOf_0 rfl rfl ?_
  refine tr_iconst (pc := 1) (v := nI 3) dX10_toldOf_1 (by decide) ?_
  refine tr_icmp_ge (pc := 2) (tgt := 14) dX10_toldOf_2 (by decide) (nI_leI (by omega) (by omega)) (fun _ => ?_) (fun hcc => absurd (by decide) hcc)
  refine tr_iload_n (pc := 14) 1 dX10_toldOf_14 rfl rfl ?_
  refine tr_iconst (pc := 15) (v := nI 3) dX10_toldOf_15 (by decide) ?_
  refine tr_icmp_ne (pc := 16) (tgt := 26) dX10_toldOf_16 (by decide) (nI_eq (by omega) (by omega)) (fun _ => ?_) (fun hcc => absurd hcc (by decide))
  refine tr_iload_n (pc := 26) 1 dX10_toldOf_26 rfl rfl ?_
  refine tr_iconst (pc := 27) (v := nI 4) dX10_toldOf_27 (by decide) ?_
  refine tr_icmp_ne (pc := 28) (tgt := 40) dX10_toldOf_28 (by decide) (nI_eq (by omega) (by omega)) (fun _ => ?_) (fun hcc => absurd hcc (by decide))
  refine tr_iload_n (pc := 40) 1 dX10_toldOf_40 rfl rfl ?_
  refine tr_iconst (pc := 41) (v := nI 5) dX10_toldOf_41 (by decide) ?_
  refine tr_icmp_ne (pc := 42) (tgt := 52) dX10_toldOf_42 (by decide) (nI_eq (by omega) (by omega)) (fun hcc => absurd (by decide) hcc) (fun _ => ?_)
  refine tr_aload_n (pc := 45) 0 dX10_toldOf_45 rfl rfl ?_
  refine tr_getI (pc := 46) (x := nI (nSt P)) dX10_toldOf_46 (hS.1 50 (13, 45) rfl) fi_X10_175 rfl hSN.1 ?_
  refine tr_goto (pc := 49) (tgt := 56) dX10_toldOf_49 (by decide) ?_
  exact tr_iret (pc := 56) dX10_toldOf_56 rfl rfl (⟨rfl, rfl, rfl⟩)

set_option maxHeartbeats 4000000 in
set_option maxRecDepth 100000 in
theorem c_toldOf6 {a : Am} {S : St} {h : Hp} (hS : IsSt S) {tx : List Nat} {P : Prog} {past : List Prog} {b n f : Int32} (hM : KM h tx P past b n f) (hSN : SN h P) : CT a 0 mX10_toldOf [rv a 50, .int (nI 6)] S h (Rt (aTo tx P past b n f 6) S h) := by
  refine met_of (by decide +kernel) (Nat.le_of_ble_eq_true rfl) ?_
  show T a 0 mX10_toldOf 0 [(0, rv a 50), (1, .int (nI 6))] [] S h _
  refine tr_iload_n (pc := 0) 1 dX10_toldOf_0 rfl rfl ?_
  refine tr_iconst (pc := 1) (v := nI 3) dX10_toldOf_1 (by decide) ?_
  refine tr_icmp_ge (pc := 2) (tgt := 14) dX10_toldOf_2 (by decide) (nI_leI (by omega) (by omega)) (fun _ => ?_) (fun hcc => absurd (by decide) hcc)
  refine tr_iload_n (pc := 14) 1 dX10_toldOf_14 rfl rfl ?_
  refine tr_iconst (pc := 15) (v := nI 3) dX10_toldOf_15 (by decide) ?_
  refine tr_icmp_ne (pc := 16) (tgt := 26) dX10_toldOf_16 (by decide) (nI_eq (by omega) (by omega)) (fun _ => ?_) (fun hcc => absurd hcc (by decide))
  refine tr_iload_n (pc := 26) 1 dX10_toldOf_26 rfl rfl ?_
  refine tr_iconst (pc := 27) (v := nI 4) dX10_toldOf_27 (by decide) ?_
  refine tr_icmp_ne (pc := 28) (tgt := 40) dX10_toldOf_28 (by decide) (nI_eq (by omega) (by omega)) (fun _ => ?_) (fun hcc => absurd hcc (by decide))
  refine tr_iload_n (pc := 40) 1 dX10_toldOf_40 rfl rfl ?_
  refine tr_iconst (pc := 41) (v := nI 5) dX10_toldOf_41 (by decide) ?_
  refine tr_icmp_ne (pc := 42) (tgt := 52) dX10_toldOf_42 (by decide) (nI_eq (by omega) (by omega)) (fun _ => ?_) (fun hcc => absurd hcc (by decide))
  refine tr_aload_n (pc := 52) 0 dX10_toldOf_52 rfl rfl ?_
  refine tr_getI (pc := 53) (x := nI past.length) dX10_toldOf_53 (hS.1 50 (13, 45) rfl) fi_X10_85 rfl hM.2.2.1.1 ?_
  exact tr_iret (pc := 56) dX10_toldOf_56 rfl rfl (⟨rfl, rfl, rfl⟩)

theorem c_toldOfA {a : Am} {S : St} {h : Hp} (hS : IsSt S) {tx : List Nat} {P : Prog} {past : List Prog} {b n f : Int32} (hM : KM h tx P past b n f) (hSN : SN h P) {w : Nat} (hw : w < 7) : CT a 0 mX10_toldOf [rv a 50, .int (nI w)] S h (Rt (aTo tx P past b n f w) S h) := by
  rcases (by omega : w = 0 ∨ w = 1 ∨ w = 2 ∨ w = 3 ∨ w = 4 ∨ w = 5 ∨ w = 6) with rfl | rfl | rfl | rfl | rfl | rfl | rfl
  · exact c_toldOf0 hS hM hSN
  · exact c_toldOf1 hS hM hSN
  · exact c_toldOf2 hS hM hSN
  · exact c_toldOf3 hS hM hSN
  · exact c_toldOf4 hS hM hSN
  · exact c_toldOf5 hS hM hSN
  · exact c_toldOf6 hS hM hSN
set_option maxHeartbeats 4000000 in
set_option maxRecDepth 100000 in
theorem n_told_1 {a : Am} {S : St} {h : Hp} (hS : IsSt S) {tx : List Nat} {P : Prog} {past : List Prog} {b n f : Int32} (hM : KM h tx P past b n f) (hv : TV tx) (hVP : VP P) (hpv : ∀ Q ∈ past, VP Q) (hp5 : past.length ≤ 5) {x : Int32} (hx : outN x 7) : CT a 20 mX10_told [rv a 50, .int x] S h (fun v S' h' => v = some (.int (-2)) ∧ S = S' ∧ KM h' tx P past (b + nI 1) n f ∧ MF h h') := by
  obtain ⟨hX, hN, ⟨hst, hpa⟩, hrf⟩ := hM
  have hM : KM h tx P past b n f := ⟨hX, hN, ⟨hst, hpa⟩, hrf⟩
  have hVB := hVP.1
  have hV1 := hVB.1
  have hv200 := hv.1
  have hnS := nSt_le hVB
  refine met_of (by decide +kernel) (Nat.le_of_ble_eq_true rfl) ?_
  show T a 20 mX10_told 0 [(0, rv a 50), (1, .int x)] [] S h _
  refine tr_aload_n (pc := 0) 0 dX10_told_0 rfl rfl ?_
  refine tr_callV (pc := 1) (rest := []) (ci := 10) dX10_told_1 ml_X10_196 cv_X10_findSites rfl rfl (Nat.le_of_ble_eq_true rfl) (hS.1 50 (13, 45) rfl) rfl (by decide) (c_findSites hS hVB hN) ?_
  rintro _ _ h1 ⟨rfl, rfl, hSN1, hf1⟩
  have hM1 := hM.q hf1 (by decide) (by decide) (by decide) (by decide) (by decide) (by decide)
  have hN1 := hM1.2.1
  have hF1 : MF h h1 := hf1.mf (by decide)
  show T a 20 mX10_told 4 [(0, rv a 50), (1, .int x)] [] S h1 _
  refine tr_iload_n (pc := 4) 1 dX10_told_4 rfl rfl ?_
  refine tr_iconst (pc := 5) (v := nI 0) dX10_told_5 (by decide) ?_
  refine tr_bipush (pc := 6) (v := nI 6) dX10_told_6 (by decide) ?_
  refine tr_callS (pc := 8) (rest := []) dX10_told_8 ml_X10_99 cs_X10_in rfl rfl (Nat.le_of_ble_eq_true rfl) (by decide) (c_min_out (mo_out (N := 6) hx (by decide))) ?_
  rintro _ _ _ ⟨rfl, rfl, rfl⟩
  show T a 20 mX10_told 11 [(0, rv a 50), (1, .int x)] [.int (nI 0)] S h1 _
  refine tr_if_eq (pc := 11) (tgt := 22) dX10_told_11 (by decide) (nI_z_eq (by omega)) (fun _ => ?_) (fun hcc => absurd (by decide) hcc)
  refine tr_aload_n (pc := 22) 0 dX10_told_22 rfl rfl ?_
  refine tr_bipush (pc := 23) (v := -2) dX10_told_23 (by decide) ?_
  refine tr_callV (pc := 25) (rest := []) (ci := 10) dX10_told_25 ml_X10_156 cv_X10_refuse rfl rfl (Nat.le_of_ble_eq_true rfl) (hS.1 50 (13, 45) rfl) rfl (by decide) (c_mref0 hS hM1) ?_
  rintro _ _ h9 ⟨rfl, rfl, hM9, hF9⟩
  show T a 20 mX10_told 28 [(0, rv a 50), (1, .int x)] [.int (-2)] S h9 _
  exact tr_iret (pc := 28) dX10_told_28 rfl rfl (⟨rfl, rfl, hM9, hF1.trans hF9⟩)

set_option maxHeartbeats 4000000 in
set_option maxRecDepth 100000 in
theorem n_told_o {a : Am} {S : St} {h : Hp} (hS : IsSt S) {tx : List Nat} {P : Prog} {past : List Prog} {b n f : Int32} (hM : KM h tx P past b n f) (hv : TV tx) (hVP : VP P) (hpv : ∀ Q ∈ past, VP Q) (hp5 : past.length ≤ 5) {w : Nat} (hw : w < 7) : CT a 20 mX10_told [rv a 50, .int (nI w)] S h (fun v S' h' => v = some (.int (aTo tx P past b n f w)) ∧ S = S' ∧ KM h' tx P past b n f ∧ MF h h') := by
  obtain ⟨hX, hN, ⟨hst, hpa⟩, hrf⟩ := hM
  have hM : KM h tx P past b n f := ⟨hX, hN, ⟨hst, hpa⟩, hrf⟩
  have hVB := hVP.1
  have hV1 := hVB.1
  have hv200 := hv.1
  have hnS := nSt_le hVB
  refine met_of (by decide +kernel) (Nat.le_of_ble_eq_true rfl) ?_
  show T a 20 mX10_told 0 [(0, rv a 50), (1, .int (nI w))] [] S h _
  refine tr_aload_n (pc := 0) 0 dX10_told_0 rfl rfl ?_
  refine tr_callV (pc := 1) (rest := []) (ci := 10) dX10_told_1 ml_X10_196 cv_X10_findSites rfl rfl (Nat.le_of_ble_eq_true rfl) (hS.1 50 (13, 45) rfl) rfl (by decide) (c_findSites hS hVB hN) ?_
  rintro _ _ h1 ⟨rfl, rfl, hSN1, hf1⟩
  have hM1 := hM.q hf1 (by decide) (by decide) (by decide) (by decide) (by decide) (by decide)
  have hN1 := hM1.2.1
  have hF1 : MF h h1 := hf1.mf (by decide)
  show T a 20 mX10_told 4 [(0, rv a 50), (1, .int (nI w))] [] S h1 _
  refine tr_iload_n (pc := 4) 1 dX10_told_4 rfl rfl ?_
  refine tr_iconst (pc := 5) (v := nI 0) dX10_told_5 (by decide) ?_
  refine tr_bipush (pc := 6) (v := nI 6) dX10_told_6 (by decide) ?_
  refine tr_callS (pc := 8) (rest := []) dX10_told_8 ml_X10_99 cs_X10_in rfl rfl (Nat.le_of_ble_eq_true rfl) (by decide) (c_min_in (mo_in (N := 6) (by omega) (by decide)).1 (mo_in (N := 6) (by omega) (by decide)).2) ?_
  rintro _ _ _ ⟨rfl, rfl, rfl⟩
  show T a 20 mX10_told 11 [(0, rv a 50), (1, .int (nI w))] [.int (nI 1)] S h1 _
  refine tr_if_eq (pc := 11) (tgt := 22) dX10_told_11 (by decide) (nI_z_eq (by omega)) (fun hcc => absurd hcc (by decide)) (fun _ => ?_)
  refine tr_aload_n (pc := 14) 0 dX10_told_14 rfl rfl ?_
  refine tr_iload_n (pc := 15) 1 dX10_told_15 rfl rfl ?_
  refine tr_callV (pc := 16) (rest := []) (ci := 10) dX10_told_16 ml_X10_285 cv_X10_toldOf rfl rfl (Nat.le_of_ble_eq_true rfl) (hS.1 50 (13, 45) rfl) rfl (by decide) (c_toldOfA hS hM1 hSN1 hw) ?_
  rintro _ _ _ ⟨rfl, rfl, rfl⟩
  show T a 20 mX10_told 19 [(0, rv a 50), (1, .int (nI w))] [.int (aTo tx P past b n f w)] S h1 _
  refine tr_goto (pc := 19) (tgt := 28) dX10_told_19 (by decide) ?_
  exact tr_iret (pc := 28) dX10_told_28 rfl rfl (⟨rfl, rfl, hM1, hF1⟩)
