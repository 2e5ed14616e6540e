theorem c_ofA {a : Am} {S : St} {h : Hp} (hS : IsSt S) {P : Prog} (hV : VB P) (hMP : MP h 3 P) (hFn : Fnd h P) {m : Nat} (hm : m < P.length) {w : Nat} (hw : w < 5) : CT a 3 mX9_ofMethod [rv a 0, .int (nI m), .int (nI w)] S h (Rt (aOf P m w) S h) := by
  rcases (by omega : w = 0 ∨ w = 1 ∨ w = 2 ∨ w = 3 ∨ w = 4) with rfl | rfl | rfl | rfl | rfl
  · exact c_of0 hS hV hMP hFn hm
  · exact c_of1 hS hV hMP hFn hm
  · exact c_of2 hS hV hMP hFn hm
  · exact c_of3 hS hV hMP hFn hm
  · exact c_of4 hS hV hMP hFn hm
theorem c_lineA {a : Am} {S : St} {h : Hp} (hS : IsSt S) {P : Prog} (hV : VB P) (hMP : MP h 3 P) (hFn : Fnd h P) {m i : Nat} (hi : i < lnN P m) {w : Nat} (hw : w < 5) : CT a 3 mX9_ofLine [rv a 0, .int (nI m), .int (nI i), .int (nI w)] S h (Rt (aLine P m i w) S h) := by
  rcases (by omega : w = 0 ∨ w = 1 ∨ w = 2 ∨ w = 3 ∨ w = 4) with rfl | rfl | rfl | rfl | rfl
  · exact c_line0 hS hV hMP hFn hi
  · exact c_line1 hS hV hMP hFn hi
  · exact c_line2 hS hV hMP hFn hi
  · exact c_line3 hS hV hMP hFn hi
  · exact c_line4 hS hV hMP hFn hi
theorem c_siteA {a : Am} {S : St} {h : Hp} (hS : IsSt S) {P : Prog} (hV : VB P) (hFn : Fnd h P) {s : Nat} (hs : s < nSt P) {w : Nat} (hw : w < 4) : CT a 3 mX9_ofSite [rv a 0, .int (nI s), .int (nI w)] S h (Rt (aSite P s w) S h) := by
  rcases (by omega : w = 0 ∨ w = 1 ∨ w = 2 ∨ w = 3) with rfl | rfl | rfl | rfl
  · exact c_site0 hS hV hFn hs
  · exact c_site1 hS hV hFn hs
  · exact c_site2 hS hV hFn hs
  · exact c_site3 hS hV hFn hs
theorem c_orunA {a : Am} {S : St} {h : Hp} (hS : IsSt S) {P : Prog} (hTr : TrOk S h P) {w : Nat} (hw : w < 6) : CT a 1 mX9_ofRun [rv a 0, .int (nI w)] S h (Rt (aRun P w) S h) := by
  rcases (by omega : w = 0 ∨ w = 1 ∨ w = 2 ∨ w = 3 ∨ w = 4 ∨ w = 5) with rfl | rfl | rfl | rfl | rfl | rfl
  · exact c_orun0 hS hTr
  · exact c_orun1 hS hTr
  · exact c_orun2 hS hTr
  · exact c_orun3 hS hTr
  · exact c_orun4 hS hTr
  · exact c_orun5 hS hTr
theorem c_oranA {a : Am} {S : St} {h : Hp} (hS : IsSt S) {P : Prog} (hTr : TrOk S h P) {s : Nat} (hs : s < 32) {w : Nat} (hw : w < 3) : CT a 2 mX9_ofSiteRun [rv a 0, .int (nI s), .int (nI w)] S h (Rt (aRan P s w) S h) := by
  rcases (by omega : w = 0 ∨ w = 1 ∨ w = 2) with rfl | rfl | rfl
  · exact c_oran0 hS hTr hs
  · exact c_oran1 hS hTr hs
  · exact c_oran2 hS hTr hs
theorem KS.lo {S : St} {h h' : Hp} {tx tx' : List Nat} {P : Prog} {past : List Prog} {b n f : Int32} (hC : KS S h tx P past b n f) (hh : ∀ o, o = 0 ∨ (3 ≤ o ∧ o ≤ 5) ∨ 14 ≤ o → h' o = h o) (hT : TX h' tx') (hv : TV tx') : KS S h' tx' P past b n f := by
  obtain ⟨c1, c2, c3, ⟨⟨r, c4⟩, c5⟩, c6, c7⟩ := hC
  refine ⟨c1, ⟨hT, hv⟩, ⟨?_, c3.2⟩, ⟨⟨r, c4.fr (fun o p q => hh o (by omega)) rfl⟩, c5⟩, ?_, c7.1, ?_⟩
  · unfold MP; rw [hh 3 (by decide), hh (3 + 1) (by decide), hh (3 + 2) (by decide)]; exact c3.1
  · rw [hh 0 (by decide)]; exact c6
  · rw [hh 0 (by decide)]
    refine c7.2.imp id (fun w => ⟨w.1, w.2.1.fr (L := [1, 2, 6, 7, 8, 9, 10, 11, 12, 13]) (fun o ho => hh o ?_) (by decide), w.2.2.imp id (fun z => ⟨z.1, z.2.fr (fun o ho => hh o ?_)⟩)⟩)
    · by_cases q : o = 0 ∨ (3 ≤ o ∧ o ≤ 5) ∨ 14 ≤ o
      · exact q
      · refine absurd ?_ ho
        simp only [List.mem_cons, List.not_mem_nil, or_false]
        omega
    · rcases ho with q | q
      · simp only [tL, List.mem_cons, List.not_mem_nil, or_false] at q
        omega
      · omega
theorem tv_app {tx : List Nat} {k : Nat} (hv : TV tx) (hl : tx.length < 200) (hk : k < 128) : TV (tx ++ [k]) := by
  refine ⟨by simp; omega, fun c hc => ?_⟩
  rcases List.mem_append.1 hc with q | q
  · exact hv.2 c q
  · simp at q; omega
theorem tv_nil : TV [] := ⟨by simp, fun c hc => absurd hc (by simp)⟩
/-- what is told of all -/
def aTo (tx : List Nat) (P : Prog) (past : List Prog) (b n f : Int32) (w : Nat) : Int32 := match w with
  | 0 => b
  | 1 => n
  | 2 => f
  | 3 => nI tx.length
  | 4 => nI P.length
  | 5 => nI (nSt P)
  | _ => nI past.length
theorem past_get {past : List Prog} (h : 0 < past.length) : past.getD (past.length - 1) [] ∈ past := by
  rw [List.getD_eq_getElem?_getD, List.getElem?_eq_getElem (by omega)]
  exact List.getElem_mem (by omega)
set_option maxHeartbeats 4000000 in
set_option maxRecDepth 100000 in
theorem q_type_b {a : Am} {S : St} {h : Hp} {tx : List Nat} {P : Prog} {past : List Prog} {b n f : Int32} (hC : KS S h tx P past b n f) {c : Int32} (hc : outN c 128) : CT a 20 mX9_type [rv a 0, .int c] S h (fun v S' h' => v = some (.int (-2)) ∧ KS S' h' tx P past (b + nI 1) n f ∧ CF h h') := by
  have hS := hC.1
  obtain ⟨hT, hv⟩ := hC.2.1
  obtain ⟨hMP, hVP⟩ := hC.2.2.1
  have hVB := hVP.1
  have hV1 := hVB.1
  have hnS := nSt_le hVB
  obtain ⟨⟨rr, hSP⟩, hpv⟩ := hC.2.2.2.1
  have hp5 := hSP.2.1
  have hv200 := hv.1
  refine met_of (by decide +kernel) (Nat.le_of_ble_eq_true rfl) ?_
  show T a 20 mX9_type 0 [(0, rv a 0), (1, .int c)] [] S h _
  refine tr_iload_n (pc := 0) 1 dX9_type_0 rfl rfl ?_
  refine tr_sipush (pc := 1) (v := nI 128) dX9_type_1 (by decide) ?_
  refine tr_callS (pc := 4) (rest := []) dX9_type_4 ml_X9_76 cs_X9_isOutside rfl rfl (Nat.le_of_ble_eq_true rfl) (by decide) (c_isOut_out hc) ?_
  rintro _ _ _ ⟨rfl, rfl, rfl⟩
  show T a 20 mX9_type 7 [(0, rv a 0), (1, .int c)] [.int (nI 1)] S h _
  refine tr_if_eq (pc := 7) (tgt := 15) dX9_type_7 (by decide) (nI_z_eq (by omega)) (fun hcc => absurd hcc (by decide)) (fun _ => ?_)
  refine tr_aload_n (pc := 10) 0 dX9_type_10 rfl rfl ?_
  refine tr_callV (pc := 11) (rest := []) (ci := 9) dX9_type_11 ml_X9_80 cv_X9_refusedAsBad rfl rfl (Nat.le_of_ble_eq_true rfl) (hS.1 0 (12, 14) rfl) rfl (by decide) (c_rbad hC) ?_
  rintro _ S9 h9 ⟨rfl, hC9, hF9⟩
  show T a 20 mX9_type 14 [(0, rv a 0), (1, .int c)] [.int (-2)] S9 h9 _
  exact tr_iret (pc := 14) dX9_type_14 rfl rfl (⟨rfl, hC9, hF9⟩)

set_option maxHeartbeats 4000000 in
set_option maxRecDepth 100000 in
theorem q_type_f {a : Am} {S : St} {h : Hp} {tx : List Nat} {P : Prog} {past : List Prog} {b n f : Int32} (hC : KS S h tx P past b n f) {k : Nat} (hk : k < 128) (hl : tx.length = 200) : CT a 20 mX9_type [rv a 0, .int (nI k)] S h (fun v S' h' => v = some (.int (-4)) ∧ KS S' h' tx P past b n (f + nI 1) ∧ CF h h') := by
  have hS := hC.1
  obtain ⟨hT, hv⟩ := hC.2.1
  obtain ⟨hMP, hVP⟩ := hC.2.2.1
  have hVB := hVP.1
  have hV1 := hVB.1
  have hnS := nSt_le hVB
  obtain ⟨⟨rr, hSP⟩, hpv⟩ := hC.2.2.2.1
  have hp5 := hSP.2.1
  have hv200 := hv.1
  refine met_of (by decide +kernel) (Nat.le_of_ble_eq_true rfl) ?_
  show T a 20 mX9_type 0 [(0, rv a 0), (1, .int (nI k))] [] S h _
  refine tr_iload_n (pc := 0) 1 dX9_type_0 rfl rfl ?_
  refine tr_sipush (pc := 1) (v := nI 128) dX9_type_1 (by decide) ?_
  refine tr_callS (pc := 4) (rest := []) dX9_type_4 ml_X9_76 cs_X9_isOutside rfl rfl (Nat.le_of_ble_eq_true rfl) (by decide) (c_isOut_in hk (by omega)) ?_
  rintro _ _ _ ⟨rfl, rfl, rfl⟩
  show T a 20 mX9_type 7 [(0, rv a 0), (1, .int (nI k))] [.int (nI 0)] S h _
  refine tr_if_eq (pc := 7) (tgt := 15) dX9_type_7 (by decide) (nI_z_eq (by omega)) (fun _ => ?_) (fun hcc => absurd (by decide) hcc)
  refine tr_aload_n (pc := 15) 0 dX9_type_15 rfl rfl ?_
  refine tr_getR (pc := 16) (q := 1) dX9_type_16 (hS.1 0 (12, 14) rfl) fi_X9_12 rfl (hS.2 0 0 1 rfl) ?_
  refine tr_callV (pc := 19) (rest := []) (ci := 6) dX9_type_19 ml_X9_84 cv_X6_isFull rfl rfl (Nat.le_of_ble_eq_true rfl) (hS.1 1 (9, 2) rfl) rfl (by decide) (c_isFull_y hS hT hv hl) ?_
  rintro _ _ _ ⟨rfl, rfl, rfl⟩
  show T a 20 mX9_type 22 [(0, rv a 0), (1, .int (nI k))] [.int (nI 1)] S h _
  refine tr_if_eq (pc := 22) (tgt := 30) dX9_type_22 (by decide) (nI_z_eq (by omega)) (fun hcc => absurd hcc (by decide)) (fun _ => ?_)
  refine tr_aload_n (pc := 25) 0 dX9_type_25 rfl rfl ?_
  refine tr_callV (pc := 26) (rest := []) (ci := 9) dX9_type_26 ml_X9_88 cv_X9_refusedAsFull rfl rfl (Nat.le_of_ble_eq_true rfl) (hS.1 0 (12, 14) rfl) rfl (by decide) (c_rfull hC) ?_
  rintro _ S9 h9 ⟨rfl, hC9, hF9⟩
  show T a 20 mX9_type 29 [(0, rv a 0), (1, .int (nI k))] [.int (-4)] S9 h9 _
  exact tr_iret (pc := 29) dX9_type_29 rfl rfl (⟨rfl, hC9, hF9⟩)

set_option maxHeartbeats 4000000 in
set_option maxRecDepth 100000 in
theorem q_type_o {a : Am} {S : St} {h : Hp} {tx : List Nat} {P : Prog} {past : List Prog} {b n f : Int32} (hC : KS S h tx P past b n f) {k : Nat} (hk : k < 128) (hl : tx.length < 200) : CT a 20 mX9_type [rv a 0, .int (nI k)] S h (fun v S' h' => v = some (.int (nI (tx.length + 1))) ∧ KS S' h' (tx ++ [k]) P past b n f ∧ CF h h') := by
  have hS := hC.1
  obtain ⟨hT, hv⟩ := hC.2.1
  obtain ⟨hMP, hVP⟩ := hC.2.2.1
  have hVB := hVP.1
  have hV1 := hVB.1
  have hnS := nSt_le hVB
  obtain ⟨⟨rr, hSP⟩, hpv⟩ := hC.2.2.2.1
  have hp5 := hSP.2.1
  have hv200 := hv.1
  refine met_of (by decide +kernel) (Nat.le_of_ble_eq_true rfl) ?_
  show T a 20 mX9_type 0 [(0, rv a 0), (1, .int (nI k))] [] S h _
  refine tr_iload_n (pc := 0) 1 dX9_type_0 rfl rfl ?_
  refine tr_sipush (pc := 1) (v := nI 128) dX9_type_1 (by decide) ?_
  refine tr_callS (pc := 4) (rest := []) dX9_type_4 ml_X9_76 cs_X9_isOutside rfl rfl (Nat.le_of_ble_eq_true rfl) (by decide) (c_isOut_in hk (by omega)) ?_
  rintro _ _ _ ⟨rfl, rfl, rfl⟩
  show T a 20 mX9_type 7 [(0, rv a 0), (1, .int (nI k))] [.int (nI 0)] S h _
  refine tr_if_eq (pc := 7) (tgt := 15) dX9_type_7 (by decide) (nI_z_eq (by omega)) (fun _ => ?_) (fun hcc => absurd (by decide) hcc)
  refine tr_aload_n (pc := 15) 0 dX9_type_15 rfl rfl ?_
  refine tr_getR (pc := 16) (q := 1) dX9_type_16 (hS.1 0 (12, 14) rfl) fi_X9_12 rfl (hS.2 0 0 1 rfl) ?_
  refine tr_callV (pc := 19) (rest := []) (ci := 6) dX9_type_19 ml_X9_84 cv_X6_isFull rfl rfl (Nat.le_of_ble_eq_true rfl) (hS.1 1 (9, 2) rfl) rfl (by decide) (c_isFull_n hS hT hv hl) ?_
  rintro _ _ _ ⟨rfl, rfl, rfl⟩
  show T a 20 mX9_type 22 [(0, rv a 0), (1, .int (nI k))] [.int (nI 0)] S h _
  refine tr_if_eq (pc := 22) (tgt := 30) dX9_type_22 (by decide) (nI_z_eq (by omega)) (fun _ => ?_) (fun hcc => absurd (by decide) hcc)
  refine tr_aload_n (pc := 30) 0 dX9_type_30 rfl rfl ?_
  refine tr_getR (pc := 31) (q := 1) dX9_type_31 (hS.1 0 (12, 14) rfl) fi_X9_12 rfl (hS.2 0 0 1 rfl) ?_
  refine tr_iload_n (pc := 34) 1 dX9_type_34 rfl rfl ?_
  refine tr_callV (pc := 35) (rest := []) (ci := 6) dX9_type_35 ml_X9_91 cv_X6_append rfl rfl (Nat.le_of_ble_eq_true rfl) (hS.1 1 (9, 2) rfl) rfl (by decide) (c_append hS hT hv hk hl) ?_
  rintro _ _ h1 ⟨rfl, rfl, hT1, hF1⟩
  have hv1 := tv_app hv hl hk
  show T a 20 mX9_type 38 [(0, rv a 0), (1, .int (nI k))] [] S h1 _
  refine tr_aload_n (pc := 38) 0 dX9_type_38 rfl rfl ?_
  refine tr_getR (pc := 39) (q := 1) dX9_type_39 (hS.1 0 (12, 14) rfl) fi_X9_12 rfl (hS.2 0 0 1 rfl) ?_
  refine tr_callV (pc := 42) (rest := []) (ci := 6) dX9_type_42 ml_X9_95 cv_X6_length rfl rfl (Nat.le_of_ble_eq_true rfl) (hS.1 1 (9, 2) rfl) rfl (by decide) (c_length hS hT1 hv1) ?_
  rintro _ _ _ ⟨rfl, rfl, rfl⟩
  show T a 20 mX9_type 45 [(0, rv a 0), (1, .int (nI k))] [.int (nI ((tx ++ [k]).length))] S h1 _
  exact tr_iret (pc := 45) dX9_type_45 rfl rfl (⟨by rw [List.length_append]; rfl, hC.lo (fun o ho => hF1 o (fun z => by simp only [List.mem_cons, List.not_mem_nil, or_false] at z; omega)) hT1 hv1, CF.of hF1 (by decide)⟩)

set_option maxHeartbeats 4000000 in
set_option maxRecDepth 100000 in
theorem q_clear {a : Am} {S : St} {h : Hp} {tx : List Nat} {P : Prog} {past : List Prog} {b n f : Int32} (hC : KS S h tx P past b n f) : CT a 20 mX9_clear [rv a 0] S h (fun v S' h' => v = some (.int (nI tx.length)) ∧ KS S' h' ([]) P past b n f ∧ CF h h') := by
  have hS := hC.1
  obtain ⟨hT, hv⟩ := hC.2.1
  obtain ⟨hMP, hVP⟩ := hC.2.2.1
  have hVB := hVP.1
  have hV1 := hVB.1
  have hnS := nSt_le hVB
  obtain ⟨⟨rr, hSP⟩, hpv⟩ := hC.2.2.2.1
  have hp5 := hSP.2.1
  have hv200 := hv.1
  refine met_of (by decide +kernel) (Nat.le_of_ble_eq_true rfl) ?_
  show T a 20 mX9_clear 0 [(0, rv a 0)] [] S h _
  refine tr_aload_n (pc := 0) 0 dX9_clear_0 rfl rfl ?_
  refine tr_getR (pc := 1) (q := 1) dX9_clear_1 (hS.1 0 (12, 14) rfl) fi_X9_12 rfl (hS.2 0 0 1 rfl) ?_
  refine tr_callV (pc := 4) (rest := []) (ci := 6) dX9_clear_4 ml_X9_95 cv_X6_length rfl rfl (Nat.le_of_ble_eq_true rfl) (hS.1 1 (9, 2) rfl) rfl (by decide) (c_length hS hT hv) ?_
  rintro _ _ _ ⟨rfl, rfl, rfl⟩
  show T a 20 mX9_clear 7 [(0, rv a 0)] [.int (nI tx.length)] S h _
  refine tr_istore_n (pc := 7) (lv' := [(1, .int (nI tx.length)), (0, rv a 0)]) dX9_clear_7 rfl (by decide) rfl ?_
  refine tr_aload_n (pc := 8) 1 dX9_clear_8 rfl rfl ?_
  refine tr_getR (pc := 9) (q := 1) dX9_clear_9 (hS.1 0 (12, 14) rfl) fi_X9_12 rfl (hS.2 0 0 1 rfl) ?_
  refine tr_callV (pc := 12) (rest := []) (ci := 6) dX9_clear_12 ml_X9_98 cv_X6_empty rfl rfl (Nat.le_of_ble_eq_true rfl) (hS.1 1 (9, 2) rfl) rfl (by decide) (c_empty hS) ?_
  rintro _ _ h1 ⟨rfl, rfl, hT1, hF1⟩
  show T a 20 mX9_clear 15 [(1, .int (nI tx.length)), (0, rv a 0)] [] S h1 _
  refine tr_iload_n (pc := 15) 0 dX9_clear_15 rfl rfl ?_
  exact tr_iret (pc := 16) dX9_clear_16 rfl rfl (⟨rfl, hC.lo (fun o ho => hF1 o (fun z => by simp only [List.mem_cons, List.not_mem_nil, or_false] at z; omega)) hT1 tv_nil, CF.of hF1 (by decide)⟩)

set_option maxHeartbeats 4000000 in
set_option maxRecDepth 100000 in
theorem q_reads_e {a : Am} {S : St} {h : Hp} {tx : List Nat} {P : Prog} {past : List Prog} {b n f : Int32} (hC : KS S h tx P past b n f) {e : Nat} (hr : rdA tx = .error e) : CT a 20 mX9_reads [rv a 0] S h (fun v S' h' => v = some (.int (-10 - nI e)) ∧ KS S' h' tx P past b n f ∧ CF h h') := by
  have hS := hC.1
  obtain ⟨hT, hv⟩ := hC.2.1
  obtain ⟨hMP, hVP⟩ := hC.2.2.1
  have hVB := hVP.1
  have hV1 := hVB.1
  have hnS := nSt_le hVB
  obtain ⟨⟨rr, hSP⟩, hpv⟩ := hC.2.2.2.1
  have hp5 := hSP.2.1
  have hv200 := hv.1
  have hra : rAns (rdA tx) = nI e := by rw [hr]; rfl
  refine met_of (by decide +kernel) (Nat.le_of_ble_eq_true rfl) ?_
  show T a 20 mX9_reads 0 [(0, rv a 0)] [] S h _
  refine tr_aload_n (pc := 0) 0 dX9_reads_0 rfl rfl ?_
  refine tr_getR (pc := 1) (q := 9) dX9_reads_1 (hS.1 0 (12, 14) rfl) fi_X9_31 rfl (hS.2 0 3 9 rfl) ?_
  refine tr_callV (pc := 4) (rest := []) (ci := 3) dX9_reads_4 ml_X9_101 cv_X3_readAll rfl rfl (Nat.le_of_ble_eq_true rfl) (hS.1 9 (6, 9) rfl) rfl (by decide) (c_readAll hS hT hv) ?_
  rintro _ _ h0 ⟨rfl, rfl, hF0, hP0⟩
  rw [hra]
  have hC0 : KS S h0 tx P past b n f := hC.lo (fun o ho => hF0 o (fun z => by simp only [List.mem_cons, List.not_mem_nil, or_false] at z; omega)) (hT.fr hF0 (by decide) (by decide)) hv
  have hc0 : CF h h0 := CF.of hF0 (by decide)
  show T a 20 mX9_reads 7 [(0, rv a 0)] [.int (nI e)] S h0 _
  refine tr_istore_n (pc := 7) (lv' := [(1, .int (nI e)), (0, rv a 0)]) dX9_reads_7 rfl (by decide) rfl ?_
  refine tr_iload_n (pc := 8) 0 dX9_reads_8 rfl rfl ?_
  refine tr_iconst (pc := 9) (v := -1) dX9_reads_9 (by decide) ?_
  refine tr_icmp_eq (pc := 10) (tgt := 18) dX9_reads_10 (by decide) Iff.rfl (fun hcc => absurd hcc (nI_nm (by have := rdA_le hr; omega))) (fun _ => ?_)
  refine tr_bipush (pc := 13) (v := -10) dX9_reads_13 (by decide) ?_
  refine tr_iload_n (pc := 15) 0 dX9_reads_15 rfl rfl ?_
  refine tr_isub (pc := 16) (v := (-10) - (nI e)) dX9_reads_16 rfl ?_
  exact tr_iret (pc := 17) dX9_reads_17 rfl rfl (⟨rfl, hC0, hc0⟩)

set_option maxHeartbeats 4000000 in
set_option maxRecDepth 100000 in
theorem q_reads_o {a : Am} {S : St} {h : Hp} {tx : List Nat} {P : Prog} {past : List Prog} {b n f : Int32} (hC : KS S h tx P past b n f) {P1 : Prog} (hr : rdA tx = .ok P1) : CT a 20 mX9_reads [rv a 0] S h (fun v S' h' => v = some (.int (nI P1.length)) ∧ KS S' h' tx P1 (keepP past P) b n f ∧ CF h h') := by
  have hS := hC.1
  obtain ⟨hT, hv⟩ := hC.2.1
  obtain ⟨hMP, hVP⟩ := hC.2.2.1
  have hVB := hVP.1
  have hV1 := hVB.1
  have hnS := nSt_le hVB
  obtain ⟨⟨rr, hSP⟩, hpv⟩ := hC.2.2.2.1
  have hp5 := hSP.2.1
  have hv200 := hv.1
  have hra : rAns (rdA tx) = -1 := by rw [hr]; rfl
  refine met_of (by decide +kernel) (Nat.le_of_ble_eq_true rfl) ?_
  show T a 20 mX9_reads 0 [(0, rv a 0)] [] S h _
  refine tr_aload_n (pc := 0) 0 dX9_reads_0 rfl rfl ?_
  refine tr_getR (pc := 1) (q := 9) dX9_reads_1 (hS.1 0 (12, 14) rfl) fi_X9_31 rfl (hS.2 0 3 9 rfl) ?_
  refine tr_callV (pc := 4) (rest := []) (ci := 3) dX9_reads_4 ml_X9_101 cv_X3_readAll rfl rfl (Nat.le_of_ble_eq_true rfl) (hS.1 9 (6, 9) rfl) rfl (by decide) (c_readAll hS hT hv) ?_
  rintro _ _ h0 ⟨rfl, rfl, hF0, hP0⟩
  rw [hra]
  have hC0 : KS S h0 tx P past b n f := hC.lo (fun o ho => hF0 o (fun z => by simp only [List.mem_cons, List.not_mem_nil, or_false] at z; omega)) (hT.fr hF0 (by decide) (by decide)) hv
  have hc0 : CF h h0 := CF.of hF0 (by decide)
  show T a 20 mX9_reads 7 [(0, rv a 0)] [.int (-1)] S h0 _
  refine tr_istore_n (pc := 7) (lv' := [(1, .int (-1)), (0, rv a 0)]) dX9_reads_7 rfl (by decide) rfl ?_
  refine tr_iload_n (pc := 8) 0 dX9_reads_8 rfl rfl ?_
  refine tr_iconst (pc := 9) (v := -1) dX9_reads_9 (by decide) ?_
  refine tr_icmp_eq (pc := 10) (tgt := 18) dX9_reads_10 (by decide) Iff.rfl (fun _ => ?_) (fun hcc => absurd (rfl) hcc)
  refine tr_aload_n (pc := 18) 1 dX9_reads_18 rfl rfl ?_
  refine tr_callV (pc := 19) (rest := []) (ci := 9) dX9_reads_19 ml_X9_104 cv_X9_leaveState rfl rfl (Nat.le_of_ble_eq_true rfl) (hS.1 0 (12, 14) rfl) rfl (by decide) (c_leave hC0) ?_
  rintro _ S1 h1 ⟨rfl, hC1, h12, h13, hF1, h678⟩
  have hS1 := hC1.1
  show T a 20 mX9_reads 22 [(1, .int (-1)), (0, rv a 0)] [] S1 h1 _
  refine tr_aload_n (pc := 22) 1 dX9_reads_22 rfl rfl ?_
  refine tr_getR (pc := 23) (q := 3) dX9_reads_23 (hS1.1 0 (12, 14) rfl) fi_X9_19 rfl (hS1.2 0 1 3 rfl) ?_
  refine tr_aload_n (pc := 26) 1 dX9_reads_26 rfl rfl ?_
  refine tr_getR (pc := 27) (q := 6) dX9_reads_27 (hS1.1 0 (12, 14) rfl) fi_X9_23 rfl (hS1.2 0 2 6 rfl) ?_
  have hM6 : MP h1 6 P1 := by
    have := hP0 P1 hr
    unfold MP
    rw [h678 6 (by decide), h678 (6 + 1) (by decide), h678 (6 + 2) (by decide)]
    exact this
  refine tr_callV (pc := 30) (rest := []) (ci := 2) dX9_reads_30 ml_X9_107 cv_X2_becomeLike rfl rfl (Nat.le_of_ble_eq_true rfl) (hS1.1 3 (5, 3) rfl) rfl (by decide) (c_like (mo_3 hS1) (mo_6 hS1) hM6 (rdA_vp hr).1 (Or.inl (by decide))) ?_
  rintro _ _ h2 ⟨rfl, rfl, hM2, hF2⟩
  show T a 20 mX9_reads 33 [(1, .int (-1)), (0, rv a 0)] [] S1 h2 _
  refine tr_aload_n (pc := 33) 1 dX9_reads_33 rfl rfl ?_
  refine tr_getR (pc := 34) (q := 3) dX9_reads_34 (hS1.1 0 (12, 14) rfl) fi_X9_19 rfl (hS1.2 0 1 3 rfl) ?_
  refine tr_callV (pc := 37) (rest := []) (ci := 2) dX9_reads_37 ml_X9_111 cv_X2_count rfl rfl (Nat.le_of_ble_eq_true rfl) (hS1.1 3 (5, 3) rfl) rfl (by decide) (c_count (mo_3 hS1) hM2 (rdA_vp hr).1) ?_
  rintro _ _ _ ⟨rfl, rfl, rfl⟩
  show T a 20 mX9_reads 40 [(1, .int (-1)), (0, rv a 0)] [.int (nI P1.length)] S1 h2 _
  exact tr_iret (pc := 40) dX9_reads_40 rfl rfl (⟨rfl, hC1.newP h12 h13 hM2 (rdA_vp hr) hF2, hc0.trans (hF1.trans (CF.of hF2 (by decide)))⟩)

set_option maxHeartbeats 4000000 in
set_option maxRecDepth 100000 in
theorem q_drops_1 {a : Am} {S : St} {h : Hp} {tx : List Nat} {P : Prog} {past : List Prog} {b n f : Int32} (hC : KS S h tx P past b n f) {x y : Int32} (hx : outN x P.length) : CT a 20 mX9_drops [rv a 0, .int x, .int y] S h (fun v S' h' => v = some (.int (-2)) ∧ KS S' h' tx P past (b + nI 1) n f ∧ CF h h') := by
  have hS := hC.1
  obtain ⟨hT, hv⟩ := hC.2.1
  obtain ⟨hMP, hVP⟩ := hC.2.2.1
  have hVB := hVP.1
  have hV1 := hVB.1
  have hnS := nSt_le hVB
  obtain ⟨⟨rr, hSP⟩, hpv⟩ := hC.2.2.2.1
  have hp5 := hSP.2.1
  have hv200 := hv.1
  refine met_of (by decide +kernel) (Nat.le_of_ble_eq_true rfl) ?_
  show T a 20 mX9_drops 0 [(0, rv a 0), (1, .int x), (2, .int y)] [] S h _
  refine tr_aload_n (pc := 0) 0 dX9_drops_0 rfl rfl ?_
  refine tr_getR (pc := 1) (q := 3) dX9_drops_1 (hS.1 0 (12, 14) rfl) fi_X9_19 rfl (hS.2 0 1 3 rfl) ?_
  refine tr_iload_n (pc := 4) 1 dX9_drops_4 rfl rfl ?_
  refine tr_iload_n (pc := 5) 2 dX9_drops_5 rfl rfl ?_
  refine tr_callV (pc := 6) (rest := []) (ci := 2) dX9_drops_6 ml_X9_114 cv_X2_hasLine rfl rfl (Nat.le_of_ble_eq_true rfl) (hS.1 3 (5, 3) rfl) rfl (by decide) (c_hasLine_o1 (mo_3 hS) hMP hVB hx) ?_
  rintro _ _ _ ⟨rfl, rfl, rfl⟩
  show T a 20 mX9_drops 9 [(0, rv a 0), (1, .int x), (2, .int y)] [.int (nI 0)] S h _
  refine tr_if_ne (pc := 9) (tgt := 17) dX9_drops_9 (by decide) (nI_z_eq (by omega)) (fun hcc => absurd (by decide) hcc) (fun _ => ?_)
  refine tr_aload_n (pc := 12) 0 dX9_drops_12 rfl rfl ?_
  refine tr_callV (pc := 13) (rest := []) (ci := 9) dX9_drops_13 ml_X9_80 cv_X9_refusedAsBad rfl rfl (Nat.le_of_ble_eq_true rfl) (hS.1 0 (12, 14) rfl) rfl (by decide) (c_rbad hC) ?_
  rintro _ S9 h9 ⟨rfl, hC9, hF9⟩
  show T a 20 mX9_drops 16 [(0, rv a 0), (1, .int x), (2, .int y)] [.int (-2)] S9 h9 _
  exact tr_iret (pc := 16) dX9_drops_16 rfl rfl (⟨rfl, hC9, hF9⟩)

set_option maxHeartbeats 4000000 in
set_option maxRecDepth 100000 in
theorem q_drops_2 {a : Am} {S : St} {h : Hp} {tx : List Nat} {P : Prog} {past : List Prog} {b n f : Int32} (hC : KS S h tx P past b n f) {m : Nat} {y : Int32} (hm : m < P.length) (hy : outN y (lnN P m)) : CT a 20 mX9_drops [rv a 0, .int (nI m), .int y] S h (fun v S' h' => v = some (.int (-2)) ∧ KS S' h' tx P past (b + nI 1) n f ∧ CF h h') := by
  have hS := hC.1
  obtain ⟨hT, hv⟩ := hC.2.1
  obtain ⟨hMP, hVP⟩ := hC.2.2.1
  have hVB := hVP.1
  have hV1 := hVB.1
  have hnS := nSt_le hVB
  obtain ⟨⟨rr, hSP⟩, hpv⟩ := hC.2.2.2.1
  have hp5 := hSP.2.1
  have hv200 := hv.1
  refine met_of (by decide +kernel) (Nat.le_of_ble_eq_true rfl) ?_
  show T a 20 mX9_drops 0 [(0, rv a 0), (1, .int (nI m)), (2, .int y)] [] S h _
  refine tr_aload_n (pc := 0) 0 dX9_drops_0 rfl rfl ?_
  refine tr_getR (pc := 1) (q := 3) dX9_drops_1 (hS.1 0 (12, 14) rfl) fi_X9_19 rfl (hS.2 0 1 3 rfl) ?_
  refine tr_iload_n (pc := 4) 1 dX9_drops_4 rfl rfl ?_
  refine tr_iload_n (pc := 5) 2 dX9_drops_5 rfl rfl ?_
  refine tr_callV (pc := 6) (rest := []) (ci := 2) dX9_drops_6 ml_X9_114 cv_X2_hasLine rfl rfl (Nat.le_of_ble_eq_true rfl) (hS.1 3 (5, 3) rfl) rfl (by decide) (c_hasLine_o2 (mo_3 hS) hMP hVB hm hy) ?_
  rintro _ _ _ ⟨rfl, rfl, rfl⟩
  show T a 20 mX9_drops 9 [(0, rv a 0), (1, .int (nI m)), (2, .int y)] [.int (nI 0)] S h _
  refine tr_if_ne (pc := 9) (tgt := 17) dX9_drops_9 (by decide) (nI_z_eq (by omega)) (fun hcc => absurd (by decide) hcc) (fun _ => ?_)
  refine tr_aload_n (pc := 12) 0 dX9_drops_12 rfl rfl ?_
  refine tr_callV (pc := 13) (rest := []) (ci := 9) dX9_drops_13 ml_X9_80 cv_X9_refusedAsBad rfl rfl (Nat.le_of_ble_eq_true rfl) (hS.1 0 (12, 14) rfl) rfl (by decide) (c_rbad hC) ?_
  rintro _ S9 h9 ⟨rfl, hC9, hF9⟩
  show T a 20 mX9_drops 16 [(0, rv a 0), (1, .int (nI m)), (2, .int y)] [.int (-2)] S9 h9 _
  exact tr_iret (pc := 16) dX9_drops_16 rfl rfl (⟨rfl, hC9, hF9⟩)

set_option maxHeartbeats 4000000 in
set_option maxRecDepth 100000 in
theorem q_drops_o {a : Am} {S : St} {h : Hp} {tx : List Nat} {P : Prog} {past : List Prog} {b n f : Int32} (hC : KS S h tx P past b n f) {m i : Nat} (hi : i < lnN P m) : CT a 20 mX9_drops [rv a 0, .int (nI m), .int (nI i)] S h (fun v S' h' => v = some (.int (nI (lnN P m - 1))) ∧ KS S' h' tx (dropL P m i) (keepP past P) b n f ∧ CF h h') := by
  have hS := hC.1
  obtain ⟨hT, hv⟩ := hC.2.1
  obtain ⟨hMP, hVP⟩ := hC.2.2.1
  have hVB := hVP.1
  have hV1 := hVB.1
  have hnS := nSt_le hVB
  obtain ⟨⟨rr, hSP⟩, hpv⟩ := hC.2.2.2.1
  have hp5 := hSP.2.1
  have hv200 := hv.1
  refine met_of (by decide +kernel) (Nat.le_of_ble_eq_true rfl) ?_
  show T a 20 mX9_drops 0 [(0, rv a 0), (1, .int (nI m)), (2, .int (nI i))] [] S h _
  refine tr_aload_n (pc := 0) 0 dX9_drops_0 rfl rfl ?_
  refine tr_getR (pc := 1) (q := 3) dX9_drops_1 (hS.1 0 (12, 14) rfl) fi_X9_19 rfl (hS.2 0 1 3 rfl) ?_
  refine tr_iload_n (pc := 4) 1 dX9_drops_4 rfl rfl ?_
  refine tr_iload_n (pc := 5) 2 dX9_drops_5 rfl rfl ?_
  refine tr_callV (pc := 6) (rest := []) (ci := 2) dX9_drops_6 ml_X9_114 cv_X2_hasLine rfl rfl (Nat.le_of_ble_eq_true rfl) (hS.1 3 (5, 3) rfl) rfl (by decide) (c_hasLine_in (mo_3 hS) hMP hVB hi) ?_
  rintro _ _ _ ⟨rfl, rfl, rfl⟩
  show T a 20 mX9_drops 9 [(0, rv a 0), (1, .int (nI m)), (2, .int (nI i))] [.int (nI 1)] S h _
  refine tr_if_ne (pc := 9) (tgt := 17) dX9_drops_9 (by decide) (nI_z_eq (by omega)) (fun _ => ?_) (fun hcc => absurd hcc (by decide))
  refine tr_aload_n (pc := 17) 0 dX9_drops_17 rfl rfl ?_
  refine tr_callV (pc := 18) (rest := []) (ci := 9) dX9_drops_18 ml_X9_104 cv_X9_leaveState rfl rfl (Nat.le_of_ble_eq_true rfl) (hS.1 0 (12, 14) rfl) rfl (by decide) (c_leave hC) ?_
  rintro _ S1 h1 ⟨rfl, hC1, h12, h13, hF1, h678⟩
  have hS1 := hC1.1
  show T a 20 mX9_drops 21 [(0, rv a 0), (1, .int (nI m)), (2, .int (nI i))] [] S1 h1 _
  refine tr_aload_n (pc := 21) 0 dX9_drops_21 rfl rfl ?_
  refine tr_getR (pc := 22) (q := 3) dX9_drops_22 (hS1.1 0 (12, 14) rfl) fi_X9_19 rfl (hS1.2 0 1 3 rfl) ?_
  refine tr_iload_n (pc := 25) 1 dX9_drops_25 rfl rfl ?_
  refine tr_iload_n (pc := 26) 2 dX9_drops_26 rfl rfl ?_
  refine tr_callV (pc := 27) (rest := []) (ci := 2) dX9_drops_27 ml_X9_117 cv_X2_removeLine rfl rfl (Nat.le_of_ble_eq_true rfl) (hS1.1 3 (5, 3) rfl) rfl (by decide) (c_removeLine hS1 hC1.2.2.1.1 hVB hi) ?_
  rintro _ _ h2 ⟨rfl, rfl, hM2, hF2⟩
  have hV2 := vp_drop hVP hi
  show T a 20 mX9_drops 30 [(0, rv a 0), (1, .int (nI m)), (2, .int (nI i))] [] S1 h2 _
  refine tr_aload_n (pc := 30) 0 dX9_drops_30 rfl rfl ?_
  refine tr_getR (pc := 31) (q := 3) dX9_drops_31 (hS1.1 0 (12, 14) rfl) fi_X9_19 rfl (hS1.2 0 1 3 rfl) ?_
  refine tr_iload_n (pc := 34) 1 dX9_drops_34 rfl rfl ?_
  refine tr_callV (pc := 35) (rest := []) (ci := 2) dX9_drops_35 ml_X9_121 cv_X2_lines rfl rfl (Nat.le_of_ble_eq_true rfl) (hS1.1 3 (5, 3) rfl) rfl (by decide) (c_lines_in (mo_3 hS1) hM2 hV2.1 (m := m) (by rw [len_drop]; exact lnN_lt hi)) ?_
  rintro _ _ _ ⟨rfl, rfl, rfl⟩
  show T a 20 mX9_drops 38 [(0, rv a 0), (1, .int (nI m)), (2, .int (nI i))] [.int (nI (lnN (dropL P m i) m))] S1 h2 _
  exact tr_iret (pc := 38) dX9_drops_38 rfl rfl (⟨by rw [lnN_drop hi, if_pos rfl], hC1.newP h12 h13 hM2 hV2 (hF2.mono (by decide)), hF1.trans (CF.of hF2 (by decide))⟩)

set_option maxHeartbeats 4000000 in
set_option maxRecDepth 100000 in
theorem q_swaps_1 {a : Am} {S : St} {h : Hp} {tx : List Nat} {P : Prog} {past : List Prog} {b n f : Int32} (hC : KS S h tx P past b n f) {x y : Int32} (hx : outN x P.length) : CT a 20 mX9_swaps [rv a 0, .int x, .int y] S h (fun v S' h' => v = some (.int (-2)) ∧ KS S' h' tx P past (b + nI 1) n f ∧ CF h h') := by
  have hS := hC.1
  obtain ⟨hT, hv⟩ := hC.2.1
  obtain ⟨hMP, hVP⟩ := hC.2.2.1
  have hVB := hVP.1
  have hV1 := hVB.1
  have hnS := nSt_le hVB
  obtain ⟨⟨rr, hSP⟩, hpv⟩ := hC.2.2.2.1
  have hp5 := hSP.2.1
  have hv200 := hv.1
  refine met_of (by decide +kernel) (Nat.le_of_ble_eq_true rfl) ?_
  show T a 20 mX9_swaps 0 [(0, rv a 0), (1, .int x), (2, .int y)] [] S h _
  refine tr_aload_n (pc := 0) 0 dX9_swaps_0 rfl rfl ?_
  refine tr_getR (pc := 1) (q := 3) dX9_swaps_1 (hS.1 0 (12, 14) rfl) fi_X9_19 rfl (hS.2 0 1 3 rfl) ?_
  refine tr_iload_n (pc := 4) 1 dX9_swaps_4 rfl rfl ?_
  refine tr_iload_n (pc := 5) 2 dX9_swaps_5 rfl rfl ?_
  refine tr_callV (pc := 6) (rest := []) (ci := 2) dX9_swaps_6 ml_X9_114 cv_X2_hasLine rfl rfl (Nat.le_of_ble_eq_true rfl) (hS.1 3 (5, 3) rfl) rfl (by decide) (c_hasLine_o1 (mo_3 hS) hMP hVB hx) ?_
  rintro _ _ _ ⟨rfl, rfl, rfl⟩
  show T a 20 mX9_swaps 9 [(0, rv a 0), (1, .int x), (2, .int y)] [.int (nI 0)] S h _
  refine tr_if_eq (pc := 9) (tgt := 26) dX9_swaps_9 (by decide) (nI_z_eq (by omega)) (fun _ => ?_) (fun hcc => absurd (by decide) hcc)
  refine tr_aload_n (pc := 26) 0 dX9_swaps_26 rfl rfl ?_
  refine tr_callV (pc := 27) (rest := []) (ci := 9) dX9_swaps_27 ml_X9_80 cv_X9_refusedAsBad rfl rfl (Nat.le_of_ble_eq_true rfl) (hS.1 0 (12, 14) rfl) rfl (by decide) (c_rbad hC) ?_
  rintro _ S9 h9 ⟨rfl, hC9, hF9⟩
  show T a 20 mX9_swaps 30 [(0, rv a 0), (1, .int x), (2, .int y)] [.int (-2)] S9 h9 _
  exact tr_iret (pc := 30) dX9_swaps_30 rfl rfl (⟨rfl, hC9, hF9⟩)

set_option maxHeartbeats 4000000 in
set_option maxRecDepth 100000 in
theorem q_swaps_2 {a : Am} {S : St} {h : Hp} {tx : List Nat} {P : Prog} {past : List Prog} {b n f : Int32} (hC : KS S h tx P past b n f) {m : Nat} {y : Int32} (hm : m < P.length) (hy : outN y (lnN P m)) : CT a 20 mX9_swaps [rv a 0, .int (nI m), .int y] S h (fun v S' h' => v = some (.int (-2)) ∧ KS S' h' tx P past (b + nI 1) n f ∧ CF h h') := by
  have hS := hC.1
  obtain ⟨hT, hv⟩ := hC.2.1
  obtain ⟨hMP, hVP⟩ := hC.2.2.1
  have hVB := hVP.1
  have hV1 := hVB.1
  have hnS := nSt_le hVB
  obtain ⟨⟨rr, hSP⟩, hpv⟩ := hC.2.2.2.1
  have hp5 := hSP.2.1
  have hv200 := hv.1
  refine met_of (by decide +kernel) (Nat.le_of_ble_eq_true rfl) ?_
  show T a 20 mX9_swaps 0 [(0, rv a 0), (1, .int (nI m)), (2, .int y)] [] S h _
  refine tr_aload_n (pc := 0) 0 dX9_swaps_0 rfl rfl ?_
  refine tr_getR (pc := 1) (q := 3) dX9_swaps_1 (hS.1 0 (12, 14) rfl) fi_X9_19 rfl (hS.2 0 1 3 rfl) ?_
  refine tr_iload_n (pc := 4) 1 dX9_swaps_4 rfl rfl ?_
  refine tr_iload_n (pc := 5) 2 dX9_swaps_5 rfl rfl ?_
  refine tr_callV (pc := 6) (rest := []) (ci := 2) dX9_swaps_6 ml_X9_114 cv_X2_hasLine rfl rfl (Nat.le_of_ble_eq_true rfl) (hS.1 3 (5, 3) rfl) rfl (by decide) (c_hasLine_o2 (mo_3 hS) hMP hVB hm hy) ?_
  rintro _ _ _ ⟨rfl, rfl, rfl⟩
  show T a 20 mX9_swaps 9 [(0, rv a 0), (1, .int (nI m)), (2, .int y)] [.int (nI 0)] S h _
  refine tr_if_eq (pc := 9) (tgt := 26) dX9_swaps_9 (by decide) (nI_z_eq (by omega)) (fun _ => ?_) (fun hcc => absurd (by decide) hcc)
  refine tr_aload_n (pc := 26) 0 dX9_swaps_26 rfl rfl ?_
  refine tr_callV (pc := 27) (rest := []) (ci := 9) dX9_swaps_27 ml_X9_80 cv_X9_refusedAsBad rfl rfl (Nat.le_of_ble_eq_true rfl) (hS.1 0 (12, 14) rfl) rfl (by decide) (c_rbad hC) ?_
  rintro _ S9 h9 ⟨rfl, hC9, hF9⟩
  show T a 20 mX9_swaps 30 [(0, rv a 0), (1, .int (nI m)), (2, .int y)] [.int (-2)] S9 h9 _
  exact tr_iret (pc := 30) dX9_swaps_30 rfl rfl (⟨rfl, hC9, hF9⟩)

set_option maxHeartbeats 4000000 in
set_option maxRecDepth 100000 in
theorem q_swaps_3 {a : Am} {S : St} {h : Hp} {tx : List Nat} {P : Prog} {past : List Prog} {b n f : Int32} (hC : KS S h tx P past b n f) {m i : Nat} (hi : i < lnN P m) (hi2 : i + 1 = lnN P m) : CT a 20 mX9_swaps [rv a 0, .int (nI m), .int (nI i)] S h (fun v S' h' => v = some (.int (-2)) ∧ KS S' h' tx P past (b + nI 1) n f ∧ CF h h') := by
  have hS := hC.1
  obtain ⟨hT, hv⟩ := hC.2.1
  obtain ⟨hMP, hVP⟩ := hC.2.2.1
  have hVB := hVP.1
  have hV1 := hVB.1
  have hnS := nSt_le hVB
  obtain ⟨⟨rr, hSP⟩, hpv⟩ := hC.2.2.2.1
  have hp5 := hSP.2.1
  have hv200 := hv.1
  refine met_of (by decide +kernel) (Nat.le_of_ble_eq_true rfl) ?_
  show T a 20 mX9_swaps 0 [(0, rv a 0), (1, .int (nI m)), (2, .int (nI i))] [] S h _
  refine tr_aload_n (pc := 0) 0 dX9_swaps_0 rfl rfl ?_
  refine tr_getR (pc := 1) (q := 3) dX9_swaps_1 (hS.1 0 (12, 14) rfl) fi_X9_19 rfl (hS.2 0 1 3 rfl) ?_
  refine tr_iload_n (pc := 4) 1 dX9_swaps_4 rfl rfl ?_
  refine tr_iload_n (pc := 5) 2 dX9_swaps_5 rfl rfl ?_
  refine tr_callV (pc := 6) (rest := []) (ci := 2) dX9_swaps_6 ml_X9_114 cv_X2_hasLine rfl rfl (Nat.le_of_ble_eq_true rfl) (hS.1 3 (5, 3) rfl) rfl (by decide) (c_hasLine_in (mo_3 hS) hMP hVB hi) ?_
  rintro _ _ _ ⟨rfl, rfl, rfl⟩
  show T a 20 mX9_swaps 9 [(0, rv a 0), (1, .int (nI m)), (2, .int (nI i))] [.int (nI 1)] S h _
  refine tr_if_eq (pc := 9) (tgt := 26) dX9_swaps_9 (by decide) (nI_z_eq (by omega)) (fun hcc => absurd hcc (by decide)) (fun _ => ?_)
  refine tr_aload_n (pc := 12) 0 dX9_swaps_12 rfl rfl ?_
  refine tr_getR (pc := 13) (q := 3) dX9_swaps_13 (hS.1 0 (12, 14) rfl) fi_X9_19 rfl (hS.2 0 1 3 rfl) ?_
  refine tr_iload_n (pc := 16) 1 dX9_swaps_16 rfl rfl ?_
  refine tr_iload_n (pc := 17) 2 dX9_swaps_17 rfl rfl ?_
  refine tr_iconst (pc := 18) (v := nI 1) dX9_swaps_18 (by decide) ?_
  refine tr_iadd (pc := 19) (v := nI (i + 1)) dX9_swaps_19 (nI_add _ _) ?_
  refine tr_callV (pc := 20) (rest := []) (ci := 2) dX9_swaps_20 ml_X9_114 cv_X2_hasLine rfl rfl (Nat.le_of_ble_eq_true rfl) (hS.1 3 (5, 3) rfl) rfl (by decide) (c_hasLine_o2 (mo_3 hS) hMP hVB (lnN_lt hi) (Or.inr (by rw [hi2]; exact nI_le (Nat.le_refl _) (by have := hVB.2.1 m; omega)))) ?_
  rintro _ _ _ ⟨rfl, rfl, rfl⟩
  show T a 20 mX9_swaps 23 [(0, rv a 0), (1, .int (nI m)), (2, .int (nI i))] [.int (nI 0)] S h _
  refine tr_if_ne (pc := 23) (tgt := 31) dX9_swaps_23 (by decide) (nI_z_eq (by omega)) (fun hcc => absurd (by decide) hcc) (fun _ => ?_)
  refine tr_aload_n (pc := 26) 0 dX9_swaps_26 rfl rfl ?_
  refine tr_callV (pc := 27) (rest := []) (ci := 9) dX9_swaps_27 ml_X9_80 cv_X9_refusedAsBad rfl rfl (Nat.le_of_ble_eq_true rfl) (hS.1 0 (12, 14) rfl) rfl (by decide) (c_rbad hC) ?_
  rintro _ S9 h9 ⟨rfl, hC9, hF9⟩
  show T a 20 mX9_swaps 30 [(0, rv a 0), (1, .int (nI m)), (2, .int (nI i))] [.int (-2)] S9 h9 _
  exact tr_iret (pc := 30) dX9_swaps_30 rfl rfl (⟨rfl, hC9, hF9⟩)

set_option maxHeartbeats 4000000 in
set_option maxRecDepth 100000 in
theorem q_swaps_o {a : Am} {S : St} {h : Hp} {tx : List Nat} {P : Prog} {past : List Prog} {b n f : Int32} (hC : KS S h tx P past b n f) {m i : Nat} (hi : i + 1 < lnN P m) : CT a 20 mX9_swaps [rv a 0, .int (nI m), .int (nI i)] S h (fun v S' h' => v = some (.int (nI 1)) ∧ KS S' h' tx (swapL P m i) (keepP past P) b n f ∧ CF h h') := by
  have hS := hC.1
  obtain ⟨hT, hv⟩ := hC.2.1
  obtain ⟨hMP, hVP⟩ := hC.2.2.1
  have hVB := hVP.1
  have hV1 := hVB.1
  have hnS := nSt_le hVB
  obtain ⟨⟨rr, hSP⟩, hpv⟩ := hC.2.2.2.1
  have hp5 := hSP.2.1
  have hv200 := hv.1
  refine met_of (by decide +kernel) (Nat.le_of_ble_eq_true rfl) ?_
  show T a 20 mX9_swaps 0 [(0, rv a 0), (1, .int (nI m)), (2, .int (nI i))] [] S h _
  refine tr_aload_n (pc := 0) 0 dX9_swaps_0 rfl rfl ?_
  refine tr_getR (pc := 1) (q := 3) dX9_swaps_1 (hS.1 0 (12, 14) rfl) fi_X9_19 rfl (hS.2 0 1 3 rfl) ?_
  refine tr_iload_n (pc := 4) 1 dX9_swaps_4 rfl rfl ?_
  refine tr_iload_n (pc := 5) 2 dX9_swaps_5 rfl rfl ?_
  refine tr_callV (pc := 6) (rest := []) (ci := 2) dX9_swaps_6 ml_X9_114 cv_X2_hasLine rfl rfl (Nat.le_of_ble_eq_true rfl) (hS.1 3 (5, 3) rfl) rfl (by decide) (c_hasLine_in (mo_3 hS) hMP hVB (by omega : i < lnN P m)) ?_
  rintro _ _ _ ⟨rfl, rfl, rfl⟩
  show T a 20 mX9_swaps 9 [(0, rv a 0), (1, .int (nI m)), (2, .int (nI i))] [.int (nI 1)] S h _
  refine tr_if_eq (pc := 9) (tgt := 26) dX9_swaps_9 (by decide) (nI_z_eq (by omega)) (fun hcc => absurd hcc (by decide)) (fun _ => ?_)
  refine tr_aload_n (pc := 12) 0 dX9_swaps_12 rfl rfl ?_
  refine tr_getR (pc := 13) (q := 3) dX9_swaps_13 (hS.1 0 (12, 14) rfl) fi_X9_19 rfl (hS.2 0 1 3 rfl) ?_
  refine tr_iload_n (pc := 16) 1 dX9_swaps_16 rfl rfl ?_
  refine tr_iload_n (pc := 17) 2 dX9_swaps_17 rfl rfl ?_
  refine tr_iconst (pc := 18) (v := nI 1) dX9_swaps_18 (by decide) ?_
  refine tr_iadd (pc := 19) (v := nI (i + 1)) dX9_swaps_19 (nI_add _ _) ?_
  refine tr_callV (pc := 20) (rest := []) (ci := 2) dX9_swaps_20 ml_X9_114 cv_X2_hasLine rfl rfl (Nat.le_of_ble_eq_true rfl) (hS.1 3 (5, 3) rfl) rfl (by decide) (c_hasLine_in (mo_3 hS) hMP hVB hi) ?_
  rintro _ _ _ ⟨rfl, rfl, rfl⟩
  show T a 20 mX9_swaps 23 [(0, rv a 0), (1, .int (nI m)), (2, .int (nI i))] [.int (nI 1)] S h _
  refine tr_if_ne (pc := 23) (tgt := 31) dX9_swaps_23 (by decide) (nI_z_eq (by omega)) (fun _ => ?_) (fun hcc => absurd hcc (by decide))
  refine tr_aload_n (pc := 31) 0 dX9_swaps_31 rfl rfl ?_
  refine tr_callV (pc := 32) (rest := []) (ci := 9) dX9_swaps_32 ml_X9_104 cv_X9_leaveState rfl rfl (Nat.le_of_ble_eq_true rfl) (hS.1 0 (12, 14) rfl) rfl (by decide) (c_leave hC) ?_
  rintro _ S1 h1 ⟨rfl, hC1, h12, h13, hF1, h678⟩
  have hS1 := hC1.1
  show T a 20 mX9_swaps 35 [(0, rv a 0), (1, .int (nI m)), (2, .int (nI i))] [] S1 h1 _
  refine tr_aload_n (pc := 35) 0 dX9_swaps_35 rfl rfl ?_
  refine tr_getR (pc := 36) (q := 3) dX9_swaps_36 (hS1.1 0 (12, 14) rfl) fi_X9_19 rfl (hS1.2 0 1 3 rfl) ?_
  refine tr_iload_n (pc := 39) 1 dX9_swaps_39 rfl rfl ?_
  refine tr_iload_n (pc := 40) 2 dX9_swaps_40 rfl rfl ?_
  refine tr_callV (pc := 41) (rest := []) (ci := 2) dX9_swaps_41 ml_X9_125 cv_X2_swapWithNext rfl rfl (Nat.le_of_ble_eq_true rfl) (hS1.1 3 (5, 3) rfl) rfl (by decide) (c_swap hS1 hC1.2.2.1.1 hVB hi) ?_
  rintro _ _ h2 ⟨rfl, rfl, hM2, hF2⟩
  show T a 20 mX9_swaps 44 [(0, rv a 0), (1, .int (nI m)), (2, .int (nI i))] [] S1 h2 _
  refine tr_iconst (pc := 44) (v := nI 1) dX9_swaps_44 (by decide) ?_
  exact tr_iret (pc := 45) dX9_swaps_45 rfl rfl (⟨rfl, hC1.newP h12 h13 hM2 (vp_swap hVP hi) (hF2.mono (by decide)), hF1.trans (CF.of hF2 (by decide))⟩)

set_option maxHeartbeats 4000000 in
set_option maxRecDepth 100000 in
theorem q_of_1 {a : Am} {S : St} {h : Hp} {tx : List Nat} {P : Prog} {past : List Prog} {b n f : Int32} (hC : KS S h tx P past b n f) {x y : Int32} (hx : outN x P.length) : CT a 20 mX9_of [rv a 0, .int x, .int y] S h (fun v S' h' => v = some (.int (-2)) ∧ KS S' h' tx P past (b + nI 1) n f ∧ CF h h') := by
  have hS := hC.1
  obtain ⟨hT, hv⟩ := hC.2.1
  obtain ⟨hMP, hVP⟩ := hC.2.2.1
  have hVB := hVP.1
  have hV1 := hVB.1
  have hnS := nSt_le hVB
  obtain ⟨⟨rr, hSP⟩, hpv⟩ := hC.2.2.2.1
  have hp5 := hSP.2.1
  have hv200 := hv.1
  refine met_of (by decide +kernel) (Nat.le_of_ble_eq_true rfl) ?_
  show T a 20 mX9_of 0 [(0, rv a 0), (1, .int x), (2, .int y)] [] S h _
  refine tr_aload_n (pc := 0) 0 dX9_of_0 rfl rfl ?_
  refine tr_getR (pc := 1) (q := 3) dX9_of_1 (hS.1 0 (12, 14) rfl) fi_X9_19 rfl (hS.2 0 1 3 rfl) ?_
  refine tr_iload_n (pc := 4) 1 dX9_of_4 rfl rfl ?_
  refine tr_callV (pc := 5) (rest := []) (ci := 2) dX9_of_5 ml_X9_128 cv_X2_has rfl rfl (Nat.le_of_ble_eq_true rfl) (hS.1 3 (5, 3) rfl) rfl (by decide) (c_has_out (mo_3 hS) hMP hVB hx) ?_
  rintro _ _ _ ⟨rfl, rfl, rfl⟩
  show T a 20 mX9_of 8 [(0, rv a 0), (1, .int x), (2, .int y)] [.int (nI 0)] S h _
  refine tr_if_eq (pc := 8) (tgt := 19) dX9_of_8 (by decide) (nI_z_eq (by omega)) (fun _ => ?_) (fun hcc => absurd (by decide) hcc)
  refine tr_aload_n (pc := 19) 0 dX9_of_19 rfl rfl ?_
  refine tr_callV (pc := 20) (rest := []) (ci := 9) dX9_of_20 ml_X9_80 cv_X9_refusedAsBad rfl rfl (Nat.le_of_ble_eq_true rfl) (hS.1 0 (12, 14) rfl) rfl (by decide) (c_rbad hC) ?_
  rintro _ S9 h9 ⟨rfl, hC9, hF9⟩
  show T a 20 mX9_of 23 [(0, rv a 0), (1, .int x), (2, .int y)] [.int (-2)] S9 h9 _
  exact tr_iret (pc := 23) dX9_of_23 rfl rfl (⟨rfl, hC9, hF9⟩)

set_option maxHeartbeats 4000000 in
set_option maxRecDepth 100000 in
theorem q_of_2 {a : Am} {S : St} {h : Hp} {tx : List Nat} {P : Prog} {past : List Prog} {b n f : Int32} (hC : KS S h tx P past b n f) {m : Nat} {y : Int32} (hm : m < P.length) (hy : outN y 5) : CT a 20 mX9_of [rv a 0, .int (nI m), .int y] S h (fun v S' h' => v = some (.int (-2)) ∧ KS S' h' tx P past (b + nI 1) n f ∧ CF h h') := by
  have hS := hC.1
  obtain ⟨hT, hv⟩ := hC.2.1
  obtain ⟨hMP, hVP⟩ := hC.2.2.1
  have hVB := hVP.1
  have hV1 := hVB.1
  have hnS := nSt_le hVB
  obtain ⟨⟨rr, hSP⟩, hpv⟩ := hC.2.2.2.1
  have hp5 := hSP.2.1
  have hv200 := hv.1
  refine met_of (by decide +kernel) (Nat.le_of_ble_eq_true rfl) ?_
  show T a 20 mX9_of 0 [(0, rv a 0), (1, .int (nI m)), (2, .int y)] [] S h _
  refine tr_aload_n (pc := 0) 0 dX9_of_0 rfl rfl ?_
  refine tr_getR (pc := 1) (q := 3) dX9_of_1 (hS.1 0 (12, 14) rfl) fi_X9_19 rfl (hS.2 0 1 3 rfl) ?_
  refine tr_iload_n (pc := 4) 1 dX9_of_4 rfl rfl ?_
  refine tr_callV (pc := 5) (rest := []) (ci := 2) dX9_of_5 ml_X9_128 cv_X2_has rfl rfl (Nat.le_of_ble_eq_true rfl) (hS.1 3 (5, 3) rfl) rfl (by decide) (c_has_in (mo_3 hS) hMP hVB hm) ?_
  rintro _ _ _ ⟨rfl, rfl, rfl⟩
  show T a 20 mX9_of 8 [(0, rv a 0), (1, .int (nI m)), (2, .int y)] [.int (nI 1)] S h _
  refine tr_if_eq (pc := 8) (tgt := 19) dX9_of_8 (by decide) (nI_z_eq (by omega)) (fun hcc => absurd hcc (by decide)) (fun _ => ?_)
  refine tr_iload_n (pc := 11) 2 dX9_of_11 rfl rfl ?_
  refine tr_iconst (pc := 12) (v := nI 5) dX9_of_12 (by decide) ?_
  refine tr_callS (pc := 13) (rest := []) dX9_of_13 ml_X9_76 cs_X9_isOutside rfl rfl (Nat.le_of_ble_eq_true rfl) (by decide) (c_isOut_out hy) ?_
  rintro _ _ _ ⟨rfl, rfl, rfl⟩
  show T a 20 mX9_of 16 [(0, rv a 0), (1, .int (nI m)), (2, .int y)] [.int (nI 1)] S h _
  refine tr_if_eq (pc := 16) (tgt := 24) dX9_of_16 (by decide) (nI_z_eq (by omega)) (fun hcc => absurd hcc (by decide)) (fun _ => ?_)
  refine tr_aload_n (pc := 19) 0 dX9_of_19 rfl rfl ?_
  refine tr_callV (pc := 20) (rest := []) (ci := 9) dX9_of_20 ml_X9_80 cv_X9_refusedAsBad rfl rfl (Nat.le_of_ble_eq_true rfl) (hS.1 0 (12, 14) rfl) rfl (by decide) (c_rbad hC) ?_
  rintro _ S9 h9 ⟨rfl, hC9, hF9⟩
  show T a 20 mX9_of 23 [(0, rv a 0), (1, .int (nI m)), (2, .int y)] [.int (-2)] S9 h9 _
  exact tr_iret (pc := 23) dX9_of_23 rfl rfl (⟨rfl, hC9, hF9⟩)

set_option maxHeartbeats 4000000 in
set_option maxRecDepth 100000 in
theorem q_may_1 {a : Am} {S : St} {h : Hp} {tx : List Nat} {P : Prog} {past : List Prog} {b n f : Int32} (hC : KS S h tx P past b n f) {x y : Int32} (hx : outN x P.length) : CT a 20 mX9_may [rv a 0, .int x, .int y] S h (fun v S' h' => v = some (.int (-2)) ∧ KS S' h' tx P past (b + nI 1) n f ∧ CF h h') := by
  have hS := hC.1
  obtain ⟨hT, hv⟩ := hC.2.1
  obtain ⟨hMP, hVP⟩ := hC.2.2.1
  have hVB := hVP.1
  have hV1 := hVB.1
  have hnS := nSt_le hVB
  obtain ⟨⟨rr, hSP⟩, hpv⟩ := hC.2.2.2.1
  have hp5 := hSP.2.1
  have hv200 := hv.1
  refine met_of (by decide +kernel) (Nat.le_of_ble_eq_true rfl) ?_
  show T a 20 mX9_may 0 [(0, rv a 0), (1, .int x), (2, .int y)] [] S h _
  refine tr_aload_n (pc := 0) 0 dX9_may_0 rfl rfl ?_
  refine tr_getR (pc := 1) (q := 3) dX9_may_1 (hS.1 0 (12, 14) rfl) fi_X9_19 rfl (hS.2 0 1 3 rfl) ?_
  refine tr_iload_n (pc := 4) 1 dX9_may_4 rfl rfl ?_
  refine tr_callV (pc := 5) (rest := []) (ci := 2) dX9_may_5 ml_X9_128 cv_X2_has rfl rfl (Nat.le_of_ble_eq_true rfl) (hS.1 3 (5, 3) rfl) rfl (by decide) (c_has_out (mo_3 hS) hMP hVB hx) ?_
  rintro _ _ _ ⟨rfl, rfl, rfl⟩
  show T a 20 mX9_may 8 [(0, rv a 0), (1, .int x), (2, .int y)] [.int (nI 0)] S h _
  refine tr_if_eq (pc := 8) (tgt := 19) dX9_may_8 (by decide) (nI_z_eq (by omega)) (fun _ => ?_) (fun hcc => absurd (by decide) hcc)
  refine tr_aload_n (pc := 19) 0 dX9_may_19 rfl rfl ?_
  refine tr_callV (pc := 20) (rest := []) (ci := 9) dX9_may_20 ml_X9_80 cv_X9_refusedAsBad rfl rfl (Nat.le_of_ble_eq_true rfl) (hS.1 0 (12, 14) rfl) rfl (by decide) (c_rbad hC) ?_
  rintro _ S9 h9 ⟨rfl, hC9, hF9⟩
  show T a 20 mX9_may 23 [(0, rv a 0), (1, .int x), (2, .int y)] [.int (-2)] S9 h9 _
  exact tr_iret (pc := 23) dX9_may_23 rfl rfl (⟨rfl, hC9, hF9⟩)

set_option maxHeartbeats 4000000 in
set_option maxRecDepth 100000 in
theorem q_may_2 {a : Am} {S : St} {h : Hp} {tx : List Nat} {P : Prog} {past : List Prog} {b n f : Int32} (hC : KS S h tx P past b n f) {m : Nat} {y : Int32} (hm : m < P.length) (hy : outN y 4) : CT a 20 mX9_may [rv a 0, .int (nI m), .int y] S h (fun v S' h' => v = some (.int (-2)) ∧ KS S' h' tx P past (b + nI 1) n f ∧ CF h h') := by
  have hS := hC.1
  obtain ⟨hT, hv⟩ := hC.2.1
  obtain ⟨hMP, hVP⟩ := hC.2.2.1
  have hVB := hVP.1
  have hV1 := hVB.1
  have hnS := nSt_le hVB
  obtain ⟨⟨rr, hSP⟩, hpv⟩ := hC.2.2.2.1
  have hp5 := hSP.2.1
  have hv200 := hv.1
  refine met_of (by decide +kernel) (Nat.le_of_ble_eq_true rfl) ?_
  show T a 20 mX9_may 0 [(0, rv a 0), (1, .int (nI m)), (2, .int y)] [] S h _
  refine tr_aload_n (pc := 0) 0 dX9_may_0 rfl rfl ?_
  refine tr_getR (pc := 1) (q := 3) dX9_may_1 (hS.1 0 (12, 14) rfl) fi_X9_19 rfl (hS.2 0 1 3 rfl) ?_
  refine tr_iload_n (pc := 4) 1 dX9_may_4 rfl rfl ?_
  refine tr_callV (pc := 5) (rest := []) (ci := 2) dX9_may_5 ml_X9_128 cv_X2_has rfl rfl (Nat.le_of_ble_eq_true rfl) (hS.1 3 (5, 3) rfl) rfl (by decide) (c_has_in (mo_3 hS) hMP hVB hm) ?_
  rintro _ _ _ ⟨rfl, rfl, rfl⟩
  show T a 20 mX9_may 8 [(0, rv a 0), (1, .int (nI m)), (2, .int y)] [.int (nI 1)] S h _
  refine tr_if_eq (pc := 8) (tgt := 19) dX9_may_8 (by decide) (nI_z_eq (by omega)) (fun hcc => absurd hcc (by decide)) (fun _ => ?_)
  refine tr_iload_n (pc := 11) 2 dX9_may_11 rfl rfl ?_
  refine tr_iconst (pc := 12) (v := nI 4) dX9_may_12 (by decide) ?_
  refine tr_callS (pc := 13) (rest := []) dX9_may_13 ml_X9_76 cs_X9_isOutside rfl rfl (Nat.le_of_ble_eq_true rfl) (by decide) (c_isOut_out hy) ?_
  rintro _ _ _ ⟨rfl, rfl, rfl⟩
  show T a 20 mX9_may 16 [(0, rv a 0), (1, .int (nI m)), (2, .int y)] [.int (nI 1)] S h _
  refine tr_if_eq (pc := 16) (tgt := 24) dX9_may_16 (by decide) (nI_z_eq (by omega)) (fun hcc => absurd hcc (by decide)) (fun _ => ?_)
  refine tr_aload_n (pc := 19) 0 dX9_may_19 rfl rfl ?_
  refine tr_callV (pc := 20) (rest := []) (ci := 9) dX9_may_20 ml_X9_80 cv_X9_refusedAsBad rfl rfl (Nat.le_of_ble_eq_true rfl) (hS.1 0 (12, 14) rfl) rfl (by decide) (c_rbad hC) ?_
  rintro _ S9 h9 ⟨rfl, hC9, hF9⟩
  show T a 20 mX9_may 23 [(0, rv a 0), (1, .int (nI m)), (2, .int y)] [.int (-2)] S9 h9 _
  exact tr_iret (pc := 23) dX9_may_23 rfl rfl (⟨rfl, hC9, hF9⟩)

set_option maxHeartbeats 4000000 in
set_option maxRecDepth 100000 in
theorem q_reached_1 {a : Am} {S : St} {h : Hp} {tx : List Nat} {P : Prog} {past : List Prog} {b n f : Int32} (hC : KS S h tx P past b n f) {x y : Int32} (hx : outN x P.length) : CT a 20 mX9_reached [rv a 0, .int x, .int y] S h (fun v S' h' => v = some (.int (-2)) ∧ KS S' h' tx P past (b + nI 1) n f ∧ CF h h') := by
  have hS := hC.1
  obtain ⟨hT, hv⟩ := hC.2.1
  obtain ⟨hMP, hVP⟩ := hC.2.2.1
  have hVB := hVP.1
  have hV1 := hVB.1
  have hnS := nSt_le hVB
  obtain ⟨⟨rr, hSP⟩, hpv⟩ := hC.2.2.2.1
  have hp5 := hSP.2.1
  have hv200 := hv.1
  refine met_of (by decide +kernel) (Nat.le_of_ble_eq_true rfl) ?_
  show T a 20 mX9_reached 0 [(0, rv a 0), (1, .int x), (2, .int y)] [] S h _
  refine tr_aload_n (pc := 0) 0 dX9_reached_0 rfl rfl ?_
  refine tr_getR (pc := 1) (q := 3) dX9_reached_1 (hS.1 0 (12, 14) rfl) fi_X9_19 rfl (hS.2 0 1 3 rfl) ?_
  refine tr_iload_n (pc := 4) 1 dX9_reached_4 rfl rfl ?_
  refine tr_callV (pc := 5) (rest := []) (ci := 2) dX9_reached_5 ml_X9_128 cv_X2_has rfl rfl (Nat.le_of_ble_eq_true rfl) (hS.1 3 (5, 3) rfl) rfl (by decide) (c_has_out (mo_3 hS) hMP hVB hx) ?_
  rintro _ _ _ ⟨rfl, rfl, rfl⟩
  show T a 20 mX9_reached 8 [(0, rv a 0), (1, .int x), (2, .int y)] [.int (nI 0)] S h _
  refine tr_if_eq (pc := 8) (tgt := 19) dX9_reached_8 (by decide) (nI_z_eq (by omega)) (fun _ => ?_) (fun hcc => absurd (by decide) hcc)
  refine tr_aload_n (pc := 19) 0 dX9_reached_19 rfl rfl ?_
  refine tr_callV (pc := 20) (rest := []) (ci := 9) dX9_reached_20 ml_X9_80 cv_X9_refusedAsBad rfl rfl (Nat.le_of_ble_eq_true rfl) (hS.1 0 (12, 14) rfl) rfl (by decide) (c_rbad hC) ?_
  rintro _ S9 h9 ⟨rfl, hC9, hF9⟩
  show T a 20 mX9_reached 23 [(0, rv a 0), (1, .int x), (2, .int y)] [.int (-2)] S9 h9 _
  exact tr_iret (pc := 23) dX9_reached_23 rfl rfl (⟨rfl, hC9, hF9⟩)

set_option maxHeartbeats 4000000 in
set_option maxRecDepth 100000 in
theorem q_reached_2 {a : Am} {S : St} {h : Hp} {tx : List Nat} {P : Prog} {past : List Prog} {b n f : Int32} (hC : KS S h tx P past b n f) {m : Nat} {y : Int32} (hm : m < P.length) (hy : outN y 4) : CT a 20 mX9_reached [rv a 0, .int (nI m), .int y] S h (fun v S' h' => v = some (.int (-2)) ∧ KS S' h' tx P past (b + nI 1) n f ∧ CF h h') := by
  have hS := hC.1
  obtain ⟨hT, hv⟩ := hC.2.1
  obtain ⟨hMP, hVP⟩ := hC.2.2.1
  have hVB := hVP.1
  have hV1 := hVB.1
  have hnS := nSt_le hVB
  obtain ⟨⟨rr, hSP⟩, hpv⟩ := hC.2.2.2.1
  have hp5 := hSP.2.1
  have hv200 := hv.1
  refine met_of (by decide +kernel) (Nat.le_of_ble_eq_true rfl) ?_
  show T a 20 mX9_reached 0 [(0, rv a 0), (1, .int (nI m)), (2, .int y)] [] S h _
  refine tr_aload_n (pc := 0) 0 dX9_reached_0 rfl rfl ?_
  refine tr_getR (pc := 1) (q := 3) dX9_reached_1 (hS.1 0 (12, 14) rfl) fi_X9_19 rfl (hS.2 0 1 3 rfl) ?_
  refine tr_iload_n (pc := 4) 1 dX9_reached_4 rfl rfl ?_
  refine tr_callV (pc := 5) (rest := []) (ci := 2) dX9_reached_5 ml_X9_128 cv_X2_has rfl rfl (Nat.le_of_ble_eq_true rfl) (hS.1 3 (5, 3) rfl) rfl (by decide) (c_has_in (mo_3 hS) hMP hVB hm) ?_
  rintro _ _ _ ⟨rfl, rfl, rfl⟩
  show T a 20 mX9_reached 8 [(0, rv a 0), (1, .int (nI m)), (2, .int y)] [.int (nI 1)] S h _
  refine tr_if_eq (pc := 8) (tgt := 19) dX9_reached_8 (by decide) (nI_z_eq (by omega)) (fun hcc => absurd hcc (by decide)) (fun _ => ?_)
  refine tr_iload_n (pc := 11) 2 dX9_reached_11 rfl rfl ?_
  refine tr_iconst (pc := 12) (v := nI 4) dX9_reached_12 (by decide) ?_
  refine tr_callS (pc := 13) (rest := []) dX9_reached_13 ml_X9_76 cs_X9_isOutside rfl rfl (Nat.le_of_ble_eq_true rfl) (by decide) (c_isOut_out hy) ?_
  rintro _ _ _ ⟨rfl, rfl, rfl⟩
  show T a 20 mX9_reached 16 [(0, rv a 0), (1, .int (nI m)), (2, .int y)] [.int (nI 1)] S h _
  refine tr_if_eq (pc := 16) (tgt := 24) dX9_reached_16 (by decide) (nI_z_eq (by omega)) (fun hcc => absurd hcc (by decide)) (fun _ => ?_)
  refine tr_aload_n (pc := 19) 0 dX9_reached_19 rfl rfl ?_
  refine tr_callV (pc := 20) (rest := []) (ci := 9) dX9_reached_20 ml_X9_80 cv_X9_refusedAsBad rfl rfl (Nat.le_of_ble_eq_true rfl) (hS.1 0 (12, 14) rfl) rfl (by decide) (c_rbad hC) ?_
  rintro _ S9 h9 ⟨rfl, hC9, hF9⟩
  show T a 20 mX9_reached 23 [(0, rv a 0), (1, .int (nI m)), (2, .int y)] [.int (-2)] S9 h9 _
  exact tr_iret (pc := 23) dX9_reached_23 rfl rfl (⟨rfl, hC9, hF9⟩)

set_option maxHeartbeats 4000000 in
set_option maxRecDepth 100000 in
theorem q_of_o {a : Am} {S : St} {h : Hp} {tx : List Nat} {P : Prog} {past : List Prog} {b n f : Int32} (hC : KS S h tx P past b n f) {m w : Nat} (hm : m < P.length) (hw : w < 5) : CT a 20 mX9_of [rv a 0, .int (nI m), .int (nI w)] S h (fun v S' h' => v = some (.int (aOf P m w)) ∧ KS S' h' tx P past b n f ∧ CF h h') := by
  have hS := hC.1
  obtain ⟨hT, hv⟩ := hC.2.1
  obtain ⟨hMP, hVP⟩ := hC.2.2.1
  have hVB := hVP.1
  have hV1 := hVB.1
  have hnS := nSt_le hVB
  obtain ⟨⟨rr, hSP⟩, hpv⟩ := hC.2.2.2.1
  have hp5 := hSP.2.1
  have hv200 := hv.1
  refine met_of (by decide +kernel) (Nat.le_of_ble_eq_true rfl) ?_
  show T a 20 mX9_of 0 [(0, rv a 0), (1, .int (nI m)), (2, .int (nI w))] [] S h _
  refine tr_aload_n (pc := 0) 0 dX9_of_0 rfl rfl ?_
  refine tr_getR (pc := 1) (q := 3) dX9_of_1 (hS.1 0 (12, 14) rfl) fi_X9_19 rfl (hS.2 0 1 3 rfl) ?_
  refine tr_iload_n (pc := 4) 1 dX9_of_4 rfl rfl ?_
  refine tr_callV (pc := 5) (rest := []) (ci := 2) dX9_of_5 ml_X9_128 cv_X2_has rfl rfl (Nat.le_of_ble_eq_true rfl) (hS.1 3 (5, 3) rfl) rfl (by decide) (c_has_in (mo_3 hS) hMP hVB hm) ?_
  rintro _ _ _ ⟨rfl, rfl, rfl⟩
  show T a 20 mX9_of 8 [(0, rv a 0), (1, .int (nI m)), (2, .int (nI w))] [.int (nI 1)] S h _
  refine tr_if_eq (pc := 8) (tgt := 19) dX9_of_8 (by decide) (nI_z_eq (by omega)) (fun hcc => absurd hcc (by decide)) (fun _ => ?_)
  refine tr_iload_n (pc := 11) 2 dX9_of_11 rfl rfl ?_
  refine tr_iconst (pc := 12) (v := nI 5) dX9_of_12 (by decide) ?_
  refine tr_callS (pc := 13) (rest := []) dX9_of_13 ml_X9_76 cs_X9_isOutside rfl rfl (Nat.le_of_ble_eq_true rfl) (by decide) (c_isOut_in hw (by omega)) ?_
  rintro _ _ _ ⟨rfl, rfl, rfl⟩
  show T a 20 mX9_of 16 [(0, rv a 0), (1, .int (nI m)), (2, .int (nI w))] [.int (nI 0)] S h _
  refine tr_if_eq (pc := 16) (tgt := 24) dX9_of_16 (by decide) (nI_z_eq (by omega)) (fun _ => ?_) (fun hcc => absurd (by decide) hcc)
  refine tr_aload_n (pc := 24) 0 dX9_of_24 rfl rfl ?_
  refine tr_callV (pc := 25) (rest := []) (ci := 9) dX9_of_25 ml_X9_132 cv_X9_findMays rfl rfl (Nat.le_of_ble_eq_true rfl) (hS.1 0 (12, 14) rfl) rfl (by decide) (c_Fm hC) ?_
  rintro _ _ h1 ⟨rfl, rfl, hC1, hFn1, hF1⟩
  have hMP1 := hC1.2.2.1.1
  show T a 20 mX9_of 28 [(0, rv a 0), (1, .int (nI m)), (2, .int (nI w))] [] S h1 _
  refine tr_aload_n (pc := 28) 0 dX9_of_28 rfl rfl ?_
  refine tr_iload_n (pc := 29) 1 dX9_of_29 rfl rfl ?_
  refine tr_iload_n (pc := 30) 2 dX9_of_30 rfl rfl ?_
  refine tr_callV (pc := 31) (rest := []) (ci := 9) dX9_of_31 ml_X9_135 cv_X9_ofMethod rfl rfl (Nat.le_of_ble_eq_true rfl) (hS.1 0 (12, 14) rfl) rfl (by decide) (c_ofA hS hVB hMP1 hFn1 hm hw) ?_
  rintro _ _ _ ⟨rfl, rfl, rfl⟩
  show T a 20 mX9_of 34 [(0, rv a 0), (1, .int (nI m)), (2, .int (nI w))] [.int (aOf P m w)] S h1 _
  exact tr_iret (pc := 34) dX9_of_34 rfl rfl (⟨rfl, hC1, hF1⟩)

set_option maxHeartbeats 4000000 in
set_option maxRecDepth 100000 in
theorem q_may_o {a : Am} {S : St} {h : Hp} {tx : List Nat} {P : Prog} {past : List Prog} {b n f : Int32} (hC : KS S h tx P past b n f) {m w : Nat} (hm : m < P.length) (hw : w < 4) : CT a 20 mX9_may [rv a 0, .int (nI m), .int (nI w)] S h (fun v S' h' => v = some (.int (mayV P (4 * m + w))) ∧ KS S' h' tx P past b n f ∧ CF h h') := by
  have hS := hC.1
  obtain ⟨hT, hv⟩ := hC.2.1
  obtain ⟨hMP, hVP⟩ := hC.2.2.1
  have hVB := hVP.1
  have hV1 := hVB.1
  have hnS := nSt_le hVB
  obtain ⟨⟨rr, hSP⟩, hpv⟩ := hC.2.2.2.1
  have hp5 := hSP.2.1
  have hv200 := hv.1
  refine met_of (by decide +kernel) (Nat.le_of_ble_eq_true rfl) ?_
  show T a 20 mX9_may 0 [(0, rv a 0), (1, .int (nI m)), (2, .int (nI w))] [] S h _
  refine tr_aload_n (pc := 0) 0 dX9_may_0 rfl rfl ?_
  refine tr_getR (pc := 1) (q := 3) dX9_may_1 (hS.1 0 (12, 14) rfl) fi_X9_19 rfl (hS.2 0 1 3 rfl) ?_
  refine tr_iload_n (pc := 4) 1 dX9_may_4 rfl rfl ?_
  refine tr_callV (pc := 5) (rest := []) (ci := 2) dX9_may_5 ml_X9_128 cv_X2_has rfl rfl (Nat.le_of_ble_eq_true rfl) (hS.1 3 (5, 3) rfl) rfl (by decide) (c_has_in (mo_3 hS) hMP hVB hm) ?_
  rintro _ _ _ ⟨rfl, rfl, rfl⟩
  show T a 20 mX9_may 8 [(0, rv a 0), (1, .int (nI m)), (2, .int (nI w))] [.int (nI 1)] S h _
  refine tr_if_eq (pc := 8) (tgt := 19) dX9_may_8 (by decide) (nI_z_eq (by omega)) (fun hcc => absurd hcc (by decide)) (fun _ => ?_)
  refine tr_iload_n (pc := 11) 2 dX9_may_11 rfl rfl ?_
  refine tr_iconst (pc := 12) (v := nI 4) dX9_may_12 (by decide) ?_
  refine tr_callS (pc := 13) (rest := []) dX9_may_13 ml_X9_76 cs_X9_isOutside rfl rfl (Nat.le_of_ble_eq_true rfl) (by decide) (c_isOut_in hw (by omega)) ?_
  rintro _ _ _ ⟨rfl, rfl, rfl⟩
  show T a 20 mX9_may 16 [(0, rv a 0), (1, .int (nI m)), (2, .int (nI w))] [.int (nI 0)] S h _
  refine tr_if_eq (pc := 16) (tgt := 24) dX9_may_16 (by decide) (nI_z_eq (by omega)) (fun _ => ?_) (fun hcc => absurd (by decide) hcc)
  refine tr_aload_n (pc := 24) 0 dX9_may_24 rfl rfl ?_
  refine tr_callV (pc := 25) (rest := []) (ci := 9) dX9_may_25 ml_X9_132 cv_X9_findMays rfl rfl (Nat.le_of_ble_eq_true rfl) (hS.1 0 (12, 14) rfl) rfl (by decide) (c_Fm hC) ?_
  rintro _ _ h1 ⟨rfl, rfl, hC1, hFn1, hF1⟩
  have hMP1 := hC1.2.2.1.1
  show T a 20 mX9_may 28 [(0, rv a 0), (1, .int (nI m)), (2, .int (nI w))] [] S h1 _
  refine tr_aload_n (pc := 28) 0 dX9_may_28 rfl rfl ?_
  refine tr_getR (pc := 29) (q := 35) dX9_may_29 (hS.1 0 (12, 14) rfl) fi_X9_54 rfl (hS.2 0 6 35 rfl) ?_
  refine tr_iload_n (pc := 32) 1 dX9_may_32 rfl rfl ?_
  refine tr_iload_n (pc := 33) 2 dX9_may_33 rfl rfl ?_
  refine tr_callV (pc := 34) (rest := []) (ci := 1) dX9_may_34 ml_X9_147 cv_X1_inName rfl rfl (Nat.le_of_ble_eq_true rfl) (hS.1 35 (4, 6) rfl) rfl (by decide) (c_inName hS hFn1.2.1 (by omega) hw) ?_
  rintro _ _ _ ⟨rfl, rfl, rfl⟩
  show T a 20 mX9_may 37 [(0, rv a 0), (1, .int (nI m)), (2, .int (nI w))] [.int (mayV P (4 * m + w))] S h1 _
  exact tr_iret (pc := 37) dX9_may_37 rfl rfl (⟨rfl, hC1, hF1⟩)

set_option maxHeartbeats 4000000 in
set_option maxRecDepth 100000 in
theorem q_reached_o {a : Am} {S : St} {h : Hp} {tx : List Nat} {P : Prog} {past : List Prog} {b n f : Int32} (hC : KS S h tx P past b n f) {m w : Nat} (hm : m < P.length) (hw : w < 4) : CT a 20 mX9_reached [rv a 0, .int (nI m), .int (nI w)] S h (fun v S' h' => v = some (.int (rch (mayV P) (nSt P) (mayV P (4 * m + w)))) ∧ KS S' h' tx P past b n f ∧ CF h h') := by
  have hS := hC.1
  obtain ⟨hT, hv⟩ := hC.2.1
  obtain ⟨hMP, hVP⟩ := hC.2.2.1
  have hVB := hVP.1
  have hV1 := hVB.1
  have hnS := nSt_le hVB
  obtain ⟨⟨rr, hSP⟩, hpv⟩ := hC.2.2.2.1
  have hp5 := hSP.2.1
  have hv200 := hv.1
  refine met_of (by decide +kernel) (Nat.le_of_ble_eq_true rfl) ?_
  show T a 20 mX9_reached 0 [(0, rv a 0), (1, .int (nI m)), (2, .int (nI w))] [] S h _
  refine tr_aload_n (pc := 0) 0 dX9_reached_0 rfl rfl ?_
  refine tr_getR (pc := 1) (q := 3) dX9_reached_1 (hS.1 0 (12, 14) rfl) fi_X9_19 rfl (hS.2 0 1 3 rfl) ?_
  refine tr_iload_n (pc := 4) 1 dX9_reached_4 rfl rfl ?_
  refine tr_callV (pc := 5) (rest := []) (ci := 2) dX9_reached_5 ml_X9_128 cv_X2_has rfl rfl (Nat.le_of_ble_eq_true rfl) (hS.1 3 (5, 3) rfl) rfl (by decide) (c_has_in (mo_3 hS) hMP hVB hm) ?_
  rintro _ _ _ ⟨rfl, rfl, rfl⟩
  show T a 20 mX9_reached 8 [(0, rv a 0), (1, .int (nI m)), (2, .int (nI w))] [.int (nI 1)] S h _
  refine tr_if_eq (pc := 8) (tgt := 19) dX9_reached_8 (by decide) (nI_z_eq (by omega)) (fun hcc => absurd hcc (by decide)) (fun _ => ?_)
  refine tr_iload_n (pc := 11) 2 dX9_reached_11 rfl rfl ?_
  refine tr_iconst (pc := 12) (v := nI 4) dX9_reached_12 (by decide) ?_
  refine tr_callS (pc := 13) (rest := []) dX9_reached_13 ml_X9_76 cs_X9_isOutside rfl rfl (Nat.le_of_ble_eq_true rfl) (by decide) (c_isOut_in hw (by omega)) ?_
  rintro _ _ _ ⟨rfl, rfl, rfl⟩
  show T a 20 mX9_reached 16 [(0, rv a 0), (1, .int (nI m)), (2, .int (nI w))] [.int (nI 0)] S h _
  refine tr_if_eq (pc := 16) (tgt := 24) dX9_reached_16 (by decide) (nI_z_eq (by omega)) (fun _ => ?_) (fun hcc => absurd (by decide) hcc)
  refine tr_aload_n (pc := 24) 0 dX9_reached_24 rfl rfl ?_
  refine tr_callV (pc := 25) (rest := []) (ci := 9) dX9_reached_25 ml_X9_132 cv_X9_findMays rfl rfl (Nat.le_of_ble_eq_true rfl) (hS.1 0 (12, 14) rfl) rfl (by decide) (c_Fm hC) ?_
  rintro _ _ h1 ⟨rfl, rfl, hC1, hFn1, hF1⟩
  have hMP1 := hC1.2.2.1.1
  show T a 20 mX9_reached 28 [(0, rv a 0), (1, .int (nI m)), (2, .int (nI w))] [] S h1 _
  refine tr_aload_n (pc := 28) 0 dX9_reached_28 rfl rfl ?_
  refine tr_getR (pc := 29) (q := 35) dX9_reached_29 (hS.1 0 (12, 14) rfl) fi_X9_54 rfl (hS.2 0 6 35 rfl) ?_
  refine tr_aload_n (pc := 32) 0 dX9_reached_32 rfl rfl ?_
  refine tr_getR (pc := 33) (q := 35) dX9_reached_33 (hS.1 0 (12, 14) rfl) fi_X9_54 rfl (hS.2 0 6 35 rfl) ?_
  refine tr_iload_n (pc := 36) 1 dX9_reached_36 rfl rfl ?_
  refine tr_iload_n (pc := 37) 2 dX9_reached_37 rfl rfl ?_
  refine tr_callV (pc := 38) (rest := [rv a 35]) (ci := 1) dX9_reached_38 ml_X9_147 cv_X1_inName rfl rfl (Nat.le_of_ble_eq_true rfl) (hS.1 35 (4, 6) rfl) rfl (by decide) (c_inName hS hFn1.2.1 (by omega) hw) ?_
  rintro _ _ _ ⟨rfl, rfl, rfl⟩
  show T a 20 mX9_reached 41 [(0, rv a 0), (1, .int (nI m)), (2, .int (nI w))] [.int (mayV P (4 * m + w)), rv a 35] S h1 _
  refine tr_callV (pc := 41) (rest := []) (ci := 1) dX9_reached_41 ml_X9_153 cv_X1_reachedFrom rfl rfl (Nat.le_of_ble_eq_true rfl) (hS.1 35 (4, 6) rfl) rfl (by decide) (c_reach hS hVB hFn1.2.1 hFn1.1) ?_
  rintro _ _ _ ⟨rfl, rfl, rfl⟩
  show T a 20 mX9_reached 44 [(0, rv a 0), (1, .int (nI m)), (2, .int (nI w))] [.int (rch (mayV P) (nSt P) (mayV P (4 * m + w)))] S h1 _
  exact tr_iret (pc := 44) dX9_reached_44 rfl rfl (⟨rfl, hC1, hF1⟩)

set_option maxHeartbeats 4000000 in
set_option maxRecDepth 100000 in
theorem q_line_1 {a : Am} {S : St} {h : Hp} {tx : List Nat} {P : Prog} {past : List Prog} {b n f : Int32} (hC : KS S h tx P past b n f) {x y z : Int32} (hx : outN x P.length) : CT a 20 mX9_line [rv a 0, .int x, .int y, .int z] S h (fun v S' h' => v = some (.int (-2)) ∧ KS S' h' tx P past (b + nI 1) n f ∧ CF h h') := by
  have hS := hC.1
  obtain ⟨hT, hv⟩ := hC.2.1
  obtain ⟨hMP, hVP⟩ := hC.2.2.1
  have hVB := hVP.1
  have hV1 := hVB.1
  have hnS := nSt_le hVB
  obtain ⟨⟨rr, hSP⟩, hpv⟩ := hC.2.2.2.1
  have hp5 := hSP.2.1
  have hv200 := hv.1
  refine met_of (by decide +kernel) (Nat.le_of_ble_eq_true rfl) ?_
  show T a 20 mX9_line 0 [(0, rv a 0), (1, .int x), (2, .int y), (3, .int z)] [] S h _
  refine tr_aload_n (pc := 0) 0 dX9_line_0 rfl rfl ?_
  refine tr_getR (pc := 1) (q := 3) dX9_line_1 (hS.1 0 (12, 14) rfl) fi_X9_19 rfl (hS.2 0 1 3 rfl) ?_
  refine tr_iload_n (pc := 4) 1 dX9_line_4 rfl rfl ?_
  refine tr_iload_n (pc := 5) 2 dX9_line_5 rfl rfl ?_
  refine tr_callV (pc := 6) (rest := []) (ci := 2) dX9_line_6 ml_X9_114 cv_X2_hasLine rfl rfl (Nat.le_of_ble_eq_true rfl) (hS.1 3 (5, 3) rfl) rfl (by decide) (c_hasLine_o1 (mo_3 hS) hMP hVB hx) ?_
  rintro _ _ _ ⟨rfl, rfl, rfl⟩
  show T a 20 mX9_line 9 [(0, rv a 0), (1, .int x), (2, .int y), (3, .int z)] [.int (nI 0)] S h _
  refine tr_if_eq (pc := 9) (tgt := 20) dX9_line_9 (by decide) (nI_z_eq (by omega)) (fun _ => ?_) (fun hcc => absurd (by decide) hcc)
  refine tr_aload_n (pc := 20) 0 dX9_line_20 rfl rfl ?_
  refine tr_callV (pc := 21) (rest := []) (ci := 9) dX9_line_21 ml_X9_80 cv_X9_refusedAsBad rfl rfl (Nat.le_of_ble_eq_true rfl) (hS.1 0 (12, 14) rfl) rfl (by decide) (c_rbad hC) ?_
  rintro _ S9 h9 ⟨rfl, hC9, hF9⟩
  show T a 20 mX9_line 24 [(0, rv a 0), (1, .int x), (2, .int y), (3, .int z)] [.int (-2)] S9 h9 _
  exact tr_iret (pc := 24) dX9_line_24 rfl rfl (⟨rfl, hC9, hF9⟩)

set_option maxHeartbeats 4000000 in
set_option maxRecDepth 100000 in
theorem q_line_2 {a : Am} {S : St} {h : Hp} {tx : List Nat} {P : Prog} {past : List Prog} {b n f : Int32} (hC : KS S h tx P past b n f) {m : Nat} {y z : Int32} (hm : m < P.length) (hy : outN y (lnN P m)) : CT a 20 mX9_line [rv a 0, .int (nI m), .int y, .int z] S h (fun v S' h' => v = some (.int (-2)) ∧ KS S' h' tx P past (b + nI 1) n f ∧ CF h h') := by
  have hS := hC.1
  obtain ⟨hT, hv⟩ := hC.2.1
  obtain ⟨hMP, hVP⟩ := hC.2.2.1
  have hVB := hVP.1
  have hV1 := hVB.1
  have hnS := nSt_le hVB
  obtain ⟨⟨rr, hSP⟩, hpv⟩ := hC.2.2.2.1
  have hp5 := hSP.2.1
  have hv200 := hv.1
  refine met_of (by decide +kernel) (Nat.le_of_ble_eq_true rfl) ?_
  show T a 20 mX9_line 0 [(0, rv a 0), (1, .int (nI m)), (2, .int y), (3, .int z)] [] S h _
  refine tr_aload_n (pc := 0) 0 dX9_line_0 rfl rfl ?_
  refine tr_getR (pc := 1) (q := 3) dX9_line_1 (hS.1 0 (12, 14) rfl) fi_X9_19 rfl (hS.2 0 1 3 rfl) ?_
  refine tr_iload_n (pc := 4) 1 dX9_line_4 rfl rfl ?_
  refine tr_iload_n (pc := 5) 2 dX9_line_5 rfl rfl ?_
  refine tr_callV (pc := 6) (rest := []) (ci := 2) dX9_line_6 ml_X9_114 cv_X2_hasLine rfl rfl (Nat.le_of_ble_eq_true rfl) (hS.1 3 (5, 3) rfl) rfl (by decide) (c_hasLine_o2 (mo_3 hS) hMP hVB hm hy) ?_
  rintro _ _ _ ⟨rfl, rfl, rfl⟩
  show T a 20 mX9_line 9 [(0, rv a 0), (1, .int (nI m)), (2, .int y), (3, .int z)] [.int (nI 0)] S h _
  refine tr_if_eq (pc := 9) (tgt := 20) dX9_line_9 (by decide) (nI_z_eq (by omega)) (fun _ => ?_) (fun hcc => absurd (by decide) hcc)
  refine tr_aload_n (pc := 20) 0 dX9_line_20 rfl rfl ?_
  refine tr_callV (pc := 21) (rest := []) (ci := 9) dX9_line_21 ml_X9_80 cv_X9_refusedAsBad rfl rfl (Nat.le_of_ble_eq_true rfl) (hS.1 0 (12, 14) rfl) rfl (by decide) (c_rbad hC) ?_
  rintro _ S9 h9 ⟨rfl, hC9, hF9⟩
  show T a 20 mX9_line 24 [(0, rv a 0), (1, .int (nI m)), (2, .int y), (3, .int z)] [.int (-2)] S9 h9 _
  exact tr_iret (pc := 24) dX9_line_24 rfl rfl (⟨rfl, hC9, hF9⟩)

set_option maxHeartbeats 4000000 in
set_option maxRecDepth 100000 in
theorem q_line_3 {a : Am} {S : St} {h : Hp} {tx : List Nat} {P : Prog} {past : List Prog} {b n f : Int32} (hC : KS S h tx P past b n f) {m i : Nat} {z : Int32} (hi : i < lnN P m) (hz : outN z 5) : CT a 20 mX9_line [rv a 0, .int (nI m), .int (nI i), .int z] S h (fun v S' h' => v = some (.int (-2)) ∧ KS S' h' tx P past (b + nI 1) n f ∧ CF h h') := by
  have hS := hC.1
  obtain ⟨hT, hv⟩ := hC.2.1
  obtain ⟨hMP, hVP⟩ := hC.2.2.1
  have hVB := hVP.1
  have hV1 := hVB.1
  have hnS := nSt_le hVB
  obtain ⟨⟨rr, hSP⟩, hpv⟩ := hC.2.2.2.1
  have hp5 := hSP.2.1
  have hv200 := hv.1
  refine met_of (by decide +kernel) (Nat.le_of_ble_eq_true rfl) ?_
  show T a 20 mX9_line 0 [(0, rv a 0), (1, .int (nI m)), (2, .int (nI i)), (3, .int z)] [] S h _
  refine tr_aload_n (pc := 0) 0 dX9_line_0 rfl rfl ?_
  refine tr_getR (pc := 1) (q := 3) dX9_line_1 (hS.1 0 (12, 14) rfl) fi_X9_19 rfl (hS.2 0 1 3 rfl) ?_
  refine tr_iload_n (pc := 4) 1 dX9_line_4 rfl rfl ?_
  refine tr_iload_n (pc := 5) 2 dX9_line_5 rfl rfl ?_
  refine tr_callV (pc := 6) (rest := []) (ci := 2) dX9_line_6 ml_X9_114 cv_X2_hasLine rfl rfl (Nat.le_of_ble_eq_true rfl) (hS.1 3 (5, 3) rfl) rfl (by decide) (c_hasLine_in (mo_3 hS) hMP hVB hi) ?_
  rintro _ _ _ ⟨rfl, rfl, rfl⟩
  show T a 20 mX9_line 9 [(0, rv a 0), (1, .int (nI m)), (2, .int (nI i)), (3, .int z)] [.int (nI 1)] S h _
  refine tr_if_eq (pc := 9) (tgt := 20) dX9_line_9 (by decide) (nI_z_eq (by omega)) (fun hcc => absurd hcc (by decide)) (fun _ => ?_)
  refine tr_iload_n (pc := 12) 3 dX9_line_12 rfl rfl ?_
  refine tr_iconst (pc := 13) (v := nI 5) dX9_line_13 (by decide) ?_
  refine tr_callS (pc := 14) (rest := []) dX9_line_14 ml_X9_76 cs_X9_isOutside rfl rfl (Nat.le_of_ble_eq_true rfl) (by decide) (c_isOut_out hz) ?_
  rintro _ _ _ ⟨rfl, rfl, rfl⟩
  show T a 20 mX9_line 17 [(0, rv a 0), (1, .int (nI m)), (2, .int (nI i)), (3, .int z)] [.int (nI 1)] S h _
  refine tr_if_eq (pc := 17) (tgt := 25) dX9_line_17 (by decide) (nI_z_eq (by omega)) (fun hcc => absurd hcc (by decide)) (fun _ => ?_)
  refine tr_aload_n (pc := 20) 0 dX9_line_20 rfl rfl ?_
  refine tr_callV (pc := 21) (rest := []) (ci := 9) dX9_line_21 ml_X9_80 cv_X9_refusedAsBad rfl rfl (Nat.le_of_ble_eq_true rfl) (hS.1 0 (12, 14) rfl) rfl (by decide) (c_rbad hC) ?_
  rintro _ S9 h9 ⟨rfl, hC9, hF9⟩
  show T a 20 mX9_line 24 [(0, rv a 0), (1, .int (nI m)), (2, .int (nI i)), (3, .int z)] [.int (-2)] S9 h9 _
  exact tr_iret (pc := 24) dX9_line_24 rfl rfl (⟨rfl, hC9, hF9⟩)

set_option maxHeartbeats 4000000 in
set_option maxRecDepth 100000 in
theorem q_line_o {a : Am} {S : St} {h : Hp} {tx : List Nat} {P : Prog} {past : List Prog} {b n f : Int32} (hC : KS S h tx P past b n f) {m i w : Nat} (hi : i < lnN P m) (hw : w < 5) : CT a 20 mX9_line [rv a 0, .int (nI m), .int (nI i), .int (nI w)] S h (fun v S' h' => v = some (.int (aLine P m i w)) ∧ KS S' h' tx P past b n f ∧ CF h h') := by
  have hS := hC.1
  obtain ⟨hT, hv⟩ := hC.2.1
  obtain ⟨hMP, hVP⟩ := hC.2.2.1
  have hVB := hVP.1
  have hV1 := hVB.1
  have hnS := nSt_le hVB
  obtain ⟨⟨rr, hSP⟩, hpv⟩ := hC.2.2.2.1
  have hp5 := hSP.2.1
  have hv200 := hv.1
  refine met_of (by decide +kernel) (Nat.le_of_ble_eq_true rfl) ?_
  show T a 20 mX9_line 0 [(0, rv a 0), (1, .int (nI m)), (2, .int (nI i)), (3, .int (nI w))] [] S h _
  refine tr_aload_n (pc := 0) 0 dX9_line_0 rfl rfl ?_
  refine tr_getR (pc := 1) (q := 3) dX9_line_1 (hS.1 0 (12, 14) rfl) fi_X9_19 rfl (hS.2 0 1 3 rfl) ?_
  refine tr_iload_n (pc := 4) 1 dX9_line_4 rfl rfl ?_
  refine tr_iload_n (pc := 5) 2 dX9_line_5 rfl rfl ?_
  refine tr_callV (pc := 6) (rest := []) (ci := 2) dX9_line_6 ml_X9_114 cv_X2_hasLine rfl rfl (Nat.le_of_ble_eq_true rfl) (hS.1 3 (5, 3) rfl) rfl (by decide) (c_hasLine_in (mo_3 hS) hMP hVB hi) ?_
  rintro _ _ _ ⟨rfl, rfl, rfl⟩
  show T a 20 mX9_line 9 [(0, rv a 0), (1, .int (nI m)), (2, .int (nI i)), (3, .int (nI w))] [.int (nI 1)] S h _
  refine tr_if_eq (pc := 9) (tgt := 20) dX9_line_9 (by decide) (nI_z_eq (by omega)) (fun hcc => absurd hcc (by decide)) (fun _ => ?_)
  refine tr_iload_n (pc := 12) 3 dX9_line_12 rfl rfl ?_
  refine tr_iconst (pc := 13) (v := nI 5) dX9_line_13 (by decide) ?_
  refine tr_callS (pc := 14) (rest := []) dX9_line_14 ml_X9_76 cs_X9_isOutside rfl rfl (Nat.le_of_ble_eq_true rfl) (by decide) (c_isOut_in hw (by omega)) ?_
  rintro _ _ _ ⟨rfl, rfl, rfl⟩
  show T a 20 mX9_line 17 [(0, rv a 0), (1, .int (nI m)), (2, .int (nI i)), (3, .int (nI w))] [.int (nI 0)] S h _
  refine tr_if_eq (pc := 17) (tgt := 25) dX9_line_17 (by decide) (nI_z_eq (by omega)) (fun _ => ?_) (fun hcc => absurd (by decide) hcc)
  refine tr_aload_n (pc := 25) 0 dX9_line_25 rfl rfl ?_
  refine tr_callV (pc := 26) (rest := []) (ci := 9) dX9_line_26 ml_X9_132 cv_X9_findMays rfl rfl (Nat.le_of_ble_eq_true rfl) (hS.1 0 (12, 14) rfl) rfl (by decide) (c_Fm hC) ?_
  rintro _ _ h1 ⟨rfl, rfl, hC1, hFn1, hF1⟩
  have hMP1 := hC1.2.2.1.1
  show T a 20 mX9_line 29 [(0, rv a 0), (1, .int (nI m)), (2, .int (nI i)), (3, .int (nI w))] [] S h1 _
  refine tr_aload_n (pc := 29) 0 dX9_line_29 rfl rfl ?_
  refine tr_iload_n (pc := 30) 1 dX9_line_30 rfl rfl ?_
  refine tr_iload_n (pc := 31) 2 dX9_line_31 rfl rfl ?_
  refine tr_iload_n (pc := 32) 3 dX9_line_32 rfl rfl ?_
  refine tr_callV (pc := 33) (rest := []) (ci := 9) dX9_line_33 ml_X9_139 cv_X9_ofLine rfl rfl (Nat.le_of_ble_eq_true rfl) (hS.1 0 (12, 14) rfl) rfl (by decide) (c_lineA hS hVB hMP1 hFn1 hi hw) ?_
  rintro _ _ _ ⟨rfl, rfl, rfl⟩
  show T a 20 mX9_line 36 [(0, rv a 0), (1, .int (nI m)), (2, .int (nI i)), (3, .int (nI w))] [.int (aLine P m i w)] S h1 _
  exact tr_iret (pc := 36) dX9_line_36 rfl rfl (⟨rfl, hC1, hF1⟩)

set_option maxHeartbeats 4000000 in
set_option maxRecDepth 100000 in
theorem q_site_1 {a : Am} {S : St} {h : Hp} {tx : List Nat} {P : Prog} {past : List Prog} {b n f : Int32} (hC : KS S h tx P past b n f) {x y : Int32} (hx : outN x (nSt P)) : CT a 20 mX9_site [rv a 0, .int x, .int y] S h (fun v S' h' => v = some (.int (-2)) ∧ KS S' h' tx P past (b + nI 1) n f ∧ CF h h') := by
  have hS := hC.1
  obtain ⟨hT, hv⟩ := hC.2.1
  obtain ⟨hMP, hVP⟩ := hC.2.2.1
  have hVB := hVP.1
  have hV1 := hVB.1
  have hnS := nSt_le hVB
  obtain ⟨⟨rr, hSP⟩, hpv⟩ := hC.2.2.2.1
  have hp5 := hSP.2.1
  have hv200 := hv.1
  refine met_of (by decide +kernel) (Nat.le_of_ble_eq_true rfl) ?_
  show T a 20 mX9_site 0 [(0, rv a 0), (1, .int x), (2, .int y)] [] S h _
  refine tr_aload_n (pc := 0) 0 dX9_site_0 rfl rfl ?_
  refine tr_callV (pc := 1) (rest := []) (ci := 9) dX9_site_1 ml_X9_132 cv_X9_findMays rfl rfl (Nat.le_of_ble_eq_true rfl) (hS.1 0 (12, 14) rfl) rfl (by decide) (c_Fm hC) ?_
  rintro _ _ h1 ⟨rfl, rfl, hC1, hFn1, hF1⟩
  have hMP1 := hC1.2.2.1.1
  show T a 20 mX9_site 4 [(0, rv a 0), (1, .int x), (2, .int y)] [] S h1 _
  refine tr_iload_n (pc := 4) 1 dX9_site_4 rfl rfl ?_
  refine tr_aload_n (pc := 5) 0 dX9_site_5 rfl rfl ?_
  refine tr_getR (pc := 6) (q := 31) dX9_site_6 (hS.1 0 (12, 14) rfl) fi_X9_45 rfl (hS.2 0 5 31 rfl) ?_
  refine tr_callV (pc := 9) (rest := [.int x]) (ci := 4) dX9_site_9 ml_X9_143 cv_X4_count rfl rfl (Nat.le_of_ble_eq_true rfl) (hS.1 31 (7, 4) rfl) rfl (by decide) (c_sitecount hS hVB hFn1.1) ?_
  rintro _ _ _ ⟨rfl, rfl, rfl⟩
  show T a 20 mX9_site 12 [(0, rv a 0), (1, .int x), (2, .int y)] [.int (nI (nSt P)), .int x] S h1 _
  refine tr_callS (pc := 12) (rest := []) dX9_site_12 ml_X9_76 cs_X9_isOutside rfl rfl (Nat.le_of_ble_eq_true rfl) (by decide) (c_isOut_out hx) ?_
  rintro _ _ _ ⟨rfl, rfl, rfl⟩
  show T a 20 mX9_site 15 [(0, rv a 0), (1, .int x), (2, .int y)] [.int (nI 1)] S h1 _
  refine tr_if_ne (pc := 15) (tgt := 26) dX9_site_15 (by decide) (nI_z_eq (by omega)) (fun _ => ?_) (fun hcc => absurd hcc (by decide))
  refine tr_aload_n (pc := 26) 0 dX9_site_26 rfl rfl ?_
  refine tr_callV (pc := 27) (rest := []) (ci := 9) dX9_site_27 ml_X9_80 cv_X9_refusedAsBad rfl rfl (Nat.le_of_ble_eq_true rfl) (hS.1 0 (12, 14) rfl) rfl (by decide) (c_rbad hC1) ?_
  rintro _ S9 h9 ⟨rfl, hC9, hF9⟩
  show T a 20 mX9_site 30 [(0, rv a 0), (1, .int x), (2, .int y)] [.int (-2)] S9 h9 _
  exact tr_iret (pc := 30) dX9_site_30 rfl rfl (⟨rfl, hC9, hF1.trans hF9⟩)

set_option maxHeartbeats 4000000 in
set_option maxRecDepth 100000 in
theorem q_site_2 {a : Am} {S : St} {h : Hp} {tx : List Nat} {P : Prog} {past : List Prog} {b n f : Int32} (hC : KS S h tx P past b n f) {s : Nat} {y : Int32} (hs : s < nSt P) (hy : outN y 4) : CT a 20 mX9_site [rv a 0, .int (nI s), .int y] S h (fun v S' h' => v = some (.int (-2)) ∧ KS S' h' tx P past (b + nI 1) n f ∧ CF h h') := by
  have hS := hC.1
  obtain ⟨hT, hv⟩ := hC.2.1
  obtain ⟨hMP, hVP⟩ := hC.2.2.1
  have hVB := hVP.1
  have hV1 := hVB.1
  have hnS := nSt_le hVB
  obtain ⟨⟨rr, hSP⟩, hpv⟩ := hC.2.2.2.1
  have hp5 := hSP.2.1
  have hv200 := hv.1
  refine met_of (by decide +kernel) (Nat.le_of_ble_eq_true rfl) ?_
  show T a 20 mX9_site 0 [(0, rv a 0), (1, .int (nI s)), (2, .int y)] [] S h _
  refine tr_aload_n (pc := 0) 0 dX9_site_0 rfl rfl ?_
  refine tr_callV (pc := 1) (rest := []) (ci := 9) dX9_site_1 ml_X9_132 cv_X9_findMays rfl rfl (Nat.le_of_ble_eq_true rfl) (hS.1 0 (12, 14) rfl) rfl (by decide) (c_Fm hC) ?_
  rintro _ _ h1 ⟨rfl, rfl, hC1, hFn1, hF1⟩
  have hMP1 := hC1.2.2.1.1
  show T a 20 mX9_site 4 [(0, rv a 0), (1, .int (nI s)), (2, .int y)] [] S h1 _
  refine tr_iload_n (pc := 4) 1 dX9_site_4 rfl rfl ?_
  refine tr_aload_n (pc := 5) 0 dX9_site_5 rfl rfl ?_
  refine tr_getR (pc := 6) (q := 31) dX9_site_6 (hS.1 0 (12, 14) rfl) fi_X9_45 rfl (hS.2 0 5 31 rfl) ?_
  refine tr_callV (pc := 9) (rest := [.int (nI s)]) (ci := 4) dX9_site_9 ml_X9_143 cv_X4_count rfl rfl (Nat.le_of_ble_eq_true rfl) (hS.1 31 (7, 4) rfl) rfl (by decide) (c_sitecount hS hVB hFn1.1) ?_
  rintro _ _ _ ⟨rfl, rfl, rfl⟩
  show T a 20 mX9_site 12 [(0, rv a 0), (1, .int (nI s)), (2, .int y)] [.int (nI (nSt P)), .int (nI s)] S h1 _
  refine tr_callS (pc := 12) (rest := []) dX9_site_12 ml_X9_76 cs_X9_isOutside rfl rfl (Nat.le_of_ble_eq_true rfl) (by decide) (c_isOut_in hs (by omega)) ?_
  rintro _ _ _ ⟨rfl, rfl, rfl⟩
  show T a 20 mX9_site 15 [(0, rv a 0), (1, .int (nI s)), (2, .int y)] [.int (nI 0)] S h1 _
  refine tr_if_ne (pc := 15) (tgt := 26) dX9_site_15 (by decide) (nI_z_eq (by omega)) (fun hcc => absurd (by decide) hcc) (fun _ => ?_)
  refine tr_iload_n (pc := 18) 2 dX9_site_18 rfl rfl ?_
  refine tr_iconst (pc := 19) (v := nI 4) dX9_site_19 (by decide) ?_
  refine tr_callS (pc := 20) (rest := []) dX9_site_20 ml_X9_76 cs_X9_isOutside rfl rfl (Nat.le_of_ble_eq_true rfl) (by decide) (c_isOut_out hy) ?_
  rintro _ _ _ ⟨rfl, rfl, rfl⟩
  show T a 20 mX9_site 23 [(0, rv a 0), (1, .int (nI s)), (2, .int y)] [.int (nI 1)] S h1 _
  refine tr_if_eq (pc := 23) (tgt := 31) dX9_site_23 (by decide) (nI_z_eq (by omega)) (fun hcc => absurd hcc (by decide)) (fun _ => ?_)
  refine tr_aload_n (pc := 26) 0 dX9_site_26 rfl rfl ?_
  refine tr_callV (pc := 27) (rest := []) (ci := 9) dX9_site_27 ml_X9_80 cv_X9_refusedAsBad rfl rfl (Nat.le_of_ble_eq_true rfl) (hS.1 0 (12, 14) rfl) rfl (by decide) (c_rbad hC1) ?_
  rintro _ S9 h9 ⟨rfl, hC9, hF9⟩
  show T a 20 mX9_site 30 [(0, rv a 0), (1, .int (nI s)), (2, .int y)] [.int (-2)] S9 h9 _
  exact tr_iret (pc := 30) dX9_site_30 rfl rfl (⟨rfl, hC9, hF1.trans hF9⟩)

set_option maxHeartbeats 4000000 in
set_option maxRecDepth 100000 in
theorem q_ran_1 {a : Am} {S : St} {h : Hp} {tx : List Nat} {P : Prog} {past : List Prog} {b n f : Int32} (hC : KS S h tx P past b n f) {x y : Int32} (hx : outN x (nSt P)) : CT a 20 mX9_ran [rv a 0, .int x, .int y] S h (fun v S' h' => v = some (.int (-2)) ∧ KS S' h' tx P past (b + nI 1) n f ∧ CF h h') := by
  have hS := hC.1
  obtain ⟨hT, hv⟩ := hC.2.1
  obtain ⟨hMP, hVP⟩ := hC.2.2.1
  have hVB := hVP.1
  have hV1 := hVB.1
  have hnS := nSt_le hVB
  obtain ⟨⟨rr, hSP⟩, hpv⟩ := hC.2.2.2.1
  have hp5 := hSP.2.1
  have hv200 := hv.1
  refine met_of (by decide +kernel) (Nat.le_of_ble_eq_true rfl) ?_
  show T a 20 mX9_ran 0 [(0, rv a 0), (1, .int x), (2, .int y)] [] S h _
  refine tr_aload_n (pc := 0) 0 dX9_ran_0 rfl rfl ?_
  refine tr_callV (pc := 1) (rest := []) (ci := 9) dX9_ran_1 ml_X9_132 cv_X9_findMays rfl rfl (Nat.le_of_ble_eq_true rfl) (hS.1 0 (12, 14) rfl) rfl (by decide) (c_Fm hC) ?_
  rintro _ _ h1 ⟨rfl, rfl, hC1, hFn1, hF1⟩
  have hMP1 := hC1.2.2.1.1
  show T a 20 mX9_ran 4 [(0, rv a 0), (1, .int x), (2, .int y)] [] S h1 _
  refine tr_iload_n (pc := 4) 1 dX9_ran_4 rfl rfl ?_
  refine tr_aload_n (pc := 5) 0 dX9_ran_5 rfl rfl ?_
  refine tr_getR (pc := 6) (q := 31) dX9_ran_6 (hS.1 0 (12, 14) rfl) fi_X9_45 rfl (hS.2 0 5 31 rfl) ?_
  refine tr_callV (pc := 9) (rest := [.int x]) (ci := 4) dX9_ran_9 ml_X9_143 cv_X4_count rfl rfl (Nat.le_of_ble_eq_true rfl) (hS.1 31 (7, 4) rfl) rfl (by decide) (c_sitecount hS hVB hFn1.1) ?_
  rintro _ _ _ ⟨rfl, rfl, rfl⟩
  show T a 20 mX9_ran 12 [(0, rv a 0), (1, .int x), (2, .int y)] [.int (nI (nSt P)), .int x] S h1 _
  refine tr_callS (pc := 12) (rest := []) dX9_ran_12 ml_X9_76 cs_X9_isOutside rfl rfl (Nat.le_of_ble_eq_true rfl) (by decide) (c_isOut_out hx) ?_
  rintro _ _ _ ⟨rfl, rfl, rfl⟩
  show T a 20 mX9_ran 15 [(0, rv a 0), (1, .int x), (2, .int y)] [.int (nI 1)] S h1 _
  refine tr_if_ne (pc := 15) (tgt := 26) dX9_ran_15 (by decide) (nI_z_eq (by omega)) (fun _ => ?_) (fun hcc => absurd hcc (by decide))
  refine tr_aload_n (pc := 26) 0 dX9_ran_26 rfl rfl ?_
  refine tr_callV (pc := 27) (rest := []) (ci := 9) dX9_ran_27 ml_X9_80 cv_X9_refusedAsBad rfl rfl (Nat.le_of_ble_eq_true rfl) (hS.1 0 (12, 14) rfl) rfl (by decide) (c_rbad hC1) ?_
  rintro _ S9 h9 ⟨rfl, hC9, hF9⟩
  show T a 20 mX9_ran 30 [(0, rv a 0), (1, .int x), (2, .int y)] [.int (-2)] S9 h9 _
  exact tr_iret (pc := 30) dX9_ran_30 rfl rfl (⟨rfl, hC9, hF1.trans hF9⟩)

set_option maxHeartbeats 4000000 in
set_option maxRecDepth 100000 in
theorem q_ran_2 {a : Am} {S : St} {h : Hp} {tx : List Nat} {P : Prog} {past : List Prog} {b n f : Int32} (hC : KS S h tx P past b n f) {s : Nat} {y : Int32} (hs : s < nSt P) (hy : outN y 3) : CT a 20 mX9_ran [rv a 0, .int (nI s), .int y] S h (fun v S' h' => v = some (.int (-2)) ∧ KS S' h' tx P past (b + nI 1) n f ∧ CF h h') := by
  have hS := hC.1
  obtain ⟨hT, hv⟩ := hC.2.1
  obtain ⟨hMP, hVP⟩ := hC.2.2.1
  have hVB := hVP.1
  have hV1 := hVB.1
  have hnS := nSt_le hVB
  obtain ⟨⟨rr, hSP⟩, hpv⟩ := hC.2.2.2.1
  have hp5 := hSP.2.1
  have hv200 := hv.1
  refine met_of (by decide +kernel) (Nat.le_of_ble_eq_true rfl) ?_
  show T a 20 mX9_ran 0 [(0, rv a 0), (1, .int (nI s)), (2, .int y)] [] S h _
  refine tr_aload_n (pc := 0) 0 dX9_ran_0 rfl rfl ?_
  refine tr_callV (pc := 1) (rest := []) (ci := 9) dX9_ran_1 ml_X9_132 cv_X9_findMays rfl rfl (Nat.le_of_ble_eq_true rfl) (hS.1 0 (12, 14) rfl) rfl (by decide) (c_Fm hC) ?_
  rintro _ _ h1 ⟨rfl, rfl, hC1, hFn1, hF1⟩
  have hMP1 := hC1.2.2.1.1
  show T a 20 mX9_ran 4 [(0, rv a 0), (1, .int (nI s)), (2, .int y)] [] S h1 _
  refine tr_iload_n (pc := 4) 1 dX9_ran_4 rfl rfl ?_
  refine tr_aload_n (pc := 5) 0 dX9_ran_5 rfl rfl ?_
  refine tr_getR (pc := 6) (q := 31) dX9_ran_6 (hS.1 0 (12, 14) rfl) fi_X9_45 rfl (hS.2 0 5 31 rfl) ?_
  refine tr_callV (pc := 9) (rest := [.int (nI s)]) (ci := 4) dX9_ran_9 ml_X9_143 cv_X4_count rfl rfl (Nat.le_of_ble_eq_true rfl) (hS.1 31 (7, 4) rfl) rfl (by decide) (c_sitecount hS hVB hFn1.1) ?_
  rintro _ _ _ ⟨rfl, rfl, rfl⟩
  show T a 20 mX9_ran 12 [(0, rv a 0), (1, .int (nI s)), (2, .int y)] [.int (nI (nSt P)), .int (nI s)] S h1 _
  refine tr_callS (pc := 12) (rest := []) dX9_ran_12 ml_X9_76 cs_X9_isOutside rfl rfl (Nat.le_of_ble_eq_true rfl) (by decide) (c_isOut_in hs (by omega)) ?_
  rintro _ _ _ ⟨rfl, rfl, rfl⟩
  show T a 20 mX9_ran 15 [(0, rv a 0), (1, .int (nI s)), (2, .int y)] [.int (nI 0)] S h1 _
  refine tr_if_ne (pc := 15) (tgt := 26) dX9_ran_15 (by decide) (nI_z_eq (by omega)) (fun hcc => absurd (by decide) hcc) (fun _ => ?_)
  refine tr_iload_n (pc := 18) 2 dX9_ran_18 rfl rfl ?_
  refine tr_iconst (pc := 19) (v := nI 3) dX9_ran_19 (by decide) ?_
  refine tr_callS (pc := 20) (rest := []) dX9_ran_20 ml_X9_76 cs_X9_isOutside rfl rfl (Nat.le_of_ble_eq_true rfl) (by decide) (c_isOut_out hy) ?_
  rintro _ _ _ ⟨rfl, rfl, rfl⟩
  show T a 20 mX9_ran 23 [(0, rv a 0), (1, .int (nI s)), (2, .int y)] [.int (nI 1)] S h1 _
  refine tr_if_eq (pc := 23) (tgt := 31) dX9_ran_23 (by decide) (nI_z_eq (by omega)) (fun hcc => absurd hcc (by decide)) (fun _ => ?_)
  refine tr_aload_n (pc := 26) 0 dX9_ran_26 rfl rfl ?_
  refine tr_callV (pc := 27) (rest := []) (ci := 9) dX9_ran_27 ml_X9_80 cv_X9_refusedAsBad rfl rfl (Nat.le_of_ble_eq_true rfl) (hS.1 0 (12, 14) rfl) rfl (by decide) (c_rbad hC1) ?_
  rintro _ S9 h9 ⟨rfl, hC9, hF9⟩
  show T a 20 mX9_ran 30 [(0, rv a 0), (1, .int (nI s)), (2, .int y)] [.int (-2)] S9 h9 _
  exact tr_iret (pc := 30) dX9_ran_30 rfl rfl (⟨rfl, hC9, hF1.trans hF9⟩)

set_option maxHeartbeats 4000000 in
set_option maxRecDepth 100000 in
theorem q_site_o {a : Am} {S : St} {h : Hp} {tx : List Nat} {P : Prog} {past : List Prog} {b n f : Int32} (hC : KS S h tx P past b n f) {s w : Nat} (hs : s < nSt P) (hw : w < 4) : CT a 20 mX9_site [rv a 0, .int (nI s), .int (nI w)] S h (fun v S' h' => v = some (.int (aSite P s w)) ∧ KS S' h' tx P past b n f ∧ CF h h') := by
  have hS := hC.1
  obtain ⟨hT, hv⟩ := hC.2.1
  obtain ⟨hMP, hVP⟩ := hC.2.2.1
  have hVB := hVP.1
  have hV1 := hVB.1
  have hnS := nSt_le hVB
  obtain ⟨⟨rr, hSP⟩, hpv⟩ := hC.2.2.2.1
  have hp5 := hSP.2.1
  have hv200 := hv.1
  refine met_of (by decide +kernel) (Nat.le_of_ble_eq_true rfl) ?_
  show T a 20 mX9_site 0 [(0, rv a 0), (1, .int (nI s)), (2, .int (nI w))] [] S h _
  refine tr_aload_n (pc := 0) 0 dX9_site_0 rfl rfl ?_
  refine tr_callV (pc := 1) (rest := []) (ci := 9) dX9_site_1 ml_X9_132 cv_X9_findMays rfl rfl (Nat.le_of_ble_eq_true rfl) (hS.1 0 (12, 14) rfl) rfl (by decide) (c_Fm hC) ?_
  rintro _ _ h1 ⟨rfl, rfl, hC1, hFn1, hF1⟩
  have hMP1 := hC1.2.2.1.1
  show T a 20 mX9_site 4 [(0, rv a 0), (1, .int (nI s)), (2, .int (nI w))] [] S h1 _
  refine tr_iload_n (pc := 4) 1 dX9_site_4 rfl rfl ?_
  refine tr_aload_n (pc := 5) 0 dX9_site_5 rfl rfl ?_
  refine tr_getR (pc := 6) (q := 31) dX9_site_6 (hS.1 0 (12, 14) rfl) fi_X9_45 rfl (hS.2 0 5 31 rfl) ?_
  refine tr_callV (pc := 9) (rest := [.int (nI s)]) (ci := 4) dX9_site_9 ml_X9_143 cv_X4_count rfl rfl (Nat.le_of_ble_eq_true rfl) (hS.1 31 (7, 4) rfl) rfl (by decide) (c_sitecount hS hVB hFn1.1) ?_
  rintro _ _ _ ⟨rfl, rfl, rfl⟩
  show T a 20 mX9_site 12 [(0, rv a 0), (1, .int (nI s)), (2, .int (nI w))] [.int (nI (nSt P)), .int (nI s)] S h1 _
  refine tr_callS (pc := 12) (rest := []) dX9_site_12 ml_X9_76 cs_X9_isOutside rfl rfl (Nat.le_of_ble_eq_true rfl) (by decide) (c_isOut_in hs (by omega)) ?_
  rintro _ _ _ ⟨rfl, rfl, rfl⟩
  show T a 20 mX9_site 15 [(0, rv a 0), (1, .int (nI s)), (2, .int (nI w))] [.int (nI 0)] S h1 _
  refine tr_if_ne (pc := 15) (tgt := 26) dX9_site_15 (by decide) (nI_z_eq (by omega)) (fun hcc => absurd (by decide) hcc) (fun _ => ?_)
  refine tr_iload_n (pc := 18) 2 dX9_site_18 rfl rfl ?_
  refine tr_iconst (pc := 19) (v := nI 4) dX9_site_19 (by decide) ?_
  refine tr_callS (pc := 20) (rest := []) dX9_site_20 ml_X9_76 cs_X9_isOutside rfl rfl (Nat.le_of_ble_eq_true rfl) (by decide) (c_isOut_in hw (by omega)) ?_
  rintro _ _ _ ⟨rfl, rfl, rfl⟩
  show T a 20 mX9_site 23 [(0, rv a 0), (1, .int (nI s)), (2, .int (nI w))] [.int (nI 0)] S h1 _
  refine tr_if_eq (pc := 23) (tgt := 31) dX9_site_23 (by decide) (nI_z_eq (by omega)) (fun _ => ?_) (fun hcc => absurd (by decide) hcc)
  refine tr_aload_n (pc := 31) 0 dX9_site_31 rfl rfl ?_
  refine tr_iload_n (pc := 32) 1 dX9_site_32 rfl rfl ?_
  refine tr_iload_n (pc := 33) 2 dX9_site_33 rfl rfl ?_
  refine tr_callV (pc := 34) (rest := []) (ci := 9) dX9_site_34 ml_X9_144 cv_X9_ofSite rfl rfl (Nat.le_of_ble_eq_true rfl) (hS.1 0 (12, 14) rfl) rfl (by decide) (c_siteA hS hVB hFn1 hs hw) ?_
  rintro _ _ _ ⟨rfl, rfl, rfl⟩
  show T a 20 mX9_site 37 [(0, rv a 0), (1, .int (nI s)), (2, .int (nI w))] [.int (aSite P s w)] S h1 _
  exact tr_iret (pc := 37) dX9_site_37 rfl rfl (⟨rfl, hC1, hF1⟩)

set_option maxHeartbeats 4000000 in
set_option maxRecDepth 100000 in
theorem q_ran_o {a : Am} {S : St} {h : Hp} {tx : List Nat} {P : Prog} {past : List Prog} {b n f : Int32} (hC : KS S h tx P past b n f) {s w : Nat} (hs : s < nSt P) (hw : w < 3) : CT a 20 mX9_ran [rv a 0, .int (nI s), .int (nI w)] S h (fun v S' h' => v = some (.int (aRan P s w)) ∧ KS S' h' tx P past b n f ∧ CF h h') := by
  have hS := hC.1
  obtain ⟨hT, hv⟩ := hC.2.1
  obtain ⟨hMP, hVP⟩ := hC.2.2.1
  have hVB := hVP.1
  have hV1 := hVB.1
  have hnS := nSt_le hVB
  obtain ⟨⟨rr, hSP⟩, hpv⟩ := hC.2.2.2.1
  have hp5 := hSP.2.1
  have hv200 := hv.1
  refine met_of (by decide +kernel) (Nat.le_of_ble_eq_true rfl) ?_
  show T a 20 mX9_ran 0 [(0, rv a 0), (1, .int (nI s)), (2, .int (nI w))] [] S h _
  refine tr_aload_n (pc := 0) 0 dX9_ran_0 rfl rfl ?_
  refine tr_callV (pc := 1) (rest := []) (ci := 9) dX9_ran_1 ml_X9_132 cv_X9_findMays rfl rfl (Nat.le_of_ble_eq_true rfl) (hS.1 0 (12, 14) rfl) rfl (by decide) (c_Fm hC) ?_
  rintro _ _ h1 ⟨rfl, rfl, hC1, hFn1, hF1⟩
  have hMP1 := hC1.2.2.1.1
  show T a 20 mX9_ran 4 [(0, rv a 0), (1, .int (nI s)), (2, .int (nI w))] [] S h1 _
  refine tr_iload_n (pc := 4) 1 dX9_ran_4 rfl rfl ?_
  refine tr_aload_n (pc := 5) 0 dX9_ran_5 rfl rfl ?_
  refine tr_getR (pc := 6) (q := 31) dX9_ran_6 (hS.1 0 (12, 14) rfl) fi_X9_45 rfl (hS.2 0 5 31 rfl) ?_
  refine tr_callV (pc := 9) (rest := [.int (nI s)]) (ci := 4) dX9_ran_9 ml_X9_143 cv_X4_count rfl rfl (Nat.le_of_ble_eq_true rfl) (hS.1 31 (7, 4) rfl) rfl (by decide) (c_sitecount hS hVB hFn1.1) ?_
  rintro _ _ _ ⟨rfl, rfl, rfl⟩
  show T a 20 mX9_ran 12 [(0, rv a 0), (1, .int (nI s)), (2, .int (nI w))] [.int (nI (nSt P)), .int (nI s)] S h1 _
  refine tr_callS (pc := 12) (rest := []) dX9_ran_12 ml_X9_76 cs_X9_isOutside rfl rfl (Nat.le_of_ble_eq_true rfl) (by decide) (c_isOut_in hs (by omega)) ?_
  rintro _ _ _ ⟨rfl, rfl, rfl⟩
  show T a 20 mX9_ran 15 [(0, rv a 0), (1, .int (nI s)), (2, .int (nI w))] [.int (nI 0)] S h1 _
  refine tr_if_ne (pc := 15) (tgt := 26) dX9_ran_15 (by decide) (nI_z_eq (by omega)) (fun hcc => absurd (by decide) hcc) (fun _ => ?_)
  refine tr_iload_n (pc := 18) 2 dX9_ran_18 rfl rfl ?_
  refine tr_iconst (pc := 19) (v := nI 3) dX9_ran_19 (by decide) ?_
  refine tr_callS (pc := 20) (rest := []) dX9_ran_20 ml_X9_76 cs_X9_isOutside rfl rfl (Nat.le_of_ble_eq_true rfl) (by decide) (c_isOut_in hw (by omega)) ?_
  rintro _ _ _ ⟨rfl, rfl, rfl⟩
  show T a 20 mX9_ran 23 [(0, rv a 0), (1, .int (nI s)), (2, .int (nI w))] [.int (nI 0)] S h1 _
  refine tr_if_eq (pc := 23) (tgt := 31) dX9_ran_23 (by decide) (nI_z_eq (by omega)) (fun _ => ?_) (fun hcc => absurd (by decide) hcc)
  refine tr_aload_n (pc := 31) 0 dX9_ran_31 rfl rfl ?_
  refine tr_callV (pc := 32) (rest := []) (ci := 9) dX9_ran_32 ml_X9_159 cv_X9_findRun rfl rfl (Nat.le_of_ble_eq_true rfl) (hS.1 0 (12, 14) rfl) rfl (by decide) (c_Fr hC1) ?_
  rintro _ S2 h2 ⟨rfl, hC2, hFn2, hTr2, hF2⟩
  have hS2 := hC2.1
  show T a 20 mX9_ran 35 [(0, rv a 0), (1, .int (nI s)), (2, .int (nI w))] [] S2 h2 _
  refine tr_aload_n (pc := 35) 0 dX9_ran_35 rfl rfl ?_
  refine tr_iload_n (pc := 36) 1 dX9_ran_36 rfl rfl ?_
  refine tr_iload_n (pc := 37) 2 dX9_ran_37 rfl rfl ?_
  refine tr_callV (pc := 38) (rest := []) (ci := 9) dX9_ran_38 ml_X9_165 cv_X9_ofSiteRun rfl rfl (Nat.le_of_ble_eq_true rfl) (hS2.1 0 (12, 14) rfl) rfl (by decide) (c_oranA hS2 hTr2 (by omega) hw) ?_
  rintro _ _ _ ⟨rfl, rfl, rfl⟩
  show T a 20 mX9_ran 41 [(0, rv a 0), (1, .int (nI s)), (2, .int (nI w))] [.int (aRan P s w)] S2 h2 _
  exact tr_iret (pc := 41) dX9_ran_41 rfl rfl (⟨rfl, hC2, hF1.trans hF2⟩)

set_option maxHeartbeats 4000000 in
set_option maxRecDepth 100000 in
theorem q_open {a : Am} {S : St} {h : Hp} {tx : List Nat} {P : Prog} {past : List Prog} {b n f : Int32} (hC : KS S h tx P past b n f) : CT a 20 mX9_open [rv a 0] S h (fun v S' h' => v = some (.int (mayV P 16)) ∧ KS S' h' tx P past b n f ∧ CF h h') := by
  have hS := hC.1
  obtain ⟨hT, hv⟩ := hC.2.1
  obtain ⟨hMP, hVP⟩ := hC.2.2.1
  have hVB := hVP.1
  have hV1 := hVB.1
  have hnS := nSt_le hVB
  obtain ⟨⟨rr, hSP⟩, hpv⟩ := hC.2.2.2.1
  have hp5 := hSP.2.1
  have hv200 := hv.1
  refine met_of (by decide +kernel) (Nat.le_of_ble_eq_true rfl) ?_
  show T a 20 mX9_open 0 [(0, rv a 0)] [] S h _
  refine tr_aload_n (pc := 0) 0 dX9_open_0 rfl rfl ?_
  refine tr_callV (pc := 1) (rest := []) (ci := 9) dX9_open_1 ml_X9_132 cv_X9_findMays rfl rfl (Nat.le_of_ble_eq_true rfl) (hS.1 0 (12, 14) rfl) rfl (by decide) (c_Fm hC) ?_
  rintro _ _ h1 ⟨rfl, rfl, hC1, hFn1, hF1⟩
  have hMP1 := hC1.2.2.1.1
  show T a 20 mX9_open 4 [(0, rv a 0)] [] S h1 _
  refine tr_aload_n (pc := 4) 0 dX9_open_4 rfl rfl ?_
  refine tr_getR (pc := 5) (q := 35) dX9_open_5 (hS.1 0 (12, 14) rfl) fi_X9_54 rfl (hS.2 0 6 35 rfl) ?_
  refine tr_callV (pc := 8) (rest := []) (ci := 1) dX9_open_8 ml_X9_150 cv_X1_inOpenPlace rfl rfl (Nat.le_of_ble_eq_true rfl) (hS.1 35 (4, 6) rfl) rfl (by decide) (c_inOpen hS hFn1.2.1) ?_
  rintro _ _ _ ⟨rfl, rfl, rfl⟩
  show T a 20 mX9_open 11 [(0, rv a 0)] [.int (mayV P 16)] S h1 _
  exact tr_iret (pc := 11) dX9_open_11 rfl rfl (⟨rfl, hC1, hF1⟩)

set_option maxHeartbeats 4000000 in
set_option maxRecDepth 100000 in
theorem q_fates_1 {a : Am} {S : St} {h : Hp} {tx : List Nat} {P : Prog} {past : List Prog} {b n f : Int32} (hC : KS S h tx P past b n f) {x : Int32} (hx : outN x 3) : CT a 20 mX9_fates [rv a 0, .int x] S h (fun v S' h' => v = some (.int (-2)) ∧ KS S' h' tx P past (b + nI 1) n f ∧ CF h h') := by
  have hS := hC.1
  obtain ⟨hT, hv⟩ := hC.2.1
  obtain ⟨hMP, hVP⟩ := hC.2.2.1
  have hVB := hVP.1
  have hV1 := hVB.1
  have hnS := nSt_le hVB
  obtain ⟨⟨rr, hSP⟩, hpv⟩ := hC.2.2.2.1
  have hp5 := hSP.2.1
  have hv200 := hv.1
  refine met_of (by decide +kernel) (Nat.le_of_ble_eq_true rfl) ?_
  show T a 20 mX9_fates 0 [(0, rv a 0), (1, .int x)] [] S h _
  refine tr_iload_n (pc := 0) 1 dX9_fates_0 rfl rfl ?_
  refine tr_iconst (pc := 1) (v := nI 3) dX9_fates_1 (by decide) ?_
  refine tr_callS (pc := 2) (rest := []) dX9_fates_2 ml_X9_76 cs_X9_isOutside rfl rfl (Nat.le_of_ble_eq_true rfl) (by decide) (c_isOut_out hx) ?_
  rintro _ _ _ ⟨rfl, rfl, rfl⟩
  show T a 20 mX9_fates 5 [(0, rv a 0), (1, .int x)] [.int (nI 1)] S h _
  refine tr_if_eq (pc := 5) (tgt := 13) dX9_fates_5 (by decide) (nI_z_eq (by omega)) (fun hcc => absurd hcc (by decide)) (fun _ => ?_)
  refine tr_aload_n (pc := 8) 0 dX9_fates_8 rfl rfl ?_
  refine tr_callV (pc := 9) (rest := []) (ci := 9) dX9_fates_9 ml_X9_80 cv_X9_refusedAsBad rfl rfl (Nat.le_of_ble_eq_true rfl) (hS.1 0 (12, 14) rfl) rfl (by decide) (c_rbad hC) ?_
  rintro _ S9 h9 ⟨rfl, hC9, hF9⟩
  show T a 20 mX9_fates 12 [(0, rv a 0), (1, .int x)] [.int (-2)] S9 h9 _
  exact tr_iret (pc := 12) dX9_fates_12 rfl rfl (⟨rfl, hC9, hF9⟩)

set_option maxHeartbeats 4000000 in
set_option maxRecDepth 100000 in
theorem q_fates_o {a : Am} {S : St} {h : Hp} {tx : List Nat} {P : Prog} {past : List Prog} {b n f : Int32} (hC : KS S h tx P past b n f) {w : Nat} (hw : w < 3) : CT a 20 mX9_fates [rv a 0, .int (nI w)] S h (fun v S' h' => v = some (.int (nI (cntG (fun s => decide (fate P s = w)) (nSt P)))) ∧ KS S' h' tx P past b n f ∧ CF h h') := by
  have hS := hC.1
  obtain ⟨hT, hv⟩ := hC.2.1
  obtain ⟨hMP, hVP⟩ := hC.2.2.1
  have hVB := hVP.1
  have hV1 := hVB.1
  have hnS := nSt_le hVB
  obtain ⟨⟨rr, hSP⟩, hpv⟩ := hC.2.2.2.1
  have hp5 := hSP.2.1
  have hv200 := hv.1
  refine met_of (by decide +kernel) (Nat.le_of_ble_eq_true rfl) ?_
  show T a 20 mX9_fates 0 [(0, rv a 0), (1, .int (nI w))] [] S h _
  refine tr_iload_n (pc := 0) 1 dX9_fates_0 rfl rfl ?_
  refine tr_iconst (pc := 1) (v := nI 3) dX9_fates_1 (by decide) ?_
  refine tr_callS (pc := 2) (rest := []) dX9_fates_2 ml_X9_76 cs_X9_isOutside rfl rfl (Nat.le_of_ble_eq_true rfl) (by decide) (c_isOut_in hw (by omega)) ?_
  rintro _ _ _ ⟨rfl, rfl, rfl⟩
  show T a 20 mX9_fates 5 [(0, rv a 0), (1, .int (nI w))] [.int (nI 0)] S h _
  refine tr_if_eq (pc := 5) (tgt := 13) dX9_fates_5 (by decide) (nI_z_eq (by omega)) (fun _ => ?_) (fun hcc => absurd (by decide) hcc)
  refine tr_aload_n (pc := 13) 0 dX9_fates_13 rfl rfl ?_
  refine tr_callV (pc := 14) (rest := []) (ci := 9) dX9_fates_14 ml_X9_132 cv_X9_findMays rfl rfl (Nat.le_of_ble_eq_true rfl) (hS.1 0 (12, 14) rfl) rfl (by decide) (c_Fm hC) ?_
  rintro _ _ h1 ⟨rfl, rfl, hC1, hFn1, hF1⟩
  have hMP1 := hC1.2.2.1.1
  show T a 20 mX9_fates 17 [(0, rv a 0), (1, .int (nI w))] [] S h1 _
  refine tr_aload_n (pc := 17) 0 dX9_fates_17 rfl rfl ?_
  refine tr_getR (pc := 18) (q := 38) dX9_fates_18 (hS.1 0 (12, 14) rfl) fi_X9_63 rfl (hS.2 0 7 38 rfl) ?_
  refine tr_iload_n (pc := 21) 1 dX9_fates_21 rfl rfl ?_
  refine tr_callV (pc := 22) (rest := []) (ci := 0) dX9_fates_22 ml_X9_156 cv_X0_countOf rfl rfl (Nat.le_of_ble_eq_true rfl) (hS.1 38 (3, 5) rfl) rfl (by decide) (c_countOf hS hVB hFn1.2.2 hFn1.1 hw) ?_
  rintro _ _ _ ⟨rfl, rfl, rfl⟩
  show T a 20 mX9_fates 25 [(0, rv a 0), (1, .int (nI w))] [.int (nI (cntG (fun s => decide (fate P s = w)) (nSt P)))] S h1 _
  exact tr_iret (pc := 25) dX9_fates_25 rfl rfl (⟨rfl, hC1, hF1⟩)

set_option maxHeartbeats 4000000 in
set_option maxRecDepth 100000 in
theorem q_run_1 {a : Am} {S : St} {h : Hp} {tx : List Nat} {P : Prog} {past : List Prog} {b n f : Int32} (hC : KS S h tx P past b n f) {x : Int32} (hx : outN x 6) : CT a 20 mX9_run [rv a 0, .int x] S h (fun v S' h' => v = some (.int (-2)) ∧ KS S' h' tx P past (b + nI 1) n f ∧ CF h h') := by
  have hS := hC.1
  obtain ⟨hT, hv⟩ := hC.2.1
  obtain ⟨hMP, hVP⟩ := hC.2.2.1
  have hVB := hVP.1
  have hV1 := hVB.1
  have hnS := nSt_le hVB
  obtain ⟨⟨rr, hSP⟩, hpv⟩ := hC.2.2.2.1
  have hp5 := hSP.2.1
  have hv200 := hv.1
  refine met_of (by decide +kernel) (Nat.le_of_ble_eq_true rfl) ?_
  show T a 20 mX9_run 0 [(0, rv a 0), (1, .int x)] [] S h _
  refine tr_iload_n (pc := 0) 1 dX9_run_0 rfl rfl ?_
  refine tr_bipush (pc := 1) (v := nI 6) dX9_run_1 (by decide) ?_
  refine tr_callS (pc := 3) (rest := []) dX9_run_3 ml_X9_76 cs_X9_isOutside rfl rfl (Nat.le_of_ble_eq_true rfl) (by decide) (c_isOut_out hx) ?_
  rintro _ _ _ ⟨rfl, rfl, rfl⟩
  show T a 20 mX9_run 6 [(0, rv a 0), (1, .int x)] [.int (nI 1)] S h _
  refine tr_if_eq (pc := 6) (tgt := 14) dX9_run_6 (by decide) (nI_z_eq (by omega)) (fun hcc => absurd hcc (by decide)) (fun _ => ?_)
  refine tr_aload_n (pc := 9) 0 dX9_run_9 rfl rfl ?_
  refine tr_callV (pc := 10) (rest := []) (ci := 9) dX9_run_10 ml_X9_80 cv_X9_refusedAsBad rfl rfl (Nat.le_of_ble_eq_true rfl) (hS.1 0 (12, 14) rfl) rfl (by decide) (c_rbad hC) ?_
  rintro _ S9 h9 ⟨rfl, hC9, hF9⟩
  show T a 20 mX9_run 13 [(0, rv a 0), (1, .int x)] [.int (-2)] S9 h9 _
  exact tr_iret (pc := 13) dX9_run_13 rfl rfl (⟨rfl, hC9, hF9⟩)

set_option maxHeartbeats 4000000 in
set_option maxRecDepth 100000 in
theorem q_run_o {a : Am} {S : St} {h : Hp} {tx : List Nat} {P : Prog} {past : List Prog} {b n f : Int32} (hC : KS S h tx P past b n f) {w : Nat} (hw : w < 6) : CT a 20 mX9_run [rv a 0, .int (nI w)] S h (fun v S' h' => v = some (.int (aRun P w)) ∧ KS S' h' tx P past b n f ∧ CF h h') := by
  have hS := hC.1
  obtain ⟨hT, hv⟩ := hC.2.1
  obtain ⟨hMP, hVP⟩ := hC.2.2.1
  have hVB := hVP.1
  have hV1 := hVB.1
  have hnS := nSt_le hVB
  obtain ⟨⟨rr, hSP⟩, hpv⟩ := hC.2.2.2.1
  have hp5 := hSP.2.1
  have hv200 := hv.1
  refine met_of (by decide +kernel) (Nat.le_of_ble_eq_true rfl) ?_
  show T a 20 mX9_run 0 [(0, rv a 0), (1, .int (nI w))] [] S h _
  refine tr_iload_n (pc := 0) 1 dX9_run_0 rfl rfl ?_
  refine tr_bipush (pc := 1) (v := nI 6) dX9_run_1 (by decide) ?_
  refine tr_callS (pc := 3) (rest := []) dX9_run_3 ml_X9_76 cs_X9_isOutside rfl rfl (Nat.le_of_ble_eq_true rfl) (by decide) (c_isOut_in hw (by omega)) ?_
  rintro _ _ _ ⟨rfl, rfl, rfl⟩
  show T a 20 mX9_run 6 [(0, rv a 0), (1, .int (nI w))] [.int (nI 0)] S h _
  refine tr_if_eq (pc := 6) (tgt := 14) dX9_run_6 (by decide) (nI_z_eq (by omega)) (fun _ => ?_) (fun hcc => absurd (by decide) hcc)
  refine tr_aload_n (pc := 14) 0 dX9_run_14 rfl rfl ?_
  refine tr_callV (pc := 15) (rest := []) (ci := 9) dX9_run_15 ml_X9_159 cv_X9_findRun rfl rfl (Nat.le_of_ble_eq_true rfl) (hS.1 0 (12, 14) rfl) rfl (by decide) (c_Fr hC) ?_
  rintro _ S1 h1 ⟨rfl, hC1, hFn1, hTr1, hF1⟩
  have hS1 := hC1.1
  show T a 20 mX9_run 18 [(0, rv a 0), (1, .int (nI w))] [] S1 h1 _
  refine tr_aload_n (pc := 18) 0 dX9_run_18 rfl rfl ?_
  refine tr_iload_n (pc := 19) 1 dX9_run_19 rfl rfl ?_
  refine tr_callV (pc := 20) (rest := []) (ci := 9) dX9_run_20 ml_X9_162 cv_X9_ofRun rfl rfl (Nat.le_of_ble_eq_true rfl) (hS1.1 0 (12, 14) rfl) rfl (by decide) (c_orunA hS1 hTr1 hw) ?_
  rintro _ _ _ ⟨rfl, rfl, rfl⟩
  show T a 20 mX9_run 23 [(0, rv a 0), (1, .int (nI w))] [.int (aRun P w)] S1 h1 _
  exact tr_iret (pc := 23) dX9_run_23 rfl rfl (⟨rfl, hC1, hF1⟩)

set_option maxHeartbeats 4000000 in
set_option maxRecDepth 100000 in
theorem q_held {a : Am} {S : St} {h : Hp} {tx : List Nat} {P : Prog} {past : List Prog} {b n f : Int32} (hC : KS S h tx P past b n f) : CT a 20 mX9_held [rv a 0] S h (fun v S' h' => v = some (.int (aHeld P)) ∧ KS S' h' tx P past b n f ∧ CF h h') := by
  have hS := hC.1
  obtain ⟨hT, hv⟩ := hC.2.1
  obtain ⟨hMP, hVP⟩ := hC.2.2.1
  have hVB := hVP.1
  have hV1 := hVB.1
  have hnS := nSt_le hVB
  obtain ⟨⟨rr, hSP⟩, hpv⟩ := hC.2.2.2.1
  have hp5 := hSP.2.1
  have hv200 := hv.1
  refine met_of (by decide +kernel) (Nat.le_of_ble_eq_true rfl) ?_
  show T a 20 mX9_held 0 [(0, rv a 0)] [] S h _
  refine tr_aload_n (pc := 0) 0 dX9_held_0 rfl rfl ?_
  refine tr_callV (pc := 1) (rest := []) (ci := 9) dX9_held_1 ml_X9_159 cv_X9_findRun rfl rfl (Nat.le_of_ble_eq_true rfl) (hS.1 0 (12, 14) rfl) rfl (by decide) (c_Fr hC) ?_
  rintro _ S1 h1 ⟨rfl, hC1, hFn1, hTr1, hF1⟩
  have hS1 := hC1.1
  show T a 20 mX9_held 4 [(0, rv a 0)] [] S1 h1 _
  refine tr_aload_n (pc := 4) 0 dX9_held_4 rfl rfl ?_
  refine tr_getR (pc := 5) (q := 41) dX9_held_5 (hS1.1 0 (12, 14) rfl) fi_X9_72 rfl (hS1.2 0 8 41 rfl) ?_
  refine tr_callV (pc := 8) (rest := []) (ci := 8) dX9_held_8 ml_X9_168 cv_X8_siteInOpenPlace rfl rfl (Nat.le_of_ble_eq_true rfl) (hS1.1 41 (11, 18) rfl) rfl (by decide) (c_tsite hS1 hVP hTr1) ?_
  rintro _ _ _ ⟨rfl, rfl, rfl⟩
  show T a 20 mX9_held 11 [(0, rv a 0)] [.int (aHeld P)] S1 h1 _
  exact tr_iret (pc := 11) dX9_held_11 rfl rfl (⟨rfl, hC1, hF1⟩)

set_option maxHeartbeats 4000000 in
set_option maxRecDepth 100000 in
theorem q_back_n {a : Am} {S : St} {h : Hp} {tx : List Nat} {P : Prog} {past : List Prog} {b n f : Int32} (hC : KS S h tx P past b n f) (h0 : past.length = 0) : CT a 20 mX9_back [rv a 0] S h (fun v S' h' => v = some (.int (-3)) ∧ KS S' h' tx P past b (n + nI 1) f ∧ CF h h') := by
  have hS := hC.1
  obtain ⟨hT, hv⟩ := hC.2.1
  obtain ⟨hMP, hVP⟩ := hC.2.2.1
  have hVB := hVP.1
  have hV1 := hVB.1
  have hnS := nSt_le hVB
  obtain ⟨⟨rr, hSP⟩, hpv⟩ := hC.2.2.2.1
  have hp5 := hSP.2.1
  have hv200 := hv.1
  refine met_of (by decide +kernel) (Nat.le_of_ble_eq_true rfl) ?_
  show T a 20 mX9_back 0 [(0, rv a 0)] [] S h _
  refine tr_aload_n (pc := 0) 0 dX9_back_0 rfl rfl ?_
  refine tr_getR (pc := 1) (q := 14) dX9_back_1 (hS.1 0 (12, 14) rfl) fi_X9_38 rfl (hS.2 0 4 14 rfl) ?_
  refine tr_callV (pc := 4) (rest := []) (ci := 5) dX9_back_4 ml_X9_171 cv_X5_count rfl rfl (Nat.le_of_ble_eq_true rfl) (hS.1 14 (8, 2) rfl) rfl (by decide) (c_scount hS hSP) ?_
  rintro _ _ _ ⟨rfl, rfl, rfl⟩
  show T a 20 mX9_back 7 [(0, rv a 0)] [.int (nI past.length)] S h _
  refine tr_if_ne (pc := 7) (tgt := 15) dX9_back_7 (by decide) (nI_z_eq (by omega)) (fun hcc => absurd (by omega) hcc) (fun _ => ?_)
  refine tr_aload_n (pc := 10) 0 dX9_back_10 rfl rfl ?_
  refine tr_callV (pc := 11) (rest := []) (ci := 9) dX9_back_11 ml_X9_172 cv_X9_refusedAsNo rfl rfl (Nat.le_of_ble_eq_true rfl) (hS.1 0 (12, 14) rfl) rfl (by decide) (c_rno hC) ?_
  rintro _ S9 h9 ⟨rfl, hC9, hF9⟩
  show T a 20 mX9_back 14 [(0, rv a 0)] [.int (-3)] S9 h9 _
  exact tr_iret (pc := 14) dX9_back_14 rfl rfl (⟨rfl, hC9, hF9⟩)

theorem ks_back {S : St} {h h1 h2 : Hp} {tx : List Nat} {P P1 : Prog} {past past' : List Prog} {b n f : Int32} {r : Nat} (hC : KS S h tx P past b n f) (hSP : SP S h1 r past') (hM : MP h1 3 P1) (hV : VP P1) (hF1 : Fr [3, 4, 5, 14] h h1 ∨ Fr kL h h1 ∧ h1 0 = h 0) (hF : ∀ o, o ∉ [3, 4, 5] → o ∉ kL → h1 o = h o) (h12 : h2 0 12 = nI 0) (h13 : h2 0 13 = nI 0) (hF2 : Fo 0 [12, 13] [] h1 h2) (hv : ∀ Q ∈ past', VP Q) : KS S h2 tx P1 past' b n f ∧ CF h h2 := by
  obtain ⟨c1, c2, c3, c4, c6, c7⟩ := hC
  have e : ∀ o, o ≠ 0 → o ∉ [3, 4, 5] → o ∉ kL → h2 o = h o := fun o p q z => (hF2.1 o p (by simp)).trans (hF o q z)
  have e2 : ∀ o, o ≠ 0 → h2 o = h1 o := fun o p => hF2.1 o p (by simp)
  refine ⟨⟨c1, ⟨?_, c2.2⟩, ⟨?_, hV⟩, ⟨⟨r, hSP.fr (fun o p q => e2 o (by omega)) rfl⟩, hv⟩, ⟨?_, ?_, ?_⟩, c7.1, Or.inl ⟨h12, h13⟩⟩, fun o p q => e o (by omega) (fun z => by simp only [List.mem_cons, List.not_mem_nil, or_false] at z; omega) (fun z => by simp only [kL, List.mem_cons, List.not_mem_nil, or_false] at z; omega)⟩
  · unfold TX; rw [e 1 (by decide) (by decide) (by decide), e 2 (by decide) (by decide) (by decide)]; exact c2.1
  · unfold MP; rw [e2 3 (by decide), e2 (3 + 1) (by decide), e2 (3 + 2) (by decide)]; exact hM
  · rw [hF2.2 9 (by decide), hF 0 (by decide) (by decide)]; exact c6.1
  · rw [hF2.2 10 (by decide), hF 0 (by decide) (by decide)]; exact c6.2.1
  · rw [hF2.2 11 (by decide), hF 0 (by decide) (by decide)]; exact c6.2.2
set_option maxHeartbeats 4000000 in
set_option maxRecDepth 100000 in
theorem q_back_o {a : Am} {S : St} {h : Hp} {tx : List Nat} {P : Prog} {past : List Prog} {b n f : Int32} (hC : KS S h tx P past b n f) (h0 : 0 < past.length) : CT a 20 mX9_back [rv a 0] S h (fun v S' h' => v = some (.int (nI (past.length - 1))) ∧ KS S' h' tx (past.getD (past.length - 1) []) past.dropLast b n f ∧ CF h h') := by
  have hS := hC.1
  obtain ⟨hT, hv⟩ := hC.2.1
  obtain ⟨hMP, hVP⟩ := hC.2.2.1
  have hVB := hVP.1
  have hV1 := hVB.1
  have hnS := nSt_le hVB
  obtain ⟨⟨rr, hSP⟩, hpv⟩ := hC.2.2.2.1
  have hp5 := hSP.2.1
  have hv200 := hv.1
  refine met_of (by decide +kernel) (Nat.le_of_ble_eq_true rfl) ?_
  show T a 20 mX9_back 0 [(0, rv a 0)] [] S h _
  refine tr_aload_n (pc := 0) 0 dX9_back_0 rfl rfl ?_
  refine tr_getR (pc := 1) (q := 14) dX9_back_1 (hS.1 0 (12, 14) rfl) fi_X9_38 rfl (hS.2 0 4 14 rfl) ?_
  refine tr_callV (pc := 4) (rest := []) (ci := 5) dX9_back_4 ml_X9_171 cv_X5_count rfl rfl (Nat.le_of_ble_eq_true rfl) (hS.1 14 (8, 2) rfl) rfl (by decide) (c_scount hS hSP) ?_
  rintro _ _ _ ⟨rfl, rfl, rfl⟩
  show T a 20 mX9_back 7 [(0, rv a 0)] [.int (nI past.length)] S h _
  refine tr_if_ne (pc := 7) (tgt := 15) dX9_back_7 (by decide) (nI_z_eq (by omega)) (fun _ => ?_) (fun hcc => absurd hcc (by omega))
  refine tr_aload_n (pc := 15) 0 dX9_back_15 rfl rfl ?_
  refine tr_getR (pc := 16) (q := 14) dX9_back_16 (hS.1 0 (12, 14) rfl) fi_X9_38 rfl (hS.2 0 4 14 rfl) ?_
  refine tr_aload_n (pc := 19) 0 dX9_back_19 rfl rfl ?_
  refine tr_getR (pc := 20) (q := 3) dX9_back_20 (hS.1 0 (12, 14) rfl) fi_X9_19 rfl (hS.2 0 1 3 rfl) ?_
  refine tr_callV (pc := 23) (rest := []) (ci := 5) dX9_back_23 ml_X9_175 cv_X5_giveBack rfl rfl (Nat.le_of_ble_eq_true rfl) (hS.1 14 (8, 2) rfl) rfl (by decide) (c_give hS hSP h0) ?_
  rintro _ _ h1 ⟨rfl, rfl, hSP1, hM1, hVB1, hF1⟩
  show T a 20 mX9_back 26 [(0, rv a 0)] [] S h1 _
  refine tr_aload_n (pc := 26) 0 dX9_back_26 rfl rfl ?_
  refine tr_callV (pc := 27) (rest := []) (ci := 9) dX9_back_27 ml_X9_178 cv_X9_forgetFindings rfl rfl (Nat.le_of_ble_eq_true rfl) (hS.1 0 (12, 14) rfl) rfl (by decide) (c_forget hS) ?_
  rintro _ _ h2 ⟨rfl, rfl, h12, h13, hF2⟩
  have hK := ks_back hC hSP1 hM1 (hpv _ (past_get h0)) (Or.inl hF1) (fun o p q => hF1 o (fun z => by
    simp only [List.mem_cons, List.not_mem_nil, or_false] at z p
    simp only [kL, List.mem_cons, List.not_mem_nil, or_false] at q
    omega)) h12 h13 hF2 (fun Q hQ => hpv Q ((List.dropLast_sublist past).subset hQ))
  obtain ⟨r2, hSP2⟩ := hK.1.2.2.2.1.1
  show T a 20 mX9_back 30 [(0, rv a 0)] [] S h2 _
  refine tr_aload_n (pc := 30) 0 dX9_back_30 rfl rfl ?_
  refine tr_getR (pc := 31) (q := 14) dX9_back_31 (hS.1 0 (12, 14) rfl) fi_X9_38 rfl (hS.2 0 4 14 rfl) ?_
  refine tr_callV (pc := 34) (rest := []) (ci := 5) dX9_back_34 ml_X9_171 cv_X5_count rfl rfl (Nat.le_of_ble_eq_true rfl) (hS.1 14 (8, 2) rfl) rfl (by decide) (c_scount hS hSP2) ?_
  rintro _ _ _ ⟨rfl, rfl, rfl⟩
  show T a 20 mX9_back 37 [(0, rv a 0)] [.int (nI past.dropLast.length)] S h2 _
  exact tr_iret (pc := 37) dX9_back_37 rfl rfl (⟨by rw [List.length_dropLast], hK.1, hK.2⟩)

set_option maxHeartbeats 4000000 in
set_option maxRecDepth 100000 in
theorem c_ofAll0 {a : Am} {S : St} {h : Hp} {tx : List Nat} {P : Prog} {past : List Prog} {b n f : Int32} (hC : KS S h tx P past b n f) (hFn : Fnd h P) : CT a 1 mX9_ofAll [rv a 0, .int (nI 0)] S h (Rt (aTo tx P past b n f 0) S h) := by
  have hS := hC.1
  obtain ⟨hT, hv⟩ := hC.2.1
  obtain ⟨hMP, hVP⟩ := hC.2.2.1
  have hVB := hVP.1
  have hV1 := hVB.1
  have hnS := nSt_le hVB
  obtain ⟨⟨rr, hSP⟩, hpv⟩ := hC.2.2.2.1
  have hp5 := hSP.2.1
  have hv200 := hv.1
  refine met_of (by decide +kernel) (Nat.le_of_ble_eq_true rfl) ?_
  show T a 1 mX9_ofAll 0 [(0, rv a 0), (1, .int (nI 0))] [] S h _
  refine tr_iload_n (pc := 0) 1 dX9_ofAll_0 rfl rfl ?_
  refine tr_tabIn (pc := 1) (off := 39) (tgt := 40) dX9_ofAll_1 (by decide) (by decide) (by decide) (by decide) ?_
  refine tr_aload_n (pc := 40) 0 dX9_ofAll_40 rfl rfl ?_
  refine tr_getI (pc := 41) (x := b) dX9_ofAll_41 (hS.1 0 (12, 14) rfl) fi_X9_262 rfl hC.2.2.2.2.1.1 ?_
  exact tr_iret (pc := 44) dX9_ofAll_44 rfl rfl (⟨rfl, rfl, rfl⟩)

set_option maxHeartbeats 4000000 in
set_option maxRecDepth 100000 in
theorem c_ofAll1 {a : Am} {S : St} {h : Hp} {tx : List Nat} {P : Prog} {past : List Prog} {b n f : Int32} (hC : KS S h tx P past b n f) (hFn : Fnd h P) : CT a 1 mX9_ofAll [rv a 0, .int (nI 1)] S h (Rt (aTo tx P past b n f 1) S h) := by
  have hS := hC.1
  obtain ⟨hT, hv⟩ := hC.2.1
  obtain ⟨hMP, hVP⟩ := hC.2.2.1
  have hVB := hVP.1
  have hV1 := hVB.1
  have hnS := nSt_le hVB
  obtain ⟨⟨rr, hSP⟩, hpv⟩ := hC.2.2.2.1
  have hp5 := hSP.2.1
  have hv200 := hv.1
  refine met_of (by decide +kernel) (Nat.le_of_ble_eq_true rfl) ?_
  show T a 1 mX9_ofAll 0 [(0, rv a 0), (1, .int (nI 1))] [] S h _
  refine tr_iload_n (pc := 0) 1 dX9_ofAll_0 rfl rfl ?_
  refine tr_tabIn (pc := 1) (off := 44) (tgt := 45) dX9_ofAll_1 (by decide) (by decide) (by decide) (by decide) ?_
  refine tr_aload_n (pc := 45) 0 dX9_ofAll_45 rfl rfl ?_
  refine tr_getI (pc := 46) (x := n) dX9_ofAll_46 (hS.1 0 (12, 14) rfl) fi_X9_266 rfl hC.2.2.2.2.1.2.1 ?_
  exact tr_iret (pc := 49) dX9_ofAll_49 rfl rfl (⟨rfl, rfl, rfl⟩)

set_option maxHeartbeats 4000000 in
set_option maxRecDepth 100000 in
theorem c_ofAll2 {a : Am} {S : St} {h : Hp} {tx : List Nat} {P : Prog} {past : List Prog} {b n f : Int32} (hC : KS S h tx P past b n f) (hFn : Fnd h P) : CT a 1 mX9_ofAll [rv a 0, .int (nI 2)] S h (Rt (aTo tx P past b n f 2) S h) := by
  have hS := hC.1
  obtain ⟨hT, hv⟩ := hC.2.1
  obtain ⟨hMP, hVP⟩ := hC.2.2.1
  have hVB := hVP.1
  have hV1 := hVB.1
  have hnS := nSt_le hVB
  obtain ⟨⟨rr, hSP⟩, hpv⟩ := hC.2.2.2.1
  have hp5 := hSP.2.1
  have hv200 := hv.1
  refine met_of (by decide +kernel) (Nat.le_of_ble_eq_true rfl) ?_
  show T a 1 mX9_ofAll 0 [(0, rv a 0), (1, .int (nI 2))] [] S h _
  refine tr_iload_n (pc := 0) 1 dX9_ofAll_0 rfl rfl ?_
  refine tr_tabIn (pc := 1) (off := 49) (tgt := 50) dX9_ofAll_1 (by decide) (by decide) (by decide) (by decide) ?_
  refine tr_aload_n (pc := 50) 0 dX9_ofAll_50 rfl rfl ?_
  refine tr_getI (pc := 51) (x := f) dX9_ofAll_51 (hS.1 0 (12, 14) rfl) fi_X9_269 rfl hC.2.2.2.2.1.2.2 ?_
  exact tr_iret (pc := 54) dX9_ofAll_54 rfl rfl (⟨rfl, rfl, rfl⟩)

set_option maxHeartbeats 4000000 in
set_option maxRecDepth 100000 in
theorem c_ofAll3 {a : Am} {S : St} {h : Hp} {tx : List Nat} {P : Prog} {past : List Prog} {b n f : Int32} (hC : KS S h tx P past b n f) (hFn : Fnd h P) : CT a 1 mX9_ofAll [rv a 0, .int (nI 3)] S h (Rt (aTo tx P past b n f 3) S h) := by
  have hS := hC.1
  obtain ⟨hT, hv⟩ := hC.2.1
  obtain ⟨hMP, hVP⟩ := hC.2.2.1
  have hVB := hVP.1
  have hV1 := hVB.1
  have hnS := nSt_le hVB
  obtain ⟨⟨rr, hSP⟩, hpv⟩ := hC.2.2.2.1
  have hp5 := hSP.2.1
  have hv200 := hv.1
  refine met_of (by decide +kernel) (Nat.le_of_ble_eq_true rfl) ?_
  show T a 1 mX9_ofAll 0 [(0, rv a 0), (1, .int (nI 3))] [] S h _
  refine tr_iload_n (pc := 0) 1 dX9_ofAll_0 rfl rfl ?_
  refine tr_tabIn (pc := 1) (off := 54) (tgt := 55) dX9_ofAll_1 (by decide) (by decide) (by decide) (by decide) ?_
  refine tr_aload_n (pc := 55) 0 dX9_ofAll_55 rfl rfl ?_
  refine tr_getR (pc := 56) (q := 1) dX9_ofAll_56 (hS.1 0 (12, 14) rfl) fi_X9_12 rfl (hS.2 0 0 1 rfl) ?_
  refine tr_callV (pc := 59) (rest := []) (ci := 6) dX9_ofAll_59 ml_X9_95 cv_X6_length rfl rfl (Nat.le_of_ble_eq_true rfl) (hS.1 1 (9, 2) rfl) rfl (by decide) (c_length hS hT hv) ?_
  rintro _ _ _ ⟨rfl, rfl, rfl⟩
  show T a 1 mX9_ofAll 62 [(0, rv a 0), (1, .int (nI 3))] [.int (nI tx.length)] S h _
  exact tr_iret (pc := 62) dX9_ofAll_62 rfl rfl (⟨rfl, rfl, rfl⟩)

set_option maxHeartbeats 4000000 in
set_option maxRecDepth 100000 in
theorem c_ofAll4 {a : Am} {S : St} {h : Hp} {tx : List Nat} {P : Prog} {past : List Prog} {b n f : Int32} (hC : KS S h tx P past b n f) (hFn : Fnd h P) : CT a 1 mX9_ofAll [rv a 0, .int (nI 4)] S h (Rt (aTo tx P past b n f 4) S h) := by
  have hS := hC.1
  obtain ⟨hT, hv⟩ := hC.2.1
  obtain ⟨hMP, hVP⟩ := hC.2.2.1
  have hVB := hVP.1
  have hV1 := hVB.1
  have hnS := nSt_le hVB
  obtain ⟨⟨rr, hSP⟩, hpv⟩ := hC.2.2.2.1
  have hp5 := hSP.2.1
  have hv200 := hv.1
  refine met_of (by decide +kernel) (Nat.le_of_ble_eq_true rfl) ?_
  show T a 1 mX9_ofAll 0 [(0, rv a 0), (1, .int (nI 4))] [] S h _
  refine tr_iload_n (pc := 0) 1 dX9_ofAll_0 rfl rfl ?_
  refine tr_tabIn (pc := 1) (off := 62) (tgt := 63) dX9_ofAll_1 (by decide) (by decide) (by decide) (by decide) ?_
  refine tr_aload_n (pc := 63) 0 dX9_ofAll_63 rfl rfl ?_
  refine tr_getR (pc := 64) (q := 3) dX9_ofAll_64 (hS.1 0 (12, 14) rfl) fi_X9_19 rfl (hS.2 0 1 3 rfl) ?_
  refine tr_callV (pc := 67) (rest := []) (ci := 2) dX9_ofAll_67 ml_X9_111 cv_X2_count rfl rfl (Nat.le_of_ble_eq_true rfl) (hS.1 3 (5, 3) rfl) rfl (by decide) (c_count (mo_3 hS) hMP hVB) ?_
  rintro _ _ _ ⟨rfl, rfl, rfl⟩
  show T a 1 mX9_ofAll 70 [(0, rv a 0), (1, .int (nI 4))] [.int (nI P.length)] S h _
  exact tr_iret (pc := 70) dX9_ofAll_70 rfl rfl (⟨rfl, rfl, rfl⟩)

set_option maxHeartbeats 4000000 in
set_option maxRecDepth 100000 in
theorem c_ofAll5 {a : Am} {S : St} {h : Hp} {tx : List Nat} {P : Prog} {past : List Prog} {b n f : Int32} (hC : KS S h tx P past b n f) (hFn : Fnd h P) : CT a 1 mX9_ofAll [rv a 0, .int (nI 5)] S h (Rt (aTo tx P past b n f 5) S h) := by
  have hS := hC.1
  obtain ⟨hT, hv⟩ := hC.2.1
  obtain ⟨hMP, hVP⟩ := hC.2.2.1
  have hVB := hVP.1
  have hV1 := hVB.1
  have hnS := nSt_le hVB
  obtain ⟨⟨rr, hSP⟩, hpv⟩ := hC.2.2.2.1
  have hp5 := hSP.2.1
  have hv200 := hv.1
  refine met_of (by decide +kernel) (Nat.le_of_ble_eq_true rfl) ?_
  show T a 1 mX9_ofAll 0 [(0, rv a 0), (1, .int (nI 5))] [] S h _
  refine tr_iload_n (pc := 0) 1 dX9_ofAll_0 rfl rfl ?_
  refine tr_tabIn (pc := 1) (off := 70) (tgt := 71) dX9_ofAll_1 (by decide) (by decide) (by decide) (by decide) ?_
  refine tr_aload_n (pc := 71) 0 dX9_ofAll_71 rfl rfl ?_
  refine tr_getR (pc := 72) (q := 31) dX9_ofAll_72 (hS.1 0 (12, 14) rfl) fi_X9_45 rfl (hS.2 0 5 31 rfl) ?_
  refine tr_callV (pc := 75) (rest := []) (ci := 4) dX9_ofAll_75 ml_X9_143 cv_X4_count rfl rfl (Nat.le_of_ble_eq_true rfl) (hS.1 31 (7, 4) rfl) rfl (by decide) (c_sitecount hS hVB hFn.1) ?_
  rintro _ _ _ ⟨rfl, rfl, rfl⟩
  show T a 1 mX9_ofAll 78 [(0, rv a 0), (1, .int (nI 5))] [.int (nI (nSt P))] S h _
  exact tr_iret (pc := 78) dX9_ofAll_78 rfl rfl (⟨rfl, rfl, rfl⟩)

set_option maxHeartbeats 4000000 in
set_option maxRecDepth 100000 in
theorem c_ofAll6 {a : Am} {S : St} {h : Hp} {tx : List Nat} {P : Prog} {past : List Prog} {b n f : Int32} (hC : KS S h tx P past b n f) (hFn : Fnd h P) : CT a 1 mX9_ofAll [rv a 0, .int (nI 6)] S h (Rt (aTo tx P past b n f 6) S h) := by
  have hS := hC.1
  obtain ⟨hT, hv⟩ := hC.2.1
  obtain ⟨hMP, hVP⟩ := hC.2.2.1
  have hVB := hVP.1
  have hV1 := hVB.1
  have hnS := nSt_le hVB
  obtain ⟨⟨rr, hSP⟩, hpv⟩ := hC.2.2.2.1
  have hp5 := hSP.2.1
  have hv200 := hv.1
  refine met_of (by decide +kernel) (Nat.le_of_ble_eq_true rfl) ?_
  show T a 1 mX9_ofAll 0 [(0, rv a 0), (1, .int (nI 6))] [] S h _
  refine tr_iload_n (pc := 0) 1 dX9_ofAll_0 rfl rfl ?_
  refine tr_tabOut (pc := 1) (tgt := 79) dX9_ofAll_1 (by decide) (by decide) ?_
  refine tr_aload_n (pc := 79) 0 dX9_ofAll_79 rfl rfl ?_
  refine tr_getR (pc := 80) (q := 14) dX9_ofAll_80 (hS.1 0 (12, 14) rfl) fi_X9_38 rfl (hS.2 0 4 14 rfl) ?_
  refine tr_callV (pc := 83) (rest := []) (ci := 5) dX9_ofAll_83 ml_X9_171 cv_X5_count rfl rfl (Nat.le_of_ble_eq_true rfl) (hS.1 14 (8, 2) rfl) rfl (by decide) (c_scount hS hSP) ?_
  rintro _ _ _ ⟨rfl, rfl, rfl⟩
  show T a 1 mX9_ofAll 86 [(0, rv a 0), (1, .int (nI 6))] [.int (nI past.length)] S h _
  exact tr_iret (pc := 86) dX9_ofAll_86 rfl rfl (⟨rfl, rfl, rfl⟩)

theorem c_ofAllA {a : Am} {S : St} {h : Hp} {tx : List Nat} {P : Prog} {past : List Prog} {b n f : Int32} (hC : KS S h tx P past b n f) (hFn : Fnd h P) {w : Nat} (hw : w < 7) : CT a 1 mX9_ofAll [rv a 0, .int (nI w)] S h (Rt (aTo tx P past b n f w) S h) := by
  rcases (by omega : w = 0 ∨ w = 1 ∨ w = 2 ∨ w = 3 ∨ w = 4 ∨ w = 5 ∨ w = 6) with rfl | rfl | rfl | rfl | rfl | rfl | rfl
  · exact c_ofAll0 hC hFn
  · exact c_ofAll1 hC hFn
  · exact c_ofAll2 hC hFn
  · exact c_ofAll3 hC hFn
  · exact c_ofAll4 hC hFn
  · exact c_ofAll5 hC hFn
  · exact c_ofAll6 hC hFn
set_option maxHeartbeats 4000000 in
set_option maxRecDepth 100000 in
theorem q_told_1 {a : Am} {S : St} {h : Hp} {tx : List Nat} {P : Prog} {past : List Prog} {b n f : Int32} (hC : KS S h tx P past b n f) {x : Int32} (hx : outN x 7) : CT a 20 mX9_told [rv a 0, .int x] S h (fun v S' h' => v = some (.int (-2)) ∧ KS S' h' tx P past (b + nI 1) n f ∧ CF h h') := by
  have hS := hC.1
  obtain ⟨hT, hv⟩ := hC.2.1
  obtain ⟨hMP, hVP⟩ := hC.2.2.1
  have hVB := hVP.1
  have hV1 := hVB.1
  have hnS := nSt_le hVB
  obtain ⟨⟨rr, hSP⟩, hpv⟩ := hC.2.2.2.1
  have hp5 := hSP.2.1
  have hv200 := hv.1
  refine met_of (by decide +kernel) (Nat.le_of_ble_eq_true rfl) ?_
  show T a 20 mX9_told 0 [(0, rv a 0), (1, .int x)] [] S h _
  refine tr_iload_n (pc := 0) 1 dX9_told_0 rfl rfl ?_
  refine tr_bipush (pc := 1) (v := nI 7) dX9_told_1 (by decide) ?_
  refine tr_callS (pc := 3) (rest := []) dX9_told_3 ml_X9_76 cs_X9_isOutside rfl rfl (Nat.le_of_ble_eq_true rfl) (by decide) (c_isOut_out hx) ?_
  rintro _ _ _ ⟨rfl, rfl, rfl⟩
  show T a 20 mX9_told 6 [(0, rv a 0), (1, .int x)] [.int (nI 1)] S h _
  refine tr_if_eq (pc := 6) (tgt := 14) dX9_told_6 (by decide) (nI_z_eq (by omega)) (fun hcc => absurd hcc (by decide)) (fun _ => ?_)
  refine tr_aload_n (pc := 9) 0 dX9_told_9 rfl rfl ?_
  refine tr_callV (pc := 10) (rest := []) (ci := 9) dX9_told_10 ml_X9_80 cv_X9_refusedAsBad rfl rfl (Nat.le_of_ble_eq_true rfl) (hS.1 0 (12, 14) rfl) rfl (by decide) (c_rbad hC) ?_
  rintro _ S9 h9 ⟨rfl, hC9, hF9⟩
  show T a 20 mX9_told 13 [(0, rv a 0), (1, .int x)] [.int (-2)] S9 h9 _
  exact tr_iret (pc := 13) dX9_told_13 rfl rfl (⟨rfl, hC9, hF9⟩)

set_option maxHeartbeats 4000000 in
set_option maxRecDepth 100000 in
theorem q_told_o {a : Am} {S : St} {h : Hp} {tx : List Nat} {P : Prog} {past : List Prog} {b n f : Int32} (hC : KS S h tx P past b n f) {w : Nat} (hw : w < 7) : CT a 20 mX9_told [rv a 0, .int (nI w)] S h (fun v S' h' => v = some (.int (aTo tx P past b n f w)) ∧ KS S' h' tx P past b n f ∧ CF h h') := by
  have hS := hC.1
  obtain ⟨hT, hv⟩ := hC.2.1
  obtain ⟨hMP, hVP⟩ := hC.2.2.1
  have hVB := hVP.1
  have hV1 := hVB.1
  have hnS := nSt_le hVB
  obtain ⟨⟨rr, hSP⟩, hpv⟩ := hC.2.2.2.1
  have hp5 := hSP.2.1
  have hv200 := hv.1
  refine met_of (by decide +kernel) (Nat.le_of_ble_eq_true rfl) ?_
  show T a 20 mX9_told 0 [(0, rv a 0), (1, .int (nI w))] [] S h _
  refine tr_iload_n (pc := 0) 1 dX9_told_0 rfl rfl ?_
  refine tr_bipush (pc := 1) (v := nI 7) dX9_told_1 (by decide) ?_
  refine tr_callS (pc := 3) (rest := []) dX9_told_3 ml_X9_76 cs_X9_isOutside rfl rfl (Nat.le_of_ble_eq_true rfl) (by decide) (c_isOut_in hw (by omega)) ?_
  rintro _ _ _ ⟨rfl, rfl, rfl⟩
  show T a 20 mX9_told 6 [(0, rv a 0), (1, .int (nI w))] [.int (nI 0)] S h _
  refine tr_if_eq (pc := 6) (tgt := 14) dX9_told_6 (by decide) (nI_z_eq (by omega)) (fun _ => ?_) (fun hcc => absurd (by decide) hcc)
  refine tr_aload_n (pc := 14) 0 dX9_told_14 rfl rfl ?_
  refine tr_callV (pc := 15) (rest := []) (ci := 9) dX9_told_15 ml_X9_132 cv_X9_findMays rfl rfl (Nat.le_of_ble_eq_true rfl) (hS.1 0 (12, 14) rfl) rfl (by decide) (c_Fm hC) ?_
  rintro _ _ h1 ⟨rfl, rfl, hC1, hFn1, hF1⟩
  have hMP1 := hC1.2.2.1.1
  show T a 20 mX9_told 18 [(0, rv a 0), (1, .int (nI w))] [] S h1 _
  refine tr_aload_n (pc := 18) 0 dX9_told_18 rfl rfl ?_
  refine tr_iload_n (pc := 19) 1 dX9_told_19 rfl rfl ?_
  refine tr_callV (pc := 20) (rest := []) (ci := 9) dX9_told_20 ml_X9_181 cv_X9_ofAll rfl rfl (Nat.le_of_ble_eq_true rfl) (hS.1 0 (12, 14) rfl) rfl (by decide) (c_ofAllA hC1 hFn1 hw) ?_
  rintro _ _ _ ⟨rfl, rfl, rfl⟩
  show T a 20 mX9_told 23 [(0, rv a 0), (1, .int (nI w))] [.int (aTo tx P past b n f w)] S h1 _
  exact tr_iret (pc := 23) dX9_told_23 rfl rfl (⟨rfl, hC1, hF1⟩)
