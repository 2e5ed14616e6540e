theorem ll_9 : Cond.methodLink mL_law.1.cls 9 mX9_init.1 ∈ gtbl := ml_L_9
theorem ll_13 : Cond.methodLink mL_law.1.cls 13 mX9_type.1 ∈ gtbl := ml_L_13
theorem ll_18 : Cond.methodLink mL_law.1.cls 18 mX9_clear.1 ∈ gtbl := ml_L_18
theorem ll_23 : Cond.methodLink mL_law.1.cls 23 mX9_reads.1 ∈ gtbl := ml_L_23
theorem ll_27 : Cond.methodLink mL_law.1.cls 27 mX9_drops.1 ∈ gtbl := ml_L_27
theorem ll_32 : Cond.methodLink mL_law.1.cls 32 mX9_swaps.1 ∈ gtbl := ml_L_32
theorem ll_36 : Cond.methodLink mL_law.1.cls 36 mX9_of.1 ∈ gtbl := ml_L_36
theorem ll_40 : Cond.methodLink mL_law.1.cls 40 mX9_line.1 ∈ gtbl := ml_L_40
theorem ll_45 : Cond.methodLink mL_law.1.cls 45 mX9_site.1 ∈ gtbl := ml_L_45
theorem ll_49 : Cond.methodLink mL_law.1.cls 49 mX9_may.1 ∈ gtbl := ml_L_49
theorem ll_53 : Cond.methodLink mL_law.1.cls 53 mX9_open.1 ∈ gtbl := ml_L_53
theorem ll_57 : Cond.methodLink mL_law.1.cls 57 mX9_reached.1 ∈ gtbl := ml_L_57
theorem ll_61 : Cond.methodLink mL_law.1.cls 61 mX9_fates.1 ∈ gtbl := ml_L_61
theorem ll_65 : Cond.methodLink mL_law.1.cls 65 mX9_run.1 ∈ gtbl := ml_L_65
theorem ll_69 : Cond.methodLink mL_law.1.cls 69 mX9_ran.1 ∈ gtbl := ml_L_69
theorem ll_73 : Cond.methodLink mL_law.1.cls 73 mX9_held.1 ∈ gtbl := ml_L_73
theorem ll_77 : Cond.methodLink mL_law.1.cls 77 mX9_back.1 ∈ gtbl := ml_L_77
theorem ll_81 : Cond.methodLink mL_law.1.cls 81 mX9_told.1 ∈ gtbl := ml_L_81
theorem ll_85 : Cond.methodLink mL_law.1.cls 85 mX9_digest.1 ∈ gtbl := ml_L_85
theorem ll_12 : Cond.methodLink mL_law.1.cls 12 mX10_init.1 ∈ gtbl := ml_L_12
theorem ll_17 : Cond.methodLink mL_law.1.cls 17 mX10_type.1 ∈ gtbl := ml_L_17
theorem ll_22 : Cond.methodLink mL_law.1.cls 22 mX10_clear.1 ∈ gtbl := ml_L_22
theorem ll_26 : Cond.methodLink mL_law.1.cls 26 mX10_reads.1 ∈ gtbl := ml_L_26
theorem ll_31 : Cond.methodLink mL_law.1.cls 31 mX10_drops.1 ∈ gtbl := ml_L_31
theorem ll_35 : Cond.methodLink mL_law.1.cls 35 mX10_swaps.1 ∈ gtbl := ml_L_35
theorem ll_39 : Cond.methodLink mL_law.1.cls 39 mX10_of.1 ∈ gtbl := ml_L_39
theorem ll_44 : Cond.methodLink mL_law.1.cls 44 mX10_line.1 ∈ gtbl := ml_L_44
theorem ll_48 : Cond.methodLink mL_law.1.cls 48 mX10_site.1 ∈ gtbl := ml_L_48
theorem ll_52 : Cond.methodLink mL_law.1.cls 52 mX10_may.1 ∈ gtbl := ml_L_52
theorem ll_56 : Cond.methodLink mL_law.1.cls 56 mX10_open.1 ∈ gtbl := ml_L_56
theorem ll_60 : Cond.methodLink mL_law.1.cls 60 mX10_reached.1 ∈ gtbl := ml_L_60
theorem ll_64 : Cond.methodLink mL_law.1.cls 64 mX10_fates.1 ∈ gtbl := ml_L_64
theorem ll_68 : Cond.methodLink mL_law.1.cls 68 mX10_run.1 ∈ gtbl := ml_L_68
theorem ll_72 : Cond.methodLink mL_law.1.cls 72 mX10_ran.1 ∈ gtbl := ml_L_72
theorem ll_76 : Cond.methodLink mL_law.1.cls 76 mX10_held.1 ∈ gtbl := ml_L_76
theorem ll_80 : Cond.methodLink mL_law.1.cls 80 mX10_back.1 ∈ gtbl := ml_L_80
theorem ll_84 : Cond.methodLink mL_law.1.cls 84 mX10_told.1 ∈ gtbl := ml_L_84
theorem ll_89 : Cond.methodLink mL_law.1.cls 89 mX10_digest.1 ∈ gtbl := ml_L_89
theorem lcmp_self {x : Int64} : lg_cmp x x = 0 := by
  unfold lg_cmp
  simp
set_option maxHeartbeats 4000000 in
set_option maxRecDepth 100000 in
theorem t_law {a : Am} (hN : a.2.2.2.1.2.1 < 2 ^ 29) : T a 21 mL_law 0 [(0, .ref a.2.2.2.1.1)] [] (shp.take 0, ((fun _ _ => none))) zH (fun v S' h' => v = some (.int (nI 1)) ∧ S'.1.length ≤ 200 ∧ tot S' ≤ 100000) := by
  show T a 21 mL_law 0 [(0, .ref a.2.2.2.1.1)] [] (shp.take 0, ((fun _ _ => none))) zH _
  refine tr_newk (pc := 0) (k := 0) (ci := 9) dL_law_0 rfl cl_L_7 in_X9 ini_X9 rfl (by decide) rfl ?_
  refine tr_dup (pc := 3) dL_law_3 rfl ?_
  refine tr_callI (pc := 4) (rest := [rv a 0]) dL_law_4 ll_9 ci_X9_init rfl rfl (Nat.le_of_ble_eq_true rfl) (by decide) (c_iX9) ?_
  rintro _ _ _ ⟨rfl, rfl, rfl⟩
  show T a 21 mL_law 7 [(0, .ref a.2.2.2.1.1)] [rv a 0] (shp.take 50, (iX9 (al ((fun _ _ => none)) 0))) hI _
  refine tr_astore_n (pc := 7) (lv' := [(1, rv a 0), (0, .ref a.2.2.2.1.1)]) dL_law_7 rfl (by decide) rfl ?_
  refine tr_newk (pc := 8) (k := 50) (ci := 10) dL_law_8 rfl cl_L_10 in_X10 ini_X10 rfl (by decide) rfl ?_
  refine tr_dup (pc := 11) dL_law_11 rfl ?_
  refine tr_callI (pc := 12) (rest := [rv a 50]) dL_law_12 ll_12 ci_X10_init rfl rfl (Nat.le_of_ble_eq_true rfl) (by decide) (c_iX10) ?_
  rintro _ _ _ ⟨rfl, rfl, rfl⟩
  show T a 21 mL_law 15 [(1, rv a 0), (0, .ref a.2.2.2.1.1)] [rv a 50] (shp.take 76, (iX10 (al (iX9 (al ((fun _ _ => none)) 0)) 50))) hI _
  refine tr_astore_n (pc := 15) (lv' := [(2, rv a 50), (1, rv a 0), (0, .ref a.2.2.2.1.1)]) dL_law_15 rfl (by decide) rfl ?_
  refine tr_iconst (pc := 16) (v := nI 0) dL_law_16 (by decide) ?_
  refine tr_istore_n (pc := 17) (lv' := [(3, .int (nI 0)), (2, rv a 50), (1, rv a 0), (0, .ref a.2.2.2.1.1)]) dL_law_17 rfl (by decide) rfl ?_
  refine tr_sub (pc := 18) (lv' := [(0, .ref a.2.2.2.1.1), (1, rv a 0), (2, rv a 50), (3, .int (nI 0))]) [3, 2, 1, 0] rfl ?_
  have L18 : ∀ (fu : Nat) (j : Nat) (S1 : St) (h1 : Hp) (tx : List Nat) (P : Prog) (past : List Prog) (b n f : Int32), a.2.2.2.1.2.1 - j < fu → j ≤ a.2.2.2.1.2.1 → KS S1 h1 tx P past b n f → KM h1 tx P past b n f → T a 21 mL_law 18 [(0, .ref a.2.2.2.1.1), (1, rv a 0), (2, rv a 50), (3, .int (nI j))] [] S1 h1 (fun v S' h' => v = some (.int (nI 1)) ∧ S'.1.length ≤ 200 ∧ tot S' ≤ 100000) := by
    intro fu
    induction fu with
    | zero => intro j S1 h1 tx P past b n f hu hj hC hM; omega
    | succ fu ih =>
      intro j S1 h1 tx P past b n f hu hj hC hM
      have hS1 := hC.1
      refine tr_iload_n (pc := 18) 3 dL_law_18 rfl rfl ?_
      refine tr_aload_nS (pc := 19) 0 dL_law_19 rfl rfl ?_
      refine tr_slen (pc := 20) dL_law_20 ?_
      refine tr_iconst (pc := 21) (v := nI 4) dL_law_21 (by decide) ?_
      refine tr_isub (pc := 22) (v := nI a.2.2.2.1.2.1 - nI 4) dL_law_22 rfl ?_
      refine tr_icmp_gt (pc := 23) (tgt := 571) dL_law_23 (by decide) (law_gt (by omega) (by omega)) (fun hb23 => ?_) (fun hb23 => ?_)
      · skip
        refine tr_iconst (pc := 571) (v := nI 1) dL_law_571 (by decide) ?_
        exact tr_iret (pc := 572) dL_law_572 rfl (by decide) (⟨rfl, room hC⟩)
      · skip
        refine tr_aload_nS (pc := 26) 0 dL_law_26 rfl rfl ?_
        refine tr_iload_n (pc := 27) 3 dL_law_27 rfl rfl ?_
        refine tr_sld (pc := 28) (v := a.2.2.2.1.2.2 j) j dL_law_28 rfl (by omega) (by omega) rfl ?_
        refine tr_bipush (pc := 29) (v := nI 31) dL_law_29 (by decide) ?_
        refine tr_iand (pc := 31) (v := (a.2.2.2.1.2.2 j) &&& (nI 31)) dL_law_31 rfl ?_
        obtain ⟨kk, hkk, ekk⟩ := and31 (a.2.2.2.1.2.2 (j))
        rw [ekk]
        rcases (by omega : kk = 0 ∨ kk = 1 ∨ kk = 2 ∨ kk = 3 ∨ kk = 4 ∨ kk = 5 ∨ kk = 6 ∨ kk = 7 ∨ kk = 8 ∨ kk = 9 ∨ kk = 10 ∨ kk = 11 ∨ kk = 12 ∨ kk = 13 ∨ kk = 14 ∨ kk = 15 ∨ kk = 16 ∨ kk = 17 ∨ kk = 18 ∨ kk = 19 ∨ kk = 20 ∨ kk = 21 ∨ kk = 22 ∨ kk = 23 ∨ kk = 24 ∨ kk = 25 ∨ kk = 26 ∨ kk = 27 ∨ kk = 28 ∨ kk = 29 ∨ kk = 30 ∨ kk = 31) with rfl | rfl | rfl | rfl | rfl | rfl | rfl | rfl | rfl | rfl | rfl | rfl | rfl | rfl | rfl | rfl | rfl | rfl | rfl | rfl | rfl | rfl | rfl | rfl | rfl | rfl | rfl | rfl | rfl | rfl | rfl | rfl
        · skip
          show T a 21 mL_law 32 [(0, .ref a.2.2.2.1.1), (1, rv a 0), (2, rv a 50), (3, .int (nI j))] [.int (nI 0)] S1 h1 _
          refine tr_tabIn (pc := 32) (off := 88) (tgt := 120) dL_law_32 (by decide) (by decide) (by decide) (by decide) ?_
          refine tr_aload_n (pc := 120) 1 dL_law_120 rfl rfl ?_
          refine tr_aload_nS (pc := 121) 0 dL_law_121 rfl rfl ?_
          refine tr_iload_n (pc := 122) 3 dL_law_122 rfl rfl ?_
          refine tr_iconst (pc := 123) (v := nI 1) dL_law_123 (by decide) ?_
          refine tr_iadd (pc := 124) (v := nI (j + 1)) dL_law_124 (nI_add _ _) ?_
          refine tr_sld (pc := 125) (v := a.2.2.2.1.2.2 (j + 1)) (j + 1) dL_law_125 rfl (by omega) (by omega) rfl ?_
          obtain ⟨ans, tx1, P1, past1, b1, n1, f1, hc, hm⟩ := pr_type (a := a) (c := a.2.2.2.1.2.2 (j + 1)) hC
          refine tr_callV (pc := 126) (rest := []) (ci := 9) dL_law_126 ll_13 cv_X9_type rfl rfl (Nat.le_of_ble_eq_true rfl) (hS1.1 0 (12, 14) rfl) rfl (by decide) (hc) ?_
          rintro _ S2 h2 ⟨rfl, hC2, hF2⟩
          have hS2 := hC2.1
          show T a 21 mL_law 129 [(0, .ref a.2.2.2.1.1), (1, rv a 0), (2, rv a 50), (3, .int (nI j))] [.int ans] S2 h2 _
          refine tr_aload_n (pc := 129) 2 dL_law_129 rfl rfl ?_
          refine tr_aload_nS (pc := 130) 0 dL_law_130 rfl rfl ?_
          refine tr_iload_n (pc := 131) 3 dL_law_131 rfl rfl ?_
          refine tr_iconst (pc := 132) (v := nI 1) dL_law_132 (by decide) ?_
          refine tr_iadd (pc := 133) (v := nI (j + 1)) dL_law_133 (nI_add _ _) ?_
          refine tr_sld (pc := 134) (v := a.2.2.2.1.2.2 (j + 1)) (j + 1) dL_law_134 rfl (by omega) (by omega) rfl ?_
          refine tr_callV (pc := 135) (rest := [.int ans]) (ci := 10) dL_law_135 ll_17 cv_X10_type rfl rfl (Nat.le_of_ble_eq_true rfl) (hS2.1 50 (13, 45) rfl) rfl (by decide) (hm S2 h2 hC2.1 (hM.cf hF2)) ?_
          rintro _ _ h3 ⟨rfl, rfl, hM3, hF3⟩
          have hC3 := hC2.mf hF3
          show T a 21 mL_law 138 [(0, .ref a.2.2.2.1.1), (1, rv a 0), (2, rv a 50), (3, .int (nI j))] [.int ans, .int ans] S2 h3 _
          refine tr_icmp_eq (pc := 138) (tgt := 565) dL_law_138 (by decide) Iff.rfl (fun _ => ?_) (fun hcc => absurd (rfl) hcc)
          refine tr_iinc (pc := 565) (v := nI (j + 4)) (lv' := [(3, .int (nI (j + 4))), (0, .ref a.2.2.2.1.1), (1, rv a 0), (2, rv a 50)]) 3 dL_law_565 rfl (by rw [show Int32.ofInt 4 = nI 4 from by decide, nI_add]) (by decide) rfl ?_
          refine tr_goto (pc := 568) (tgt := 18) dL_law_568 (by decide) ?_
          refine tr_sub (pc := 18) (lv' := [(0, .ref a.2.2.2.1.1), (1, rv a 0), (2, rv a 50), (3, .int (nI (j + 4)))]) [1, 2, 3, 0] rfl ?_
          exact ih (j + 4) S2 h3 tx1 P1 past1 b1 n1 f1 (by omega) (by omega) hC3 hM3
        · skip
          show T a 21 mL_law 32 [(0, .ref a.2.2.2.1.1), (1, rv a 0), (2, rv a 50), (3, .int (nI j))] [.int (nI 1)] S1 h1 _
          refine tr_tabIn (pc := 32) (off := 111) (tgt := 143) dL_law_32 (by decide) (by decide) (by decide) (by decide) ?_
          refine tr_aload_n (pc := 143) 1 dL_law_143 rfl rfl ?_
          obtain ⟨ans, tx1, P1, past1, b1, n1, f1, hc, hm⟩ := pr_clear (a := a)  hC
          refine tr_callV (pc := 144) (rest := []) (ci := 9) dL_law_144 ll_18 cv_X9_clear rfl rfl (Nat.le_of_ble_eq_true rfl) (hS1.1 0 (12, 14) rfl) rfl (by decide) (hc) ?_
          rintro _ S2 h2 ⟨rfl, hC2, hF2⟩
          have hS2 := hC2.1
          show T a 21 mL_law 147 [(0, .ref a.2.2.2.1.1), (1, rv a 0), (2, rv a 50), (3, .int (nI j))] [.int ans] S2 h2 _
          refine tr_aload_n (pc := 147) 2 dL_law_147 rfl rfl ?_
          refine tr_callV (pc := 148) (rest := [.int ans]) (ci := 10) dL_law_148 ll_22 cv_X10_clear rfl rfl (Nat.le_of_ble_eq_true rfl) (hS2.1 50 (13, 45) rfl) rfl (by decide) (hm S2 h2 hC2.1 (hM.cf hF2)) ?_
          rintro _ _ h3 ⟨rfl, rfl, hM3, hF3⟩
          have hC3 := hC2.mf hF3
          show T a 21 mL_law 151 [(0, .ref a.2.2.2.1.1), (1, rv a 0), (2, rv a 50), (3, .int (nI j))] [.int ans, .int ans] S2 h3 _
          refine tr_icmp_eq (pc := 151) (tgt := 565) dL_law_151 (by decide) Iff.rfl (fun _ => ?_) (fun hcc => absurd (rfl) hcc)
          refine tr_iinc (pc := 565) (v := nI (j + 4)) (lv' := [(3, .int (nI (j + 4))), (0, .ref a.2.2.2.1.1), (1, rv a 0), (2, rv a 50)]) 3 dL_law_565 rfl (by rw [show Int32.ofInt 4 = nI 4 from by decide, nI_add]) (by decide) rfl ?_
          refine tr_goto (pc := 568) (tgt := 18) dL_law_568 (by decide) ?_
          refine tr_sub (pc := 18) (lv' := [(0, .ref a.2.2.2.1.1), (1, rv a 0), (2, rv a 50), (3, .int (nI (j + 4)))]) [1, 2, 3, 0] rfl ?_
          exact ih (j + 4) S2 h3 tx1 P1 past1 b1 n1 f1 (by omega) (by omega) hC3 hM3
        · skip
          show T a 21 mL_law 32 [(0, .ref a.2.2.2.1.1), (1, rv a 0), (2, rv a 50), (3, .int (nI j))] [.int (nI 2)] S1 h1 _
          refine tr_tabIn (pc := 32) (off := 124) (tgt := 156) dL_law_32 (by decide) (by decide) (by decide) (by decide) ?_
          refine tr_aload_n (pc := 156) 1 dL_law_156 rfl rfl ?_
          obtain ⟨ans, tx1, P1, past1, b1, n1, f1, hc, hm⟩ := pr_reads (a := a)  hC
          refine tr_callV (pc := 157) (rest := []) (ci := 9) dL_law_157 ll_23 cv_X9_reads rfl rfl (Nat.le_of_ble_eq_true rfl) (hS1.1 0 (12, 14) rfl) rfl (by decide) (hc) ?_
          rintro _ S2 h2 ⟨rfl, hC2, hF2⟩
          have hS2 := hC2.1
          show T a 21 mL_law 160 [(0, .ref a.2.2.2.1.1), (1, rv a 0), (2, rv a 50), (3, .int (nI j))] [.int ans] S2 h2 _
          refine tr_aload_n (pc := 160) 2 dL_law_160 rfl rfl ?_
          refine tr_callV (pc := 161) (rest := [.int ans]) (ci := 10) dL_law_161 ll_26 cv_X10_reads rfl rfl (Nat.le_of_ble_eq_true rfl) (hS2.1 50 (13, 45) rfl) rfl (by decide) (hm S2 h2 hC2.1 (hM.cf hF2)) ?_
          rintro _ _ h3 ⟨rfl, rfl, hM3, hF3⟩
          have hC3 := hC2.mf hF3
          show T a 21 mL_law 164 [(0, .ref a.2.2.2.1.1), (1, rv a 0), (2, rv a 50), (3, .int (nI j))] [.int ans, .int ans] S2 h3 _
          refine tr_icmp_eq (pc := 164) (tgt := 565) dL_law_164 (by decide) Iff.rfl (fun _ => ?_) (fun hcc => absurd (rfl) hcc)
          refine tr_iinc (pc := 565) (v := nI (j + 4)) (lv' := [(3, .int (nI (j + 4))), (0, .ref a.2.2.2.1.1), (1, rv a 0), (2, rv a 50)]) 3 dL_law_565 rfl (by rw [show Int32.ofInt 4 = nI 4 from by decide, nI_add]) (by decide) rfl ?_
          refine tr_goto (pc := 568) (tgt := 18) dL_law_568 (by decide) ?_
          refine tr_sub (pc := 18) (lv' := [(0, .ref a.2.2.2.1.1), (1, rv a 0), (2, rv a 50), (3, .int (nI (j + 4)))]) [1, 2, 3, 0] rfl ?_
          exact ih (j + 4) S2 h3 tx1 P1 past1 b1 n1 f1 (by omega) (by omega) hC3 hM3
        · skip
          show T a 21 mL_law 32 [(0, .ref a.2.2.2.1.1), (1, rv a 0), (2, rv a 50), (3, .int (nI j))] [.int (nI 3)] S1 h1 _
          refine tr_tabIn (pc := 32) (off := 137) (tgt := 169) dL_law_32 (by decide) (by decide) (by decide) (by decide) ?_
          refine tr_aload_n (pc := 169) 1 dL_law_169 rfl rfl ?_
          refine tr_aload_nS (pc := 170) 0 dL_law_170 rfl rfl ?_
          refine tr_iload_n (pc := 171) 3 dL_law_171 rfl rfl ?_
          refine tr_iconst (pc := 172) (v := nI 1) dL_law_172 (by decide) ?_
          refine tr_iadd (pc := 173) (v := nI (j + 1)) dL_law_173 (nI_add _ _) ?_
          refine tr_sld (pc := 174) (v := a.2.2.2.1.2.2 (j + 1)) (j + 1) dL_law_174 rfl (by omega) (by omega) rfl ?_
          refine tr_aload_nS (pc := 175) 0 dL_law_175 rfl rfl ?_
          refine tr_iload_n (pc := 176) 3 dL_law_176 rfl rfl ?_
          refine tr_iconst (pc := 177) (v := nI 2) dL_law_177 (by decide) ?_
          refine tr_iadd (pc := 178) (v := nI (j + 2)) dL_law_178 (nI_add _ _) ?_
          refine tr_sld (pc := 179) (v := a.2.2.2.1.2.2 (j + 2)) (j + 2) dL_law_179 rfl (by omega) (by omega) rfl ?_
          obtain ⟨ans, tx1, P1, past1, b1, n1, f1, hc, hm⟩ := pr_drops (a := a) (x := a.2.2.2.1.2.2 (j + 1)) (y := a.2.2.2.1.2.2 (j + 2)) hC
          refine tr_callV (pc := 180) (rest := []) (ci := 9) dL_law_180 ll_27 cv_X9_drops rfl rfl (Nat.le_of_ble_eq_true rfl) (hS1.1 0 (12, 14) rfl) rfl (by decide) (hc) ?_
          rintro _ S2 h2 ⟨rfl, hC2, hF2⟩
          have hS2 := hC2.1
          show T a 21 mL_law 183 [(0, .ref a.2.2.2.1.1), (1, rv a 0), (2, rv a 50), (3, .int (nI j))] [.int ans] S2 h2 _
          refine tr_aload_n (pc := 183) 2 dL_law_183 rfl rfl ?_
          refine tr_aload_nS (pc := 184) 0 dL_law_184 rfl rfl ?_
          refine tr_iload_n (pc := 185) 3 dL_law_185 rfl rfl ?_
          refine tr_iconst (pc := 186) (v := nI 1) dL_law_186 (by decide) ?_
          refine tr_iadd (pc := 187) (v := nI (j + 1)) dL_law_187 (nI_add _ _) ?_
          refine tr_sld (pc := 188) (v := a.2.2.2.1.2.2 (j + 1)) (j + 1) dL_law_188 rfl (by omega) (by omega) rfl ?_
          refine tr_aload_nS (pc := 189) 0 dL_law_189 rfl rfl ?_
          refine tr_iload_n (pc := 190) 3 dL_law_190 rfl rfl ?_
          refine tr_iconst (pc := 191) (v := nI 2) dL_law_191 (by decide) ?_
          refine tr_iadd (pc := 192) (v := nI (j + 2)) dL_law_192 (nI_add _ _) ?_
          refine tr_sld (pc := 193) (v := a.2.2.2.1.2.2 (j + 2)) (j + 2) dL_law_193 rfl (by omega) (by omega) rfl ?_
          refine tr_callV (pc := 194) (rest := [.int ans]) (ci := 10) dL_law_194 ll_31 cv_X10_drops rfl rfl (Nat.le_of_ble_eq_true rfl) (hS2.1 50 (13, 45) rfl) rfl (by decide) (hm S2 h2 hC2.1 (hM.cf hF2)) ?_
          rintro _ _ h3 ⟨rfl, rfl, hM3, hF3⟩
          have hC3 := hC2.mf hF3
          show T a 21 mL_law 197 [(0, .ref a.2.2.2.1.1), (1, rv a 0), (2, rv a 50), (3, .int (nI j))] [.int ans, .int ans] S2 h3 _
          refine tr_icmp_eq (pc := 197) (tgt := 565) dL_law_197 (by decide) Iff.rfl (fun _ => ?_) (fun hcc => absurd (rfl) hcc)
          refine tr_iinc (pc := 565) (v := nI (j + 4)) (lv' := [(3, .int (nI (j + 4))), (0, .ref a.2.2.2.1.1), (1, rv a 0), (2, rv a 50)]) 3 dL_law_565 rfl (by rw [show Int32.ofInt 4 = nI 4 from by decide, nI_add]) (by decide) rfl ?_
          refine tr_goto (pc := 568) (tgt := 18) dL_law_568 (by decide) ?_
          refine tr_sub (pc := 18) (lv' := [(0, .ref a.2.2.2.1.1), (1, rv a 0), (2, rv a 50), (3, .int (nI (j + 4)))]) [1, 2, 3, 0] rfl ?_
          exact ih (j + 4) S2 h3 tx1 P1 past1 b1 n1 f1 (by omega) (by omega) hC3 hM3
        · skip
          show T a 21 mL_law 32 [(0, .ref a.2.2.2.1.1), (1, rv a 0), (2, rv a 50), (3, .int (nI j))] [.int (nI 4)] S1 h1 _
          refine tr_tabIn (pc := 32) (off := 170) (tgt := 202) dL_law_32 (by decide) (by decide) (by decide) (by decide) ?_
          refine tr_aload_n (pc := 202) 1 dL_law_202 rfl rfl ?_
          refine tr_aload_nS (pc := 203) 0 dL_law_203 rfl rfl ?_
          refine tr_iload_n (pc := 204) 3 dL_law_204 rfl rfl ?_
          refine tr_iconst (pc := 205) (v := nI 1) dL_law_205 (by decide) ?_
          refine tr_iadd (pc := 206) (v := nI (j + 1)) dL_law_206 (nI_add _ _) ?_
          refine tr_sld (pc := 207) (v := a.2.2.2.1.2.2 (j + 1)) (j + 1) dL_law_207 rfl (by omega) (by omega) rfl ?_
          refine tr_aload_nS (pc := 208) 0 dL_law_208 rfl rfl ?_
          refine tr_iload_n (pc := 209) 3 dL_law_209 rfl rfl ?_
          refine tr_iconst (pc := 210) (v := nI 2) dL_law_210 (by decide) ?_
          refine tr_iadd (pc := 211) (v := nI (j + 2)) dL_law_211 (nI_add _ _) ?_
          refine tr_sld (pc := 212) (v := a.2.2.2.1.2.2 (j + 2)) (j + 2) dL_law_212 rfl (by omega) (by omega) rfl ?_
          obtain ⟨ans, tx1, P1, past1, b1, n1, f1, hc, hm⟩ := pr_swaps (a := a) (x := a.2.2.2.1.2.2 (j + 1)) (y := a.2.2.2.1.2.2 (j + 2)) hC
          refine tr_callV (pc := 213) (rest := []) (ci := 9) dL_law_213 ll_32 cv_X9_swaps rfl rfl (Nat.le_of_ble_eq_true rfl) (hS1.1 0 (12, 14) rfl) rfl (by decide) (hc) ?_
          rintro _ S2 h2 ⟨rfl, hC2, hF2⟩
          have hS2 := hC2.1
          show T a 21 mL_law 216 [(0, .ref a.2.2.2.1.1), (1, rv a 0), (2, rv a 50), (3, .int (nI j))] [.int ans] S2 h2 _
          refine tr_aload_n (pc := 216) 2 dL_law_216 rfl rfl ?_
          refine tr_aload_nS (pc := 217) 0 dL_law_217 rfl rfl ?_
          refine tr_iload_n (pc := 218) 3 dL_law_218 rfl rfl ?_
          refine tr_iconst (pc := 219) (v := nI 1) dL_law_219 (by decide) ?_
          refine tr_iadd (pc := 220) (v := nI (j + 1)) dL_law_220 (nI_add _ _) ?_
          refine tr_sld (pc := 221) (v := a.2.2.2.1.2.2 (j + 1)) (j + 1) dL_law_221 rfl (by omega) (by omega) rfl ?_
          refine tr_aload_nS (pc := 222) 0 dL_law_222 rfl rfl ?_
          refine tr_iload_n (pc := 223) 3 dL_law_223 rfl rfl ?_
          refine tr_iconst (pc := 224) (v := nI 2) dL_law_224 (by decide) ?_
          refine tr_iadd (pc := 225) (v := nI (j + 2)) dL_law_225 (nI_add _ _) ?_
          refine tr_sld (pc := 226) (v := a.2.2.2.1.2.2 (j + 2)) (j + 2) dL_law_226 rfl (by omega) (by omega) rfl ?_
          refine tr_callV (pc := 227) (rest := [.int ans]) (ci := 10) dL_law_227 ll_35 cv_X10_swaps rfl rfl (Nat.le_of_ble_eq_true rfl) (hS2.1 50 (13, 45) rfl) rfl (by decide) (hm S2 h2 hC2.1 (hM.cf hF2)) ?_
          rintro _ _ h3 ⟨rfl, rfl, hM3, hF3⟩
          have hC3 := hC2.mf hF3
          show T a 21 mL_law 230 [(0, .ref a.2.2.2.1.1), (1, rv a 0), (2, rv a 50), (3, .int (nI j))] [.int ans, .int ans] S2 h3 _
          refine tr_icmp_eq (pc := 230) (tgt := 565) dL_law_230 (by decide) Iff.rfl (fun _ => ?_) (fun hcc => absurd (rfl) hcc)
          refine tr_iinc (pc := 565) (v := nI (j + 4)) (lv' := [(3, .int (nI (j + 4))), (0, .ref a.2.2.2.1.1), (1, rv a 0), (2, rv a 50)]) 3 dL_law_565 rfl (by rw [show Int32.ofInt 4 = nI 4 from by decide, nI_add]) (by decide) rfl ?_
          refine tr_goto (pc := 568) (tgt := 18) dL_law_568 (by decide) ?_
          refine tr_sub (pc := 18) (lv' := [(0, .ref a.2.2.2.1.1), (1, rv a 0), (2, rv a 50), (3, .int (nI (j + 4)))]) [1, 2, 3, 0] rfl ?_
          exact ih (j + 4) S2 h3 tx1 P1 past1 b1 n1 f1 (by omega) (by omega) hC3 hM3
        · skip
          show T a 21 mL_law 32 [(0, .ref a.2.2.2.1.1), (1, rv a 0), (2, rv a 50), (3, .int (nI j))] [.int (nI 5)] S1 h1 _
          refine tr_tabIn (pc := 32) (off := 203) (tgt := 235) dL_law_32 (by decide) (by decide) (by decide) (by decide) ?_
          refine tr_aload_n (pc := 235) 1 dL_law_235 rfl rfl ?_
          refine tr_aload_nS (pc := 236) 0 dL_law_236 rfl rfl ?_
          refine tr_iload_n (pc := 237) 3 dL_law_237 rfl rfl ?_
          refine tr_iconst (pc := 238) (v := nI 1) dL_law_238 (by decide) ?_
          refine tr_iadd (pc := 239) (v := nI (j + 1)) dL_law_239 (nI_add _ _) ?_
          refine tr_sld (pc := 240) (v := a.2.2.2.1.2.2 (j + 1)) (j + 1) dL_law_240 rfl (by omega) (by omega) rfl ?_
          refine tr_aload_nS (pc := 241) 0 dL_law_241 rfl rfl ?_
          refine tr_iload_n (pc := 242) 3 dL_law_242 rfl rfl ?_
          refine tr_iconst (pc := 243) (v := nI 2) dL_law_243 (by decide) ?_
          refine tr_iadd (pc := 244) (v := nI (j + 2)) dL_law_244 (nI_add _ _) ?_
          refine tr_sld (pc := 245) (v := a.2.2.2.1.2.2 (j + 2)) (j + 2) dL_law_245 rfl (by omega) (by omega) rfl ?_
          obtain ⟨ans, tx1, P1, past1, b1, n1, f1, hc, hm⟩ := pr_of (a := a) (x := a.2.2.2.1.2.2 (j + 1)) (y := a.2.2.2.1.2.2 (j + 2)) hC
          refine tr_callV (pc := 246) (rest := []) (ci := 9) dL_law_246 ll_36 cv_X9_of rfl rfl (Nat.le_of_ble_eq_true rfl) (hS1.1 0 (12, 14) rfl) rfl (by decide) (hc) ?_
          rintro _ S2 h2 ⟨rfl, hC2, hF2⟩
          have hS2 := hC2.1
          show T a 21 mL_law 249 [(0, .ref a.2.2.2.1.1), (1, rv a 0), (2, rv a 50), (3, .int (nI j))] [.int ans] S2 h2 _
          refine tr_aload_n (pc := 249) 2 dL_law_249 rfl rfl ?_
          refine tr_aload_nS (pc := 250) 0 dL_law_250 rfl rfl ?_
          refine tr_iload_n (pc := 251) 3 dL_law_251 rfl rfl ?_
          refine tr_iconst (pc := 252) (v := nI 1) dL_law_252 (by decide) ?_
          refine tr_iadd (pc := 253) (v := nI (j + 1)) dL_law_253 (nI_add _ _) ?_
          refine tr_sld (pc := 254) (v := a.2.2.2.1.2.2 (j + 1)) (j + 1) dL_law_254 rfl (by omega) (by omega) rfl ?_
          refine tr_aload_nS (pc := 255) 0 dL_law_255 rfl rfl ?_
          refine tr_iload_n (pc := 256) 3 dL_law_256 rfl rfl ?_
          refine tr_iconst (pc := 257) (v := nI 2) dL_law_257 (by decide) ?_
          refine tr_iadd (pc := 258) (v := nI (j + 2)) dL_law_258 (nI_add _ _) ?_
          refine tr_sld (pc := 259) (v := a.2.2.2.1.2.2 (j + 2)) (j + 2) dL_law_259 rfl (by omega) (by omega) rfl ?_
          refine tr_callV (pc := 260) (rest := [.int ans]) (ci := 10) dL_law_260 ll_39 cv_X10_of rfl rfl (Nat.le_of_ble_eq_true rfl) (hS2.1 50 (13, 45) rfl) rfl (by decide) (hm S2 h2 hC2.1 (hM.cf hF2)) ?_
          rintro _ _ h3 ⟨rfl, rfl, hM3, hF3⟩
          have hC3 := hC2.mf hF3
          show T a 21 mL_law 263 [(0, .ref a.2.2.2.1.1), (1, rv a 0), (2, rv a 50), (3, .int (nI j))] [.int ans, .int ans] S2 h3 _
          refine tr_icmp_eq (pc := 263) (tgt := 565) dL_law_263 (by decide) Iff.rfl (fun _ => ?_) (fun hcc => absurd (rfl) hcc)
          refine tr_iinc (pc := 565) (v := nI (j + 4)) (lv' := [(3, .int (nI (j + 4))), (0, .ref a.2.2.2.1.1), (1, rv a 0), (2, rv a 50)]) 3 dL_law_565 rfl (by rw [show Int32.ofInt 4 = nI 4 from by decide, nI_add]) (by decide) rfl ?_
          refine tr_goto (pc := 568) (tgt := 18) dL_law_568 (by decide) ?_
          refine tr_sub (pc := 18) (lv' := [(0, .ref a.2.2.2.1.1), (1, rv a 0), (2, rv a 50), (3, .int (nI (j + 4)))]) [1, 2, 3, 0] rfl ?_
          exact ih (j + 4) S2 h3 tx1 P1 past1 b1 n1 f1 (by omega) (by omega) hC3 hM3
        · skip
          show T a 21 mL_law 32 [(0, .ref a.2.2.2.1.1), (1, rv a 0), (2, rv a 50), (3, .int (nI j))] [.int (nI 6)] S1 h1 _
          refine tr_tabIn (pc := 32) (off := 236) (tgt := 268) dL_law_32 (by decide) (by decide) (by decide) (by decide) ?_
          refine tr_aload_n (pc := 268) 1 dL_law_268 rfl rfl ?_
          refine tr_aload_nS (pc := 269) 0 dL_law_269 rfl rfl ?_
          refine tr_iload_n (pc := 270) 3 dL_law_270 rfl rfl ?_
          refine tr_iconst (pc := 271) (v := nI 1) dL_law_271 (by decide) ?_
          refine tr_iadd (pc := 272) (v := nI (j + 1)) dL_law_272 (nI_add _ _) ?_
          refine tr_sld (pc := 273) (v := a.2.2.2.1.2.2 (j + 1)) (j + 1) dL_law_273 rfl (by omega) (by omega) rfl ?_
          refine tr_aload_nS (pc := 274) 0 dL_law_274 rfl rfl ?_
          refine tr_iload_n (pc := 275) 3 dL_law_275 rfl rfl ?_
          refine tr_iconst (pc := 276) (v := nI 2) dL_law_276 (by decide) ?_
          refine tr_iadd (pc := 277) (v := nI (j + 2)) dL_law_277 (nI_add _ _) ?_
          refine tr_sld (pc := 278) (v := a.2.2.2.1.2.2 (j + 2)) (j + 2) dL_law_278 rfl (by omega) (by omega) rfl ?_
          refine tr_aload_nS (pc := 279) 0 dL_law_279 rfl rfl ?_
          refine tr_iload_n (pc := 280) 3 dL_law_280 rfl rfl ?_
          refine tr_iconst (pc := 281) (v := nI 3) dL_law_281 (by decide) ?_
          refine tr_iadd (pc := 282) (v := nI (j + 3)) dL_law_282 (nI_add _ _) ?_
          refine tr_sld (pc := 283) (v := a.2.2.2.1.2.2 (j + 3)) (j + 3) dL_law_283 rfl (by omega) (by omega) rfl ?_
          obtain ⟨ans, tx1, P1, past1, b1, n1, f1, hc, hm⟩ := pr_line (a := a) (x := a.2.2.2.1.2.2 (j + 1)) (y := a.2.2.2.1.2.2 (j + 2)) (z := a.2.2.2.1.2.2 (j + 3)) hC
          refine tr_callV (pc := 284) (rest := []) (ci := 9) dL_law_284 ll_40 cv_X9_line rfl rfl (Nat.le_of_ble_eq_true rfl) (hS1.1 0 (12, 14) rfl) rfl (by decide) (hc) ?_
          rintro _ S2 h2 ⟨rfl, hC2, hF2⟩
          have hS2 := hC2.1
          show T a 21 mL_law 287 [(0, .ref a.2.2.2.1.1), (1, rv a 0), (2, rv a 50), (3, .int (nI j))] [.int ans] S2 h2 _
          refine tr_aload_n (pc := 287) 2 dL_law_287 rfl rfl ?_
          refine tr_aload_nS (pc := 288) 0 dL_law_288 rfl rfl ?_
          refine tr_iload_n (pc := 289) 3 dL_law_289 rfl rfl ?_
          refine tr_iconst (pc := 290) (v := nI 1) dL_law_290 (by decide) ?_
          refine tr_iadd (pc := 291) (v := nI (j + 1)) dL_law_291 (nI_add _ _) ?_
          refine tr_sld (pc := 292) (v := a.2.2.2.1.2.2 (j + 1)) (j + 1) dL_law_292 rfl (by omega) (by omega) rfl ?_
          refine tr_aload_nS (pc := 293) 0 dL_law_293 rfl rfl ?_
          refine tr_iload_n (pc := 294) 3 dL_law_294 rfl rfl ?_
          refine tr_iconst (pc := 295) (v := nI 2) dL_law_295 (by decide) ?_
          refine tr_iadd (pc := 296) (v := nI (j + 2)) dL_law_296 (nI_add _ _) ?_
          refine tr_sld (pc := 297) (v := a.2.2.2.1.2.2 (j + 2)) (j + 2) dL_law_297 rfl (by omega) (by omega) rfl ?_
          refine tr_aload_nS (pc := 298) 0 dL_law_298 rfl rfl ?_
          refine tr_iload_n (pc := 299) 3 dL_law_299 rfl rfl ?_
          refine tr_iconst (pc := 300) (v := nI 3) dL_law_300 (by decide) ?_
          refine tr_iadd (pc := 301) (v := nI (j + 3)) dL_law_301 (nI_add _ _) ?_
          refine tr_sld (pc := 302) (v := a.2.2.2.1.2.2 (j + 3)) (j + 3) dL_law_302 rfl (by omega) (by omega) rfl ?_
          refine tr_callV (pc := 303) (rest := [.int ans]) (ci := 10) dL_law_303 ll_44 cv_X10_line rfl rfl (Nat.le_of_ble_eq_true rfl) (hS2.1 50 (13, 45) rfl) rfl (by decide) (hm S2 h2 hC2.1 (hM.cf hF2)) ?_
          rintro _ _ h3 ⟨rfl, rfl, hM3, hF3⟩
          have hC3 := hC2.mf hF3
          show T a 21 mL_law 306 [(0, .ref a.2.2.2.1.1), (1, rv a 0), (2, rv a 50), (3, .int (nI j))] [.int ans, .int ans] S2 h3 _
          refine tr_icmp_eq (pc := 306) (tgt := 565) dL_law_306 (by decide) Iff.rfl (fun _ => ?_) (fun hcc => absurd (rfl) hcc)
          refine tr_iinc (pc := 565) (v := nI (j + 4)) (lv' := [(3, .int (nI (j + 4))), (0, .ref a.2.2.2.1.1), (1, rv a 0), (2, rv a 50)]) 3 dL_law_565 rfl (by rw [show Int32.ofInt 4 = nI 4 from by decide, nI_add]) (by decide) rfl ?_
          refine tr_goto (pc := 568) (tgt := 18) dL_law_568 (by decide) ?_
          refine tr_sub (pc := 18) (lv' := [(0, .ref a.2.2.2.1.1), (1, rv a 0), (2, rv a 50), (3, .int (nI (j + 4)))]) [1, 2, 3, 0] rfl ?_
          exact ih (j + 4) S2 h3 tx1 P1 past1 b1 n1 f1 (by omega) (by omega) hC3 hM3
        · skip
          show T a 21 mL_law 32 [(0, .ref a.2.2.2.1.1), (1, rv a 0), (2, rv a 50), (3, .int (nI j))] [.int (nI 7)] S1 h1 _
          refine tr_tabIn (pc := 32) (off := 279) (tgt := 311) dL_law_32 (by decide) (by decide) (by decide) (by decide) ?_
          refine tr_aload_n (pc := 311) 1 dL_law_311 rfl rfl ?_
          refine tr_aload_nS (pc := 312) 0 dL_law_312 rfl rfl ?_
          refine tr_iload_n (pc := 313) 3 dL_law_313 rfl rfl ?_
          refine tr_iconst (pc := 314) (v := nI 1) dL_law_314 (by decide) ?_
          refine tr_iadd (pc := 315) (v := nI (j + 1)) dL_law_315 (nI_add _ _) ?_
          refine tr_sld (pc := 316) (v := a.2.2.2.1.2.2 (j + 1)) (j + 1) dL_law_316 rfl (by omega) (by omega) rfl ?_
          refine tr_aload_nS (pc := 317) 0 dL_law_317 rfl rfl ?_
          refine tr_iload_n (pc := 318) 3 dL_law_318 rfl rfl ?_
          refine tr_iconst (pc := 319) (v := nI 2) dL_law_319 (by decide) ?_
          refine tr_iadd (pc := 320) (v := nI (j + 2)) dL_law_320 (nI_add _ _) ?_
          refine tr_sld (pc := 321) (v := a.2.2.2.1.2.2 (j + 2)) (j + 2) dL_law_321 rfl (by omega) (by omega) rfl ?_
          obtain ⟨ans, tx1, P1, past1, b1, n1, f1, hc, hm⟩ := pr_site (a := a) (x := a.2.2.2.1.2.2 (j + 1)) (y := a.2.2.2.1.2.2 (j + 2)) hC
          refine tr_callV (pc := 322) (rest := []) (ci := 9) dL_law_322 ll_45 cv_X9_site rfl rfl (Nat.le_of_ble_eq_true rfl) (hS1.1 0 (12, 14) rfl) rfl (by decide) (hc) ?_
          rintro _ S2 h2 ⟨rfl, hC2, hF2⟩
          have hS2 := hC2.1
          show T a 21 mL_law 325 [(0, .ref a.2.2.2.1.1), (1, rv a 0), (2, rv a 50), (3, .int (nI j))] [.int ans] S2 h2 _
          refine tr_aload_n (pc := 325) 2 dL_law_325 rfl rfl ?_
          refine tr_aload_nS (pc := 326) 0 dL_law_326 rfl rfl ?_
          refine tr_iload_n (pc := 327) 3 dL_law_327 rfl rfl ?_
          refine tr_iconst (pc := 328) (v := nI 1) dL_law_328 (by decide) ?_
          refine tr_iadd (pc := 329) (v := nI (j + 1)) dL_law_329 (nI_add _ _) ?_
          refine tr_sld (pc := 330) (v := a.2.2.2.1.2.2 (j + 1)) (j + 1) dL_law_330 rfl (by omega) (by omega) rfl ?_
          refine tr_aload_nS (pc := 331) 0 dL_law_331 rfl rfl ?_
          refine tr_iload_n (pc := 332) 3 dL_law_332 rfl rfl ?_
          refine tr_iconst (pc := 333) (v := nI 2) dL_law_333 (by decide) ?_
          refine tr_iadd (pc := 334) (v := nI (j + 2)) dL_law_334 (nI_add _ _) ?_
          refine tr_sld (pc := 335) (v := a.2.2.2.1.2.2 (j + 2)) (j + 2) dL_law_335 rfl (by omega) (by omega) rfl ?_
          refine tr_callV (pc := 336) (rest := [.int ans]) (ci := 10) dL_law_336 ll_48 cv_X10_site rfl rfl (Nat.le_of_ble_eq_true rfl) (hS2.1 50 (13, 45) rfl) rfl (by decide) (hm S2 h2 hC2.1 (hM.cf hF2)) ?_
          rintro _ _ h3 ⟨rfl, rfl, hM3, hF3⟩
          have hC3 := hC2.mf hF3
          show T a 21 mL_law 339 [(0, .ref a.2.2.2.1.1), (1, rv a 0), (2, rv a 50), (3, .int (nI j))] [.int ans, .int ans] S2 h3 _
          refine tr_icmp_eq (pc := 339) (tgt := 565) dL_law_339 (by decide) Iff.rfl (fun _ => ?_) (fun hcc => absurd (rfl) hcc)
          refine tr_iinc (pc := 565) (v := nI (j + 4)) (lv' := [(3, .int (nI (j + 4))), (0, .ref a.2.2.2.1.1), (1, rv a 0), (2, rv a 50)]) 3 dL_law_565 rfl (by rw [show Int32.ofInt 4 = nI 4 from by decide, nI_add]) (by decide) rfl ?_
          refine tr_goto (pc := 568) (tgt := 18) dL_law_568 (by decide) ?_
          refine tr_sub (pc := 18) (lv' := [(0, .ref a.2.2.2.1.1), (1, rv a 0), (2, rv a 50), (3, .int (nI (j + 4)))]) [1, 2, 3, 0] rfl ?_
          exact ih (j + 4) S2 h3 tx1 P1 past1 b1 n1 f1 (by omega) (by omega) hC3 hM3
        · skip
          show T a 21 mL_law 32 [(0, .ref a.2.2.2.1.1), (1, rv a 0), (2, rv a 50), (3, .int (nI j))] [.int (nI 8)] S1 h1 _
          refine tr_tabIn (pc := 32) (off := 312) (tgt := 344) dL_law_32 (by decide) (by decide) (by decide) (by decide) ?_
          refine tr_aload_n (pc := 344) 1 dL_law_344 rfl rfl ?_
          refine tr_aload_nS (pc := 345) 0 dL_law_345 rfl rfl ?_
          refine tr_iload_n (pc := 346) 3 dL_law_346 rfl rfl ?_
          refine tr_iconst (pc := 347) (v := nI 1) dL_law_347 (by decide) ?_
          refine tr_iadd (pc := 348) (v := nI (j + 1)) dL_law_348 (nI_add _ _) ?_
          refine tr_sld (pc := 349) (v := a.2.2.2.1.2.2 (j + 1)) (j + 1) dL_law_349 rfl (by omega) (by omega) rfl ?_
          refine tr_aload_nS (pc := 350) 0 dL_law_350 rfl rfl ?_
          refine tr_iload_n (pc := 351) 3 dL_law_351 rfl rfl ?_
          refine tr_iconst (pc := 352) (v := nI 2) dL_law_352 (by decide) ?_
          refine tr_iadd (pc := 353) (v := nI (j + 2)) dL_law_353 (nI_add _ _) ?_
          refine tr_sld (pc := 354) (v := a.2.2.2.1.2.2 (j + 2)) (j + 2) dL_law_354 rfl (by omega) (by omega) rfl ?_
          obtain ⟨ans, tx1, P1, past1, b1, n1, f1, hc, hm⟩ := pr_may (a := a) (x := a.2.2.2.1.2.2 (j + 1)) (y := a.2.2.2.1.2.2 (j + 2)) hC
          refine tr_callV (pc := 355) (rest := []) (ci := 9) dL_law_355 ll_49 cv_X9_may rfl rfl (Nat.le_of_ble_eq_true rfl) (hS1.1 0 (12, 14) rfl) rfl (by decide) (hc) ?_
          rintro _ S2 h2 ⟨rfl, hC2, hF2⟩
          have hS2 := hC2.1
          show T a 21 mL_law 358 [(0, .ref a.2.2.2.1.1), (1, rv a 0), (2, rv a 50), (3, .int (nI j))] [.int ans] S2 h2 _
          refine tr_aload_n (pc := 358) 2 dL_law_358 rfl rfl ?_
          refine tr_aload_nS (pc := 359) 0 dL_law_359 rfl rfl ?_
          refine tr_iload_n (pc := 360) 3 dL_law_360 rfl rfl ?_
          refine tr_iconst (pc := 361) (v := nI 1) dL_law_361 (by decide) ?_
          refine tr_iadd (pc := 362) (v := nI (j + 1)) dL_law_362 (nI_add _ _) ?_
          refine tr_sld (pc := 363) (v := a.2.2.2.1.2.2 (j + 1)) (j + 1) dL_law_363 rfl (by omega) (by omega) rfl ?_
          refine tr_aload_nS (pc := 364) 0 dL_law_364 rfl rfl ?_
          refine tr_iload_n (pc := 365) 3 dL_law_365 rfl rfl ?_
          refine tr_iconst (pc := 366) (v := nI 2) dL_law_366 (by decide) ?_
          refine tr_iadd (pc := 367) (v := nI (j + 2)) dL_law_367 (nI_add _ _) ?_
          refine tr_sld (pc := 368) (v := a.2.2.2.1.2.2 (j + 2)) (j + 2) dL_law_368 rfl (by omega) (by omega) rfl ?_
          refine tr_callV (pc := 369) (rest := [.int ans]) (ci := 10) dL_law_369 ll_52 cv_X10_may rfl rfl (Nat.le_of_ble_eq_true rfl) (hS2.1 50 (13, 45) rfl) rfl (by decide) (hm S2 h2 hC2.1 (hM.cf hF2)) ?_
          rintro _ _ h3 ⟨rfl, rfl, hM3, hF3⟩
          have hC3 := hC2.mf hF3
          show T a 21 mL_law 372 [(0, .ref a.2.2.2.1.1), (1, rv a 0), (2, rv a 50), (3, .int (nI j))] [.int ans, .int ans] S2 h3 _
          refine tr_icmp_eq (pc := 372) (tgt := 565) dL_law_372 (by decide) Iff.rfl (fun _ => ?_) (fun hcc => absurd (rfl) hcc)
          refine tr_iinc (pc := 565) (v := nI (j + 4)) (lv' := [(3, .int (nI (j + 4))), (0, .ref a.2.2.2.1.1), (1, rv a 0), (2, rv a 50)]) 3 dL_law_565 rfl (by rw [show Int32.ofInt 4 = nI 4 from by decide, nI_add]) (by decide) rfl ?_
          refine tr_goto (pc := 568) (tgt := 18) dL_law_568 (by decide) ?_
          refine tr_sub (pc := 18) (lv' := [(0, .ref a.2.2.2.1.1), (1, rv a 0), (2, rv a 50), (3, .int (nI (j + 4)))]) [1, 2, 3, 0] rfl ?_
          exact ih (j + 4) S2 h3 tx1 P1 past1 b1 n1 f1 (by omega) (by omega) hC3 hM3
        · skip
          show T a 21 mL_law 32 [(0, .ref a.2.2.2.1.1), (1, rv a 0), (2, rv a 50), (3, .int (nI j))] [.int (nI 9)] S1 h1 _
          refine tr_tabIn (pc := 32) (off := 345) (tgt := 377) dL_law_32 (by decide) (by decide) (by decide) (by decide) ?_
          refine tr_aload_n (pc := 377) 1 dL_law_377 rfl rfl ?_
          obtain ⟨ans, tx1, P1, past1, b1, n1, f1, hc, hm⟩ := pr_open (a := a)  hC
          refine tr_callV (pc := 378) (rest := []) (ci := 9) dL_law_378 ll_53 cv_X9_open rfl rfl (Nat.le_of_ble_eq_true rfl) (hS1.1 0 (12, 14) rfl) rfl (by decide) (hc) ?_
          rintro _ S2 h2 ⟨rfl, hC2, hF2⟩
          have hS2 := hC2.1
          show T a 21 mL_law 381 [(0, .ref a.2.2.2.1.1), (1, rv a 0), (2, rv a 50), (3, .int (nI j))] [.int ans] S2 h2 _
          refine tr_aload_n (pc := 381) 2 dL_law_381 rfl rfl ?_
          refine tr_callV (pc := 382) (rest := [.int ans]) (ci := 10) dL_law_382 ll_56 cv_X10_open rfl rfl (Nat.le_of_ble_eq_true rfl) (hS2.1 50 (13, 45) rfl) rfl (by decide) (hm S2 h2 hC2.1 (hM.cf hF2)) ?_
          rintro _ _ h3 ⟨rfl, rfl, hM3, hF3⟩
          have hC3 := hC2.mf hF3
          show T a 21 mL_law 385 [(0, .ref a.2.2.2.1.1), (1, rv a 0), (2, rv a 50), (3, .int (nI j))] [.int ans, .int ans] S2 h3 _
          refine tr_icmp_eq (pc := 385) (tgt := 565) dL_law_385 (by decide) Iff.rfl (fun _ => ?_) (fun hcc => absurd (rfl) hcc)
          refine tr_iinc (pc := 565) (v := nI (j + 4)) (lv' := [(3, .int (nI (j + 4))), (0, .ref a.2.2.2.1.1), (1, rv a 0), (2, rv a 50)]) 3 dL_law_565 rfl (by rw [show Int32.ofInt 4 = nI 4 from by decide, nI_add]) (by decide) rfl ?_
          refine tr_goto (pc := 568) (tgt := 18) dL_law_568 (by decide) ?_
          refine tr_sub (pc := 18) (lv' := [(0, .ref a.2.2.2.1.1), (1, rv a 0), (2, rv a 50), (3, .int (nI (j + 4)))]) [1, 2, 3, 0] rfl ?_
          exact ih (j + 4) S2 h3 tx1 P1 past1 b1 n1 f1 (by omega) (by omega) hC3 hM3
        · skip
          show T a 21 mL_law 32 [(0, .ref a.2.2.2.1.1), (1, rv a 0), (2, rv a 50), (3, .int (nI j))] [.int (nI 10)] S1 h1 _
          refine tr_tabIn (pc := 32) (off := 358) (tgt := 390) dL_law_32 (by decide) (by decide) (by decide) (by decide) ?_
          refine tr_aload_n (pc := 390) 1 dL_law_390 rfl rfl ?_
          refine tr_aload_nS (pc := 391) 0 dL_law_391 rfl rfl ?_
          refine tr_iload_n (pc := 392) 3 dL_law_392 rfl rfl ?_
          refine tr_iconst (pc := 393) (v := nI 1) dL_law_393 (by decide) ?_
          refine tr_iadd (pc := 394) (v := nI (j + 1)) dL_law_394 (nI_add _ _) ?_
          refine tr_sld (pc := 395) (v := a.2.2.2.1.2.2 (j + 1)) (j + 1) dL_law_395 rfl (by omega) (by omega) rfl ?_
          refine tr_aload_nS (pc := 396) 0 dL_law_396 rfl rfl ?_
          refine tr_iload_n (pc := 397) 3 dL_law_397 rfl rfl ?_
          refine tr_iconst (pc := 398) (v := nI 2) dL_law_398 (by decide) ?_
          refine tr_iadd (pc := 399) (v := nI (j + 2)) dL_law_399 (nI_add _ _) ?_
          refine tr_sld (pc := 400) (v := a.2.2.2.1.2.2 (j + 2)) (j + 2) dL_law_400 rfl (by omega) (by omega) rfl ?_
          obtain ⟨ans, tx1, P1, past1, b1, n1, f1, hc, hm⟩ := pr_reached (a := a) (x := a.2.2.2.1.2.2 (j + 1)) (y := a.2.2.2.1.2.2 (j + 2)) hC
          refine tr_callV (pc := 401) (rest := []) (ci := 9) dL_law_401 ll_57 cv_X9_reached rfl rfl (Nat.le_of_ble_eq_true rfl) (hS1.1 0 (12, 14) rfl) rfl (by decide) (hc) ?_
          rintro _ S2 h2 ⟨rfl, hC2, hF2⟩
          have hS2 := hC2.1
          show T a 21 mL_law 404 [(0, .ref a.2.2.2.1.1), (1, rv a 0), (2, rv a 50), (3, .int (nI j))] [.int ans] S2 h2 _
          refine tr_aload_n (pc := 404) 2 dL_law_404 rfl rfl ?_
          refine tr_aload_nS (pc := 405) 0 dL_law_405 rfl rfl ?_
          refine tr_iload_n (pc := 406) 3 dL_law_406 rfl rfl ?_
          refine tr_iconst (pc := 407) (v := nI 1) dL_law_407 (by decide) ?_
          refine tr_iadd (pc := 408) (v := nI (j + 1)) dL_law_408 (nI_add _ _) ?_
          refine tr_sld (pc := 409) (v := a.2.2.2.1.2.2 (j + 1)) (j + 1) dL_law_409 rfl (by omega) (by omega) rfl ?_
          refine tr_aload_nS (pc := 410) 0 dL_law_410 rfl rfl ?_
          refine tr_iload_n (pc := 411) 3 dL_law_411 rfl rfl ?_
          refine tr_iconst (pc := 412) (v := nI 2) dL_law_412 (by decide) ?_
          refine tr_iadd (pc := 413) (v := nI (j + 2)) dL_law_413 (nI_add _ _) ?_
          refine tr_sld (pc := 414) (v := a.2.2.2.1.2.2 (j + 2)) (j + 2) dL_law_414 rfl (by omega) (by omega) rfl ?_
          refine tr_callV (pc := 415) (rest := [.int ans]) (ci := 10) dL_law_415 ll_60 cv_X10_reached rfl rfl (Nat.le_of_ble_eq_true rfl) (hS2.1 50 (13, 45) rfl) rfl (by decide) (hm S2 h2 hC2.1 (hM.cf hF2)) ?_
          rintro _ _ h3 ⟨rfl, rfl, hM3, hF3⟩
          have hC3 := hC2.mf hF3
          show T a 21 mL_law 418 [(0, .ref a.2.2.2.1.1), (1, rv a 0), (2, rv a 50), (3, .int (nI j))] [.int ans, .int ans] S2 h3 _
          refine tr_icmp_eq (pc := 418) (tgt := 565) dL_law_418 (by decide) Iff.rfl (fun _ => ?_) (fun hcc => absurd (rfl) hcc)
          refine tr_iinc (pc := 565) (v := nI (j + 4)) (lv' := [(3, .int (nI (j + 4))), (0, .ref a.2.2.2.1.1), (1, rv a 0), (2, rv a 50)]) 3 dL_law_565 rfl (by rw [show Int32.ofInt 4 = nI 4 from by decide, nI_add]) (by decide) rfl ?_
          refine tr_goto (pc := 568) (tgt := 18) dL_law_568 (by decide) ?_
          refine tr_sub (pc := 18) (lv' := [(0, .ref a.2.2.2.1.1), (1, rv a 0), (2, rv a 50), (3, .int (nI (j + 4)))]) [1, 2, 3, 0] rfl ?_
          exact ih (j + 4) S2 h3 tx1 P1 past1 b1 n1 f1 (by omega) (by omega) hC3 hM3
        · skip
          show T a 21 mL_law 32 [(0, .ref a.2.2.2.1.1), (1, rv a 0), (2, rv a 50), (3, .int (nI j))] [.int (nI 11)] S1 h1 _
          refine tr_tabIn (pc := 32) (off := 391) (tgt := 423) dL_law_32 (by decide) (by decide) (by decide) (by decide) ?_
          refine tr_aload_n (pc := 423) 1 dL_law_423 rfl rfl ?_
          refine tr_aload_nS (pc := 424) 0 dL_law_424 rfl rfl ?_
          refine tr_iload_n (pc := 425) 3 dL_law_425 rfl rfl ?_
          refine tr_iconst (pc := 426) (v := nI 1) dL_law_426 (by decide) ?_
          refine tr_iadd (pc := 427) (v := nI (j + 1)) dL_law_427 (nI_add _ _) ?_
          refine tr_sld (pc := 428) (v := a.2.2.2.1.2.2 (j + 1)) (j + 1) dL_law_428 rfl (by omega) (by omega) rfl ?_
          obtain ⟨ans, tx1, P1, past1, b1, n1, f1, hc, hm⟩ := pr_fates (a := a) (x := a.2.2.2.1.2.2 (j + 1)) hC
          refine tr_callV (pc := 429) (rest := []) (ci := 9) dL_law_429 ll_61 cv_X9_fates rfl rfl (Nat.le_of_ble_eq_true rfl) (hS1.1 0 (12, 14) rfl) rfl (by decide) (hc) ?_
          rintro _ S2 h2 ⟨rfl, hC2, hF2⟩
          have hS2 := hC2.1
          show T a 21 mL_law 432 [(0, .ref a.2.2.2.1.1), (1, rv a 0), (2, rv a 50), (3, .int (nI j))] [.int ans] S2 h2 _
          refine tr_aload_n (pc := 432) 2 dL_law_432 rfl rfl ?_
          refine tr_aload_nS (pc := 433) 0 dL_law_433 rfl rfl ?_
          refine tr_iload_n (pc := 434) 3 dL_law_434 rfl rfl ?_
          refine tr_iconst (pc := 435) (v := nI 1) dL_law_435 (by decide) ?_
          refine tr_iadd (pc := 436) (v := nI (j + 1)) dL_law_436 (nI_add _ _) ?_
          refine tr_sld (pc := 437) (v := a.2.2.2.1.2.2 (j + 1)) (j + 1) dL_law_437 rfl (by omega) (by omega) rfl ?_
          refine tr_callV (pc := 438) (rest := [.int ans]) (ci := 10) dL_law_438 ll_64 cv_X10_fates rfl rfl (Nat.le_of_ble_eq_true rfl) (hS2.1 50 (13, 45) rfl) rfl (by decide) (hm S2 h2 hC2.1 (hM.cf hF2)) ?_
          rintro _ _ h3 ⟨rfl, rfl, hM3, hF3⟩
          have hC3 := hC2.mf hF3
          show T a 21 mL_law 441 [(0, .ref a.2.2.2.1.1), (1, rv a 0), (2, rv a 50), (3, .int (nI j))] [.int ans, .int ans] S2 h3 _
          refine tr_icmp_eq (pc := 441) (tgt := 565) dL_law_441 (by decide) Iff.rfl (fun _ => ?_) (fun hcc => absurd (rfl) hcc)
          refine tr_iinc (pc := 565) (v := nI (j + 4)) (lv' := [(3, .int (nI (j + 4))), (0, .ref a.2.2.2.1.1), (1, rv a 0), (2, rv a 50)]) 3 dL_law_565 rfl (by rw [show Int32.ofInt 4 = nI 4 from by decide, nI_add]) (by decide) rfl ?_
          refine tr_goto (pc := 568) (tgt := 18) dL_law_568 (by decide) ?_
          refine tr_sub (pc := 18) (lv' := [(0, .ref a.2.2.2.1.1), (1, rv a 0), (2, rv a 50), (3, .int (nI (j + 4)))]) [1, 2, 3, 0] rfl ?_
          exact ih (j + 4) S2 h3 tx1 P1 past1 b1 n1 f1 (by omega) (by omega) hC3 hM3
        · skip
          show T a 21 mL_law 32 [(0, .ref a.2.2.2.1.1), (1, rv a 0), (2, rv a 50), (3, .int (nI j))] [.int (nI 12)] S1 h1 _
          refine tr_tabIn (pc := 32) (off := 414) (tgt := 446) dL_law_32 (by decide) (by decide) (by decide) (by decide) ?_
          refine tr_aload_n (pc := 446) 1 dL_law_446 rfl rfl ?_
          refine tr_aload_nS (pc := 447) 0 dL_law_447 rfl rfl ?_
          refine tr_iload_n (pc := 448) 3 dL_law_448 rfl rfl ?_
          refine tr_iconst (pc := 449) (v := nI 1) dL_law_449 (by decide) ?_
          refine tr_iadd (pc := 450) (v := nI (j + 1)) dL_law_450 (nI_add _ _) ?_
          refine tr_sld (pc := 451) (v := a.2.2.2.1.2.2 (j + 1)) (j + 1) dL_law_451 rfl (by omega) (by omega) rfl ?_
          obtain ⟨ans, tx1, P1, past1, b1, n1, f1, hc, hm⟩ := pr_run (a := a) (x := a.2.2.2.1.2.2 (j + 1)) hC
          refine tr_callV (pc := 452) (rest := []) (ci := 9) dL_law_452 ll_65 cv_X9_run rfl rfl (Nat.le_of_ble_eq_true rfl) (hS1.1 0 (12, 14) rfl) rfl (by decide) (hc) ?_
          rintro _ S2 h2 ⟨rfl, hC2, hF2⟩
          have hS2 := hC2.1
          show T a 21 mL_law 455 [(0, .ref a.2.2.2.1.1), (1, rv a 0), (2, rv a 50), (3, .int (nI j))] [.int ans] S2 h2 _
          refine tr_aload_n (pc := 455) 2 dL_law_455 rfl rfl ?_
          refine tr_aload_nS (pc := 456) 0 dL_law_456 rfl rfl ?_
          refine tr_iload_n (pc := 457) 3 dL_law_457 rfl rfl ?_
          refine tr_iconst (pc := 458) (v := nI 1) dL_law_458 (by decide) ?_
          refine tr_iadd (pc := 459) (v := nI (j + 1)) dL_law_459 (nI_add _ _) ?_
          refine tr_sld (pc := 460) (v := a.2.2.2.1.2.2 (j + 1)) (j + 1) dL_law_460 rfl (by omega) (by omega) rfl ?_
          refine tr_callV (pc := 461) (rest := [.int ans]) (ci := 10) dL_law_461 ll_68 cv_X10_run rfl rfl (Nat.le_of_ble_eq_true rfl) (hS2.1 50 (13, 45) rfl) rfl (by decide) (hm S2 h2 hC2.1 (hM.cf hF2)) ?_
          rintro _ _ h3 ⟨rfl, rfl, hM3, hF3⟩
          have hC3 := hC2.mf hF3
          show T a 21 mL_law 464 [(0, .ref a.2.2.2.1.1), (1, rv a 0), (2, rv a 50), (3, .int (nI j))] [.int ans, .int ans] S2 h3 _
          refine tr_icmp_eq (pc := 464) (tgt := 565) dL_law_464 (by decide) Iff.rfl (fun _ => ?_) (fun hcc => absurd (rfl) hcc)
          refine tr_iinc (pc := 565) (v := nI (j + 4)) (lv' := [(3, .int (nI (j + 4))), (0, .ref a.2.2.2.1.1), (1, rv a 0), (2, rv a 50)]) 3 dL_law_565 rfl (by rw [show Int32.ofInt 4 = nI 4 from by decide, nI_add]) (by decide) rfl ?_
          refine tr_goto (pc := 568) (tgt := 18) dL_law_568 (by decide) ?_
          refine tr_sub (pc := 18) (lv' := [(0, .ref a.2.2.2.1.1), (1, rv a 0), (2, rv a 50), (3, .int (nI (j + 4)))]) [1, 2, 3, 0] rfl ?_
          exact ih (j + 4) S2 h3 tx1 P1 past1 b1 n1 f1 (by omega) (by omega) hC3 hM3
        · skip
          show T a 21 mL_law 32 [(0, .ref a.2.2.2.1.1), (1, rv a 0), (2, rv a 50), (3, .int (nI j))] [.int (nI 13)] S1 h1 _
          refine tr_tabIn (pc := 32) (off := 437) (tgt := 469) dL_law_32 (by decide) (by decide) (by decide) (by decide) ?_
          refine tr_aload_n (pc := 469) 1 dL_law_469 rfl rfl ?_
          refine tr_aload_nS (pc := 470) 0 dL_law_470 rfl rfl ?_
          refine tr_iload_n (pc := 471) 3 dL_law_471 rfl rfl ?_
          refine tr_iconst (pc := 472) (v := nI 1) dL_law_472 (by decide) ?_
          refine tr_iadd (pc := 473) (v := nI (j + 1)) dL_law_473 (nI_add _ _) ?_
          refine tr_sld (pc := 474) (v := a.2.2.2.1.2.2 (j + 1)) (j + 1) dL_law_474 rfl (by omega) (by omega) rfl ?_
          refine tr_aload_nS (pc := 475) 0 dL_law_475 rfl rfl ?_
          refine tr_iload_n (pc := 476) 3 dL_law_476 rfl rfl ?_
          refine tr_iconst (pc := 477) (v := nI 2) dL_law_477 (by decide) ?_
          refine tr_iadd (pc := 478) (v := nI (j + 2)) dL_law_478 (nI_add _ _) ?_
          refine tr_sld (pc := 479) (v := a.2.2.2.1.2.2 (j + 2)) (j + 2) dL_law_479 rfl (by omega) (by omega) rfl ?_
          obtain ⟨ans, tx1, P1, past1, b1, n1, f1, hc, hm⟩ := pr_ran (a := a) (x := a.2.2.2.1.2.2 (j + 1)) (y := a.2.2.2.1.2.2 (j + 2)) hC
          refine tr_callV (pc := 480) (rest := []) (ci := 9) dL_law_480 ll_69 cv_X9_ran rfl rfl (Nat.le_of_ble_eq_true rfl) (hS1.1 0 (12, 14) rfl) rfl (by decide) (hc) ?_
          rintro _ S2 h2 ⟨rfl, hC2, hF2⟩
          have hS2 := hC2.1
          show T a 21 mL_law 483 [(0, .ref a.2.2.2.1.1), (1, rv a 0), (2, rv a 50), (3, .int (nI j))] [.int ans] S2 h2 _
          refine tr_aload_n (pc := 483) 2 dL_law_483 rfl rfl ?_
          refine tr_aload_nS (pc := 484) 0 dL_law_484 rfl rfl ?_
          refine tr_iload_n (pc := 485) 3 dL_law_485 rfl rfl ?_
          refine tr_iconst (pc := 486) (v := nI 1) dL_law_486 (by decide) ?_
          refine tr_iadd (pc := 487) (v := nI (j + 1)) dL_law_487 (nI_add _ _) ?_
          refine tr_sld (pc := 488) (v := a.2.2.2.1.2.2 (j + 1)) (j + 1) dL_law_488 rfl (by omega) (by omega) rfl ?_
          refine tr_aload_nS (pc := 489) 0 dL_law_489 rfl rfl ?_
          refine tr_iload_n (pc := 490) 3 dL_law_490 rfl rfl ?_
          refine tr_iconst (pc := 491) (v := nI 2) dL_law_491 (by decide) ?_
          refine tr_iadd (pc := 492) (v := nI (j + 2)) dL_law_492 (nI_add _ _) ?_
          refine tr_sld (pc := 493) (v := a.2.2.2.1.2.2 (j + 2)) (j + 2) dL_law_493 rfl (by omega) (by omega) rfl ?_
          refine tr_callV (pc := 494) (rest := [.int ans]) (ci := 10) dL_law_494 ll_72 cv_X10_ran rfl rfl (Nat.le_of_ble_eq_true rfl) (hS2.1 50 (13, 45) rfl) rfl (by decide) (hm S2 h2 hC2.1 (hM.cf hF2)) ?_
          rintro _ _ h3 ⟨rfl, rfl, hM3, hF3⟩
          have hC3 := hC2.mf hF3
          show T a 21 mL_law 497 [(0, .ref a.2.2.2.1.1), (1, rv a 0), (2, rv a 50), (3, .int (nI j))] [.int ans, .int ans] S2 h3 _
          refine tr_icmp_eq (pc := 497) (tgt := 565) dL_law_497 (by decide) Iff.rfl (fun _ => ?_) (fun hcc => absurd (rfl) hcc)
          refine tr_iinc (pc := 565) (v := nI (j + 4)) (lv' := [(3, .int (nI (j + 4))), (0, .ref a.2.2.2.1.1), (1, rv a 0), (2, rv a 50)]) 3 dL_law_565 rfl (by rw [show Int32.ofInt 4 = nI 4 from by decide, nI_add]) (by decide) rfl ?_
          refine tr_goto (pc := 568) (tgt := 18) dL_law_568 (by decide) ?_
          refine tr_sub (pc := 18) (lv' := [(0, .ref a.2.2.2.1.1), (1, rv a 0), (2, rv a 50), (3, .int (nI (j + 4)))]) [1, 2, 3, 0] rfl ?_
          exact ih (j + 4) S2 h3 tx1 P1 past1 b1 n1 f1 (by omega) (by omega) hC3 hM3
        · skip
          show T a 21 mL_law 32 [(0, .ref a.2.2.2.1.1), (1, rv a 0), (2, rv a 50), (3, .int (nI j))] [.int (nI 14)] S1 h1 _
          refine tr_tabIn (pc := 32) (off := 470) (tgt := 502) dL_law_32 (by decide) (by decide) (by decide) (by decide) ?_
          refine tr_aload_n (pc := 502) 1 dL_law_502 rfl rfl ?_
          obtain ⟨ans, tx1, P1, past1, b1, n1, f1, hc, hm⟩ := pr_held (a := a)  hC
          refine tr_callV (pc := 503) (rest := []) (ci := 9) dL_law_503 ll_73 cv_X9_held rfl rfl (Nat.le_of_ble_eq_true rfl) (hS1.1 0 (12, 14) rfl) rfl (by decide) (hc) ?_
          rintro _ S2 h2 ⟨rfl, hC2, hF2⟩
          have hS2 := hC2.1
          show T a 21 mL_law 506 [(0, .ref a.2.2.2.1.1), (1, rv a 0), (2, rv a 50), (3, .int (nI j))] [.int ans] S2 h2 _
          refine tr_aload_n (pc := 506) 2 dL_law_506 rfl rfl ?_
          refine tr_callV (pc := 507) (rest := [.int ans]) (ci := 10) dL_law_507 ll_76 cv_X10_held rfl rfl (Nat.le_of_ble_eq_true rfl) (hS2.1 50 (13, 45) rfl) rfl (by decide) (hm S2 h2 hC2.1 (hM.cf hF2)) ?_
          rintro _ _ h3 ⟨rfl, rfl, hM3, hF3⟩
          have hC3 := hC2.mf hF3
          show T a 21 mL_law 510 [(0, .ref a.2.2.2.1.1), (1, rv a 0), (2, rv a 50), (3, .int (nI j))] [.int ans, .int ans] S2 h3 _
          refine tr_icmp_eq (pc := 510) (tgt := 565) dL_law_510 (by decide) Iff.rfl (fun _ => ?_) (fun hcc => absurd (rfl) hcc)
          refine tr_iinc (pc := 565) (v := nI (j + 4)) (lv' := [(3, .int (nI (j + 4))), (0, .ref a.2.2.2.1.1), (1, rv a 0), (2, rv a 50)]) 3 dL_law_565 rfl (by rw [show Int32.ofInt 4 = nI 4 from by decide, nI_add]) (by decide) rfl ?_
          refine tr_goto (pc := 568) (tgt := 18) dL_law_568 (by decide) ?_
          refine tr_sub (pc := 18) (lv' := [(0, .ref a.2.2.2.1.1), (1, rv a 0), (2, rv a 50), (3, .int (nI (j + 4)))]) [1, 2, 3, 0] rfl ?_
          exact ih (j + 4) S2 h3 tx1 P1 past1 b1 n1 f1 (by omega) (by omega) hC3 hM3
        · skip
          show T a 21 mL_law 32 [(0, .ref a.2.2.2.1.1), (1, rv a 0), (2, rv a 50), (3, .int (nI j))] [.int (nI 15)] S1 h1 _
          refine tr_tabIn (pc := 32) (off := 483) (tgt := 515) dL_law_32 (by decide) (by decide) (by decide) (by decide) ?_
          refine tr_aload_n (pc := 515) 1 dL_law_515 rfl rfl ?_
          obtain ⟨ans, tx1, P1, past1, b1, n1, f1, hc, hm⟩ := pr_back (a := a)  hC
          refine tr_callV (pc := 516) (rest := []) (ci := 9) dL_law_516 ll_77 cv_X9_back rfl rfl (Nat.le_of_ble_eq_true rfl) (hS1.1 0 (12, 14) rfl) rfl (by decide) (hc) ?_
          rintro _ S2 h2 ⟨rfl, hC2, hF2⟩
          have hS2 := hC2.1
          show T a 21 mL_law 519 [(0, .ref a.2.2.2.1.1), (1, rv a 0), (2, rv a 50), (3, .int (nI j))] [.int ans] S2 h2 _
          refine tr_aload_n (pc := 519) 2 dL_law_519 rfl rfl ?_
          refine tr_callV (pc := 520) (rest := [.int ans]) (ci := 10) dL_law_520 ll_80 cv_X10_back rfl rfl (Nat.le_of_ble_eq_true rfl) (hS2.1 50 (13, 45) rfl) rfl (by decide) (hm S2 h2 hC2.1 (hM.cf hF2)) ?_
          rintro _ _ h3 ⟨rfl, rfl, hM3, hF3⟩
          have hC3 := hC2.mf hF3
          show T a 21 mL_law 523 [(0, .ref a.2.2.2.1.1), (1, rv a 0), (2, rv a 50), (3, .int (nI j))] [.int ans, .int ans] S2 h3 _
          refine tr_icmp_eq (pc := 523) (tgt := 565) dL_law_523 (by decide) Iff.rfl (fun _ => ?_) (fun hcc => absurd (rfl) hcc)
          refine tr_iinc (pc := 565) (v := nI (j + 4)) (lv' := [(3, .int (nI (j + 4))), (0, .ref a.2.2.2.1.1), (1, rv a 0), (2, rv a 50)]) 3 dL_law_565 rfl (by rw [show Int32.ofInt 4 = nI 4 from by decide, nI_add]) (by decide) rfl ?_
          refine tr_goto (pc := 568) (tgt := 18) dL_law_568 (by decide) ?_
          refine tr_sub (pc := 18) (lv' := [(0, .ref a.2.2.2.1.1), (1, rv a 0), (2, rv a 50), (3, .int (nI (j + 4)))]) [1, 2, 3, 0] rfl ?_
          exact ih (j + 4) S2 h3 tx1 P1 past1 b1 n1 f1 (by omega) (by omega) hC3 hM3
        · skip
          show T a 21 mL_law 32 [(0, .ref a.2.2.2.1.1), (1, rv a 0), (2, rv a 50), (3, .int (nI j))] [.int (nI 16)] S1 h1 _
          refine tr_tabIn (pc := 32) (off := 496) (tgt := 528) dL_law_32 (by decide) (by decide) (by decide) (by decide) ?_
          refine tr_aload_n (pc := 528) 1 dL_law_528 rfl rfl ?_
          refine tr_aload_nS (pc := 529) 0 dL_law_529 rfl rfl ?_
          refine tr_iload_n (pc := 530) 3 dL_law_530 rfl rfl ?_
          refine tr_iconst (pc := 531) (v := nI 1) dL_law_531 (by decide) ?_
          refine tr_iadd (pc := 532) (v := nI (j + 1)) dL_law_532 (nI_add _ _) ?_
          refine tr_sld (pc := 533) (v := a.2.2.2.1.2.2 (j + 1)) (j + 1) dL_law_533 rfl (by omega) (by omega) rfl ?_
          obtain ⟨ans, tx1, P1, past1, b1, n1, f1, hc, hm⟩ := pr_told (a := a) (x := a.2.2.2.1.2.2 (j + 1)) hC
          refine tr_callV (pc := 534) (rest := []) (ci := 9) dL_law_534 ll_81 cv_X9_told rfl rfl (Nat.le_of_ble_eq_true rfl) (hS1.1 0 (12, 14) rfl) rfl (by decide) (hc) ?_
          rintro _ S2 h2 ⟨rfl, hC2, hF2⟩
          have hS2 := hC2.1
          show T a 21 mL_law 537 [(0, .ref a.2.2.2.1.1), (1, rv a 0), (2, rv a 50), (3, .int (nI j))] [.int ans] S2 h2 _
          refine tr_aload_n (pc := 537) 2 dL_law_537 rfl rfl ?_
          refine tr_aload_nS (pc := 538) 0 dL_law_538 rfl rfl ?_
          refine tr_iload_n (pc := 539) 3 dL_law_539 rfl rfl ?_
          refine tr_iconst (pc := 540) (v := nI 1) dL_law_540 (by decide) ?_
          refine tr_iadd (pc := 541) (v := nI (j + 1)) dL_law_541 (nI_add _ _) ?_
          refine tr_sld (pc := 542) (v := a.2.2.2.1.2.2 (j + 1)) (j + 1) dL_law_542 rfl (by omega) (by omega) rfl ?_
          refine tr_callV (pc := 543) (rest := [.int ans]) (ci := 10) dL_law_543 ll_84 cv_X10_told rfl rfl (Nat.le_of_ble_eq_true rfl) (hS2.1 50 (13, 45) rfl) rfl (by decide) (hm S2 h2 hC2.1 (hM.cf hF2)) ?_
          rintro _ _ h3 ⟨rfl, rfl, hM3, hF3⟩
          have hC3 := hC2.mf hF3
          show T a 21 mL_law 546 [(0, .ref a.2.2.2.1.1), (1, rv a 0), (2, rv a 50), (3, .int (nI j))] [.int ans, .int ans] S2 h3 _
          refine tr_icmp_eq (pc := 546) (tgt := 565) dL_law_546 (by decide) Iff.rfl (fun _ => ?_) (fun hcc => absurd (rfl) hcc)
          refine tr_iinc (pc := 565) (v := nI (j + 4)) (lv' := [(3, .int (nI (j + 4))), (0, .ref a.2.2.2.1.1), (1, rv a 0), (2, rv a 50)]) 3 dL_law_565 rfl (by rw [show Int32.ofInt 4 = nI 4 from by decide, nI_add]) (by decide) rfl ?_
          refine tr_goto (pc := 568) (tgt := 18) dL_law_568 (by decide) ?_
          refine tr_sub (pc := 18) (lv' := [(0, .ref a.2.2.2.1.1), (1, rv a 0), (2, rv a 50), (3, .int (nI (j + 4)))]) [1, 2, 3, 0] rfl ?_
          exact ih (j + 4) S2 h3 tx1 P1 past1 b1 n1 f1 (by omega) (by omega) hC3 hM3
        · skip
          show T a 21 mL_law 32 [(0, .ref a.2.2.2.1.1), (1, rv a 0), (2, rv a 50), (3, .int (nI j))] [.int (nI 17)] S1 h1 _
          refine tr_tabIn (pc := 32) (off := 519) (tgt := 551) dL_law_32 (by decide) (by decide) (by decide) (by decide) ?_
          refine tr_aload_n (pc := 551) 1 dL_law_551 rfl rfl ?_
          obtain ⟨hc, hm⟩ := pr_digest (a := a) hC
          refine tr_callV (pc := 552) (rest := []) (ci := 9) dL_law_552 ll_85 cv_X9_digest rfl rfl (Nat.le_of_ble_eq_true rfl) (hS1.1 0 (12, 14) rfl) rfl (by decide) (hc) ?_
          rintro _ S2 h2 ⟨rfl, hC2, hF2⟩
          have hS2 := hC2.1
          show T a 21 mL_law 555 [(0, .ref a.2.2.2.1.1), (1, rv a 0), (2, rv a 50), (3, .int (nI j))] [.long (dA tx P past b n f)] S2 h2 _
          refine tr_aload_n (pc := 555) 2 dL_law_555 rfl rfl ?_
          refine tr_callV (pc := 556) (rest := [.long (dA tx P past b n f)]) (ci := 10) dL_law_556 ll_89 cv_X10_digest rfl rfl (Nat.le_of_ble_eq_true rfl) (hS2.1 50 (13, 45) rfl) rfl (by decide) (hm S2 h2 hC2.1 (hM.cf hF2)) ?_
          rintro _ _ h3 ⟨rfl, rfl, hM3, hF3⟩
          have hC3 := hC2.mf hF3
          show T a 21 mL_law 559 [(0, .ref a.2.2.2.1.1), (1, rv a 0), (2, rv a 50), (3, .int (nI j))] [.long (dA tx P past b n f), .long (dA tx P past b n f)] S2 h3 _
          refine tr_lcmp (pc := 559) dL_law_559 ?_
          refine tr_if_eq (pc := 560) (tgt := 565) dL_law_560 (by decide) Iff.rfl (fun _ => ?_) (fun hcc => absurd (lcmp_self) hcc)
          refine tr_iinc (pc := 565) (v := nI (j + 4)) (lv' := [(3, .int (nI (j + 4))), (0, .ref a.2.2.2.1.1), (1, rv a 0), (2, rv a 50)]) 3 dL_law_565 rfl (by rw [show Int32.ofInt 4 = nI 4 from by decide, nI_add]) (by decide) rfl ?_
          refine tr_goto (pc := 568) (tgt := 18) dL_law_568 (by decide) ?_
          refine tr_sub (pc := 18) (lv' := [(0, .ref a.2.2.2.1.1), (1, rv a 0), (2, rv a 50), (3, .int (nI (j + 4)))]) [1, 2, 3, 0] rfl ?_
          exact ih (j + 4) S2 h3 tx P past b n f (by omega) (by omega) hC3 hM3
        · skip
          show T a 21 mL_law 32 [(0, .ref a.2.2.2.1.1), (1, rv a 0), (2, rv a 50), (3, .int (nI j))] [.int (nI 18)] S1 h1 _
          refine tr_tabOut (pc := 32) (tgt := 565) dL_law_32 (by decide) (by decide) ?_
          refine tr_iinc (pc := 565) (v := nI (j + 4)) (lv' := [(3, .int (nI (j + 4))), (0, .ref a.2.2.2.1.1), (1, rv a 0), (2, rv a 50)]) 3 dL_law_565 rfl (by rw [show Int32.ofInt 4 = nI 4 from by decide, nI_add]) (by decide) rfl ?_
          refine tr_goto (pc := 568) (tgt := 18) dL_law_568 (by decide) ?_
          refine tr_sub (pc := 18) (lv' := [(0, .ref a.2.2.2.1.1), (1, rv a 0), (2, rv a 50), (3, .int (nI (j + 4)))]) [1, 2, 3, 0] rfl ?_
          exact ih (j + 4) S1 h1 tx P past b n f (by omega) (by omega) hC hM
        · skip
          show T a 21 mL_law 32 [(0, .ref a.2.2.2.1.1), (1, rv a 0), (2, rv a 50), (3, .int (nI j))] [.int (nI 19)] S1 h1 _
          refine tr_tabOut (pc := 32) (tgt := 565) dL_law_32 (by decide) (by decide) ?_
          refine tr_iinc (pc := 565) (v := nI (j + 4)) (lv' := [(3, .int (nI (j + 4))), (0, .ref a.2.2.2.1.1), (1, rv a 0), (2, rv a 50)]) 3 dL_law_565 rfl (by rw [show Int32.ofInt 4 = nI 4 from by decide, nI_add]) (by decide) rfl ?_
          refine tr_goto (pc := 568) (tgt := 18) dL_law_568 (by decide) ?_
          refine tr_sub (pc := 18) (lv' := [(0, .ref a.2.2.2.1.1), (1, rv a 0), (2, rv a 50), (3, .int (nI (j + 4)))]) [1, 2, 3, 0] rfl ?_
          exact ih (j + 4) S1 h1 tx P past b n f (by omega) (by omega) hC hM
        · skip
          show T a 21 mL_law 32 [(0, .ref a.2.2.2.1.1), (1, rv a 0), (2, rv a 50), (3, .int (nI j))] [.int (nI 20)] S1 h1 _
          refine tr_tabOut (pc := 32) (tgt := 565) dL_law_32 (by decide) (by decide) ?_
          refine tr_iinc (pc := 565) (v := nI (j + 4)) (lv' := [(3, .int (nI (j + 4))), (0, .ref a.2.2.2.1.1), (1, rv a 0), (2, rv a 50)]) 3 dL_law_565 rfl (by rw [show Int32.ofInt 4 = nI 4 from by decide, nI_add]) (by decide) rfl ?_
          refine tr_goto (pc := 568) (tgt := 18) dL_law_568 (by decide) ?_
          refine tr_sub (pc := 18) (lv' := [(0, .ref a.2.2.2.1.1), (1, rv a 0), (2, rv a 50), (3, .int (nI (j + 4)))]) [1, 2, 3, 0] rfl ?_
          exact ih (j + 4) S1 h1 tx P past b n f (by omega) (by omega) hC hM
        · skip
          show T a 21 mL_law 32 [(0, .ref a.2.2.2.1.1), (1, rv a 0), (2, rv a 50), (3, .int (nI j))] [.int (nI 21)] S1 h1 _
          refine tr_tabOut (pc := 32) (tgt := 565) dL_law_32 (by decide) (by decide) ?_
          refine tr_iinc (pc := 565) (v := nI (j + 4)) (lv' := [(3, .int (nI (j + 4))), (0, .ref a.2.2.2.1.1), (1, rv a 0), (2, rv a 50)]) 3 dL_law_565 rfl (by rw [show Int32.ofInt 4 = nI 4 from by decide, nI_add]) (by decide) rfl ?_
          refine tr_goto (pc := 568) (tgt := 18) dL_law_568 (by decide) ?_
          refine tr_sub (pc := 18) (lv' := [(0, .ref a.2.2.2.1.1), (1, rv a 0), (2, rv a 50), (3, .int (nI (j + 4)))]) [1, 2, 3, 0] rfl ?_
          exact ih (j + 4) S1 h1 tx P past b n f (by omega) (by omega) hC hM
        · skip
          show T a 21 mL_law 32 [(0, .ref a.2.2.2.1.1), (1, rv a 0), (2, rv a 50), (3, .int (nI j))] [.int (nI 22)] S1 h1 _
          refine tr_tabOut (pc := 32) (tgt := 565) dL_law_32 (by decide) (by decide) ?_
          refine tr_iinc (pc := 565) (v := nI (j + 4)) (lv' := [(3, .int (nI (j + 4))), (0, .ref a.2.2.2.1.1), (1, rv a 0), (2, rv a 50)]) 3 dL_law_565 rfl (by rw [show Int32.ofInt 4 = nI 4 from by decide, nI_add]) (by decide) rfl ?_
          refine tr_goto (pc := 568) (tgt := 18) dL_law_568 (by decide) ?_
          refine tr_sub (pc := 18) (lv' := [(0, .ref a.2.2.2.1.1), (1, rv a 0), (2, rv a 50), (3, .int (nI (j + 4)))]) [1, 2, 3, 0] rfl ?_
          exact ih (j + 4) S1 h1 tx P past b n f (by omega) (by omega) hC hM
        · skip
          show T a 21 mL_law 32 [(0, .ref a.2.2.2.1.1), (1, rv a 0), (2, rv a 50), (3, .int (nI j))] [.int (nI 23)] S1 h1 _
          refine tr_tabOut (pc := 32) (tgt := 565) dL_law_32 (by decide) (by decide) ?_
          refine tr_iinc (pc := 565) (v := nI (j + 4)) (lv' := [(3, .int (nI (j + 4))), (0, .ref a.2.2.2.1.1), (1, rv a 0), (2, rv a 50)]) 3 dL_law_565 rfl (by rw [show Int32.ofInt 4 = nI 4 from by decide, nI_add]) (by decide) rfl ?_
          refine tr_goto (pc := 568) (tgt := 18) dL_law_568 (by decide) ?_
          refine tr_sub (pc := 18) (lv' := [(0, .ref a.2.2.2.1.1), (1, rv a 0), (2, rv a 50), (3, .int (nI (j + 4)))]) [1, 2, 3, 0] rfl ?_
          exact ih (j + 4) S1 h1 tx P past b n f (by omega) (by omega) hC hM
        · skip
          show T a 21 mL_law 32 [(0, .ref a.2.2.2.1.1), (1, rv a 0), (2, rv a 50), (3, .int (nI j))] [.int (nI 24)] S1 h1 _
          refine tr_tabOut (pc := 32) (tgt := 565) dL_law_32 (by decide) (by decide) ?_
          refine tr_iinc (pc := 565) (v := nI (j + 4)) (lv' := [(3, .int (nI (j + 4))), (0, .ref a.2.2.2.1.1), (1, rv a 0), (2, rv a 50)]) 3 dL_law_565 rfl (by rw [show Int32.ofInt 4 = nI 4 from by decide, nI_add]) (by decide) rfl ?_
          refine tr_goto (pc := 568) (tgt := 18) dL_law_568 (by decide) ?_
          refine tr_sub (pc := 18) (lv' := [(0, .ref a.2.2.2.1.1), (1, rv a 0), (2, rv a 50), (3, .int (nI (j + 4)))]) [1, 2, 3, 0] rfl ?_
          exact ih (j + 4) S1 h1 tx P past b n f (by omega) (by omega) hC hM
        · skip
          show T a 21 mL_law 32 [(0, .ref a.2.2.2.1.1), (1, rv a 0), (2, rv a 50), (3, .int (nI j))] [.int (nI 25)] S1 h1 _
          refine tr_tabOut (pc := 32) (tgt := 565) dL_law_32 (by decide) (by decide) ?_
          refine tr_iinc (pc := 565) (v := nI (j + 4)) (lv' := [(3, .int (nI (j + 4))), (0, .ref a.2.2.2.1.1), (1, rv a 0), (2, rv a 50)]) 3 dL_law_565 rfl (by rw [show Int32.ofInt 4 = nI 4 from by decide, nI_add]) (by decide) rfl ?_
          refine tr_goto (pc := 568) (tgt := 18) dL_law_568 (by decide) ?_
          refine tr_sub (pc := 18) (lv' := [(0, .ref a.2.2.2.1.1), (1, rv a 0), (2, rv a 50), (3, .int (nI (j + 4)))]) [1, 2, 3, 0] rfl ?_
          exact ih (j + 4) S1 h1 tx P past b n f (by omega) (by omega) hC hM
        · skip
          show T a 21 mL_law 32 [(0, .ref a.2.2.2.1.1), (1, rv a 0), (2, rv a 50), (3, .int (nI j))] [.int (nI 26)] S1 h1 _
          refine tr_tabOut (pc := 32) (tgt := 565) dL_law_32 (by decide) (by decide) ?_
          refine tr_iinc (pc := 565) (v := nI (j + 4)) (lv' := [(3, .int (nI (j + 4))), (0, .ref a.2.2.2.1.1), (1, rv a 0), (2, rv a 50)]) 3 dL_law_565 rfl (by rw [show Int32.ofInt 4 = nI 4 from by decide, nI_add]) (by decide) rfl ?_
          refine tr_goto (pc := 568) (tgt := 18) dL_law_568 (by decide) ?_
          refine tr_sub (pc := 18) (lv' := [(0, .ref a.2.2.2.1.1), (1, rv a 0), (2, rv a 50), (3, .int (nI (j + 4)))]) [1, 2, 3, 0] rfl ?_
          exact ih (j + 4) S1 h1 tx P past b n f (by omega) (by omega) hC hM
        · skip
          show T a 21 mL_law 32 [(0, .ref a.2.2.2.1.1), (1, rv a 0), (2, rv a 50), (3, .int (nI j))] [.int (nI 27)] S1 h1 _
          refine tr_tabOut (pc := 32) (tgt := 565) dL_law_32 (by decide) (by decide) ?_
          refine tr_iinc (pc := 565) (v := nI (j + 4)) (lv' := [(3, .int (nI (j + 4))), (0, .ref a.2.2.2.1.1), (1, rv a 0), (2, rv a 50)]) 3 dL_law_565 rfl (by rw [show Int32.ofInt 4 = nI 4 from by decide, nI_add]) (by decide) rfl ?_
          refine tr_goto (pc := 568) (tgt := 18) dL_law_568 (by decide) ?_
          refine tr_sub (pc := 18) (lv' := [(0, .ref a.2.2.2.1.1), (1, rv a 0), (2, rv a 50), (3, .int (nI (j + 4)))]) [1, 2, 3, 0] rfl ?_
          exact ih (j + 4) S1 h1 tx P past b n f (by omega) (by omega) hC hM
        · skip
          show T a 21 mL_law 32 [(0, .ref a.2.2.2.1.1), (1, rv a 0), (2, rv a 50), (3, .int (nI j))] [.int (nI 28)] S1 h1 _
          refine tr_tabOut (pc := 32) (tgt := 565) dL_law_32 (by decide) (by decide) ?_
          refine tr_iinc (pc := 565) (v := nI (j + 4)) (lv' := [(3, .int (nI (j + 4))), (0, .ref a.2.2.2.1.1), (1, rv a 0), (2, rv a 50)]) 3 dL_law_565 rfl (by rw [show Int32.ofInt 4 = nI 4 from by decide, nI_add]) (by decide) rfl ?_
          refine tr_goto (pc := 568) (tgt := 18) dL_law_568 (by decide) ?_
          refine tr_sub (pc := 18) (lv' := [(0, .ref a.2.2.2.1.1), (1, rv a 0), (2, rv a 50), (3, .int (nI (j + 4)))]) [1, 2, 3, 0] rfl ?_
          exact ih (j + 4) S1 h1 tx P past b n f (by omega) (by omega) hC hM
        · skip
          show T a 21 mL_law 32 [(0, .ref a.2.2.2.1.1), (1, rv a 0), (2, rv a 50), (3, .int (nI j))] [.int (nI 29)] S1 h1 _
          refine tr_tabOut (pc := 32) (tgt := 565) dL_law_32 (by decide) (by decide) ?_
          refine tr_iinc (pc := 565) (v := nI (j + 4)) (lv' := [(3, .int (nI (j + 4))), (0, .ref a.2.2.2.1.1), (1, rv a 0), (2, rv a 50)]) 3 dL_law_565 rfl (by rw [show Int32.ofInt 4 = nI 4 from by decide, nI_add]) (by decide) rfl ?_
          refine tr_goto (pc := 568) (tgt := 18) dL_law_568 (by decide) ?_
          refine tr_sub (pc := 18) (lv' := [(0, .ref a.2.2.2.1.1), (1, rv a 0), (2, rv a 50), (3, .int (nI (j + 4)))]) [1, 2, 3, 0] rfl ?_
          exact ih (j + 4) S1 h1 tx P past b n f (by omega) (by omega) hC hM
        · skip
          show T a 21 mL_law 32 [(0, .ref a.2.2.2.1.1), (1, rv a 0), (2, rv a 50), (3, .int (nI j))] [.int (nI 30)] S1 h1 _
          refine tr_tabOut (pc := 32) (tgt := 565) dL_law_32 (by decide) (by decide) ?_
          refine tr_iinc (pc := 565) (v := nI (j + 4)) (lv' := [(3, .int (nI (j + 4))), (0, .ref a.2.2.2.1.1), (1, rv a 0), (2, rv a 50)]) 3 dL_law_565 rfl (by rw [show Int32.ofInt 4 = nI 4 from by decide, nI_add]) (by decide) rfl ?_
          refine tr_goto (pc := 568) (tgt := 18) dL_law_568 (by decide) ?_
          refine tr_sub (pc := 18) (lv' := [(0, .ref a.2.2.2.1.1), (1, rv a 0), (2, rv a 50), (3, .int (nI (j + 4)))]) [1, 2, 3, 0] rfl ?_
          exact ih (j + 4) S1 h1 tx P past b n f (by omega) (by omega) hC hM
        · skip
          show T a 21 mL_law 32 [(0, .ref a.2.2.2.1.1), (1, rv a 0), (2, rv a 50), (3, .int (nI j))] [.int (nI 31)] S1 h1 _
          refine tr_tabOut (pc := 32) (tgt := 565) dL_law_32 (by decide) (by decide) ?_
          refine tr_iinc (pc := 565) (v := nI (j + 4)) (lv' := [(3, .int (nI (j + 4))), (0, .ref a.2.2.2.1.1), (1, rv a 0), (2, rv a 50)]) 3 dL_law_565 rfl (by rw [show Int32.ofInt 4 = nI 4 from by decide, nI_add]) (by decide) rfl ?_
          refine tr_goto (pc := 568) (tgt := 18) dL_law_568 (by decide) ?_
          refine tr_sub (pc := 18) (lv' := [(0, .ref a.2.2.2.1.1), (1, rv a 0), (2, rv a 50), (3, .int (nI (j + 4)))]) [1, 2, 3, 0] rfl ?_
          exact ih (j + 4) S1 h1 tx P past b n f (by omega) (by omega) hC hM
  exact L18 (a.2.2.2.1.2.1 + 1) 0 (shp.take 76, gI) hI [] [] [] 0 0 0 (by omega) (by omega) ks_I km_I