theorem runL_stop {cal : Nat → OT → RS → CR} {P : Prog} {m c : Nat} {R : RS} {E : Nat → OT} {i : Nat} (h : (runL cal P m c R E i).2.2 = true) : ∀ j, runL cal P m c R E (i + j) = runL cal P m c R E i := by
  intro j
  induction j with
  | zero => rfl
  | succ j ih =>
    show (if (runL cal P m c R E (i + j)).2.2 = true then runL cal P m c R E (i + j) else _) = _
    rw [ih, if_pos h]
theorem runL_s {cal : Nat → OT → RS → CR} {P : Prog} {m c : Nat} {R : RS} {E : Nat → OT} {i : Nat} (h : (runL cal P m c R E i).2.2 = false) : runL cal P m c R E (i + 1) = doL cal P m c i (runL cal P m c R E i).1 (runL cal P m c R E i).2.1 := by
  show (if (runL cal P m c R E i).2.2 = true then _ else _) = _
  rw [h]
  rfl
theorem th_call {h : Hp} {q : Nat} {R : RS} (hT : TH h q R false) (hq : q = 43 ∨ 76 ≤ q) : TH (hs h 41 (upd (h 41) 13 (nI (R.1 3 + 1)))) q (rCall R) false := by
  obtain ⟨⟨t9, t10, t11, t12, t13, t14, t4⟩, tt, ts⟩ := hT
  have s1 : (rCall R).1 1 = R.1 1 := by simp [rCall, un]
  have s2 : (rCall R).1 2 = R.1 2 := by simp [rCall, un]
  have s4 : (rCall R).1 4 = R.1 4 := by simp [rCall, un]
  unfold TH
  rw [rc_0, rc_3, s1, s2, s4, hs_same, hs_ne (show q ≠ 41 by omega), hs_ne (show q + 1 ≠ 41 by omega), hs_ne (show q + 2 ≠ 41 by omega), hs_ne (by decide), hs_ne (by decide), hs_ne (by decide)]
  exact ⟨⟨t9, t10, t11, t12, upd_s, t14, t4⟩, tt, ts⟩
theorem af_call {S : St} {h : Hp} {q cap b c0 : Nat} {R : RS} (hQ : TQ S q cap) (hn : R.1 0 ≤ cap) (hT : TH h q R false) : AfC S h q R b c0 (rCall R) false S (hs h 41 (upd (h 41) 13 (nI (R.1 3 + 1)))) := by
  have hq := hQ.2.2.1
  exact ⟨q, cap, hQ, by rw [rc_0]; exact hn, th_call hT hq, Sg.rf, fun j _ => by rw [hs_ne (by decide)], by rw [hs_ne (by omega)]; exact SnK.same (rc_0 R) (by rw [rc_3]; omega) (fun _ _ => rfl), Ft.rf.set (Or.inl (by decide))⟩
theorem exM_s {P : Prog} {k m : Nat} {g : OT} {R : RS} {Z : LnS} (hZ : runL (exM P k) P m (R.1 3) (rCall R) (E0 g) (lnN P m) = Z) : exM P (k + 1) m g R = if Z.2.2 = true then (Z.1, Z.2.1 3, true) else (rLeak Z.1 (R.1 3) g (Z.2.1 3), Z.2.1 3, false) := by
  subst hZ
  rfl
set_option maxHeartbeats 4000000 in
set_option maxRecDepth 100000 in
theorem c_callMethod_s {a : Am} {S : St} {h : Hp} (hS : IsSt S) {k : Nat} (hK : CSpec a k) {P : Prog} (hVP : VP P) (hMP : MP h 3 P) (hFn : Fnd h P) {q cap : Nat} (hQ : TQ S q cap) {R : RS} (hT : TH h q R false) (hW : WF P R) (hn : R.1 0 ≤ cap) {g : OT} (hg : okT (R.1 0) g) {m : Nat} (hm : m < P.length) (hmk : 4 ≤ m + (k + 1)) (hb1 : R.1 0 + 8 ^ (k + 1) ≤ 4096) (hb2 : R.1 3 + cB (k + 1) ≤ 1000000) (hsn : SnB R (h (q + 3))) : CT a (3 * (k + 1) + 4) mX8_callMethod [rv a 41, .int (nI m), .int (tv g)] S h (fun v S' h' => (∃ w, v = some (.int w) ∧ ((exM P (k + 1) m g R).2.2 = false → w = tv (exM P (k + 1) m g R).2.1)) ∧ AfC S h q R (m * 4) (R.1 3) (exM P (k + 1) m g R).1 (exM P (k + 1) m g R).2.2 S' h') := by
  obtain ⟨⟨r5, r6, r7, r8⟩, ⟨z0, z1, z2, z3⟩, hq, hc1, hc2, hlev⟩ := id hQ
  obtain ⟨hV, hVC⟩ := id hVP
  obtain ⟨hV1, hV2, hV3⟩ := id hV
  have h8 := hV2 m
  have hO := mo_3 hS
  refine met_of (by decide +kernel) (Nat.le_of_ble_eq_true rfl) ?_
  show T a (3 * (k + 1) + 4) mX8_callMethod 0 [(0, rv a 41), (1, .int (nI m)), (2, .int (tv g))] [] S h _
  refine tr_aload_n (pc := 0) 0 dX8_callMethod_0 rfl rfl ?_
  refine tr_getR (pc := 1) (q := 3) dX8_callMethod_1 (hS.1 41 (11, 18) rfl) fi_X8_40 rfl (hS.2 41 0 3 rfl) ?_
  refine tr_iload_n (pc := 4) 1 dX8_callMethod_4 rfl rfl ?_
  refine tr_callV (pc := 5) (rest := []) (ci := 2) dX8_callMethod_5 ml_X8_85 cv_X2_has rfl rfl (Nat.le_of_ble_eq_true rfl) (hS.1 3 (5, 3) rfl) rfl (by omega) (c_has_in hO hMP hV hm) ?_
  rintro _ _ _ ⟨rfl, rfl, rfl⟩
  show T a (3 * (k + 1) + 4) mX8_callMethod 8 [(0, rv a 41), (1, .int (nI m)), (2, .int (tv g))] [.int (nI 1)] S h _
  refine tr_if_ne (pc := 8) (tgt := 13) dX8_callMethod_8 (by decide) (nI_z_eq (by omega)) (fun _ => ?_) (fun hcc => absurd hcc (by decide))
  refine tr_aload_n (pc := 13) 0 dX8_callMethod_13 rfl rfl ?_
  refine tr_dup (pc := 14) dX8_callMethod_14 rfl ?_
  refine tr_getI (pc := 15) (x := nI (R.1 3)) dX8_callMethod_15 (hS.1 41 (11, 18) rfl) fi_X8_65 rfl hT.1.2.2.2.2.1 ?_
  refine tr_iconst (pc := 18) (v := nI 1) dX8_callMethod_18 (by decide) ?_
  refine tr_iadd (pc := 19) (v := nI (R.1 3 + 1)) dX8_callMethod_19 (nI_add _ _) ?_
  refine tr_putI (pc := 20) (x := nI (R.1 3 + 1)) dX8_callMethod_20 (hS.1 41 (11, 18) rfl) fi_X8_65 rfl rfl rfl ?_
  refine tr_aload_n (pc := 23) 0 dX8_callMethod_23 rfl rfl ?_
  refine tr_getI (pc := 24) (x := nI (R.1 3 + 1)) dX8_callMethod_24 (hS.1 41 (11, 18) rfl) fi_X8_65 rfl rfl ?_
  refine tr_istore_n (pc := 27) (lv' := [(3, .int (nI (R.1 3 + 1))), (0, rv a 41), (1, .int (nI m)), (2, .int (tv g))]) dX8_callMethod_27 rfl (by decide) rfl ?_
  refine tr_aload_n (pc := 28) 1 dX8_callMethod_28 rfl rfl ?_
  refine tr_iload_n (pc := 29) 2 dX8_callMethod_29 rfl rfl ?_
  refine tr_iconst (pc := 30) (v := nI 0) dX8_callMethod_30 (by decide) ?_
  refine tr_iload_n (pc := 31) 3 dX8_callMethod_31 rfl rfl ?_
  refine tr_callV (pc := 32) (rest := []) (ci := 8) dX8_callMethod_32 ml_X8_94 cv_X8_setName rfl rfl (Nat.le_of_ble_eq_true rfl) (hS.1 41 (11, 18) rfl) rfl (by omega) (c_tsetName hS (by omega) (show 0 < 4 by decide)) ?_
  rintro v1 S2 h2 ⟨rfl, rfl, e0⟩
  show T a (3 * (k + 1) + 4) mX8_callMethod 35 [(3, .int (nI (R.1 3 + 1))), (0, rv a 41), (1, .int (nI m)), (2, .int (tv g))] [] S h2 _
  refine tr_iconst (pc := 35) (v := nI 1) dX8_callMethod_35 (by decide) ?_
  refine tr_istore (pc := 36) (lv' := [(4, .int (nI 1)), (3, .int (nI (R.1 3 + 1))), (0, rv a 41), (1, .int (nI m)), (2, .int (tv g))]) dX8_callMethod_36 (by decide) rfl ?_
  refine tr_iload (pc := 38) 0 dX8_callMethod_38 rfl ?_
  refine tr_iconst (pc := 40) (v := nI 4) dX8_callMethod_40 (by decide) ?_
  refine tr_icmp_ge (pc := 41) (tgt := 58) dX8_callMethod_41 (by decide) (nI_leI (by omega) (by omega)) (fun hcc => absurd hcc (by decide)) (fun _ => ?_)
  refine tr_aload_n (pc := 44) 2 dX8_callMethod_44 rfl rfl ?_
  refine tr_iload_n (pc := 45) 3 dX8_callMethod_45 rfl rfl ?_
  refine tr_iload (pc := 46) 0 dX8_callMethod_46 rfl ?_
  refine tr_iconst (pc := 48) (v := -1) dX8_callMethod_48 (by decide) ?_
  refine tr_callV (pc := 49) (rest := []) (ci := 8) dX8_callMethod_49 ml_X8_94 cv_X8_setName rfl rfl (Nat.le_of_ble_eq_true rfl) (hS.1 41 (11, 18) rfl) rfl (by omega) (c_tsetName hS (by omega) (show 1 < 4 by decide)) ?_
  rintro v1 S2 h3 ⟨rfl, rfl, e1⟩
  show T a (3 * (k + 1) + 4) mX8_callMethod 52 [(4, .int (nI 1)), (3, .int (nI (R.1 3 + 1))), (0, rv a 41), (1, .int (nI m)), (2, .int (tv g))] [] S h3 _
  refine tr_iinc (pc := 52) (v := nI 2) (lv' := [(4, .int (nI 2)), (3, .int (nI (R.1 3 + 1))), (0, rv a 41), (1, .int (nI m)), (2, .int (tv g))]) 0 dX8_callMethod_52 rfl (by rw [show Int32.ofInt 1 = nI 1 from by decide, nI_add]) (by decide) rfl ?_
  refine tr_goto (pc := 55) (tgt := 38) dX8_callMethod_55 (by decide) ?_
  refine tr_iload (pc := 38) 0 dX8_callMethod_38 rfl ?_
  refine tr_iconst (pc := 40) (v := nI 4) dX8_callMethod_40 (by decide) ?_
  refine tr_icmp_ge (pc := 41) (tgt := 58) dX8_callMethod_41 (by decide) (nI_leI (by omega) (by omega)) (fun hcc => absurd hcc (by decide)) (fun _ => ?_)
  refine tr_aload_n (pc := 44) 2 dX8_callMethod_44 rfl rfl ?_
  refine tr_iload_n (pc := 45) 3 dX8_callMethod_45 rfl rfl ?_
  refine tr_iload (pc := 46) 0 dX8_callMethod_46 rfl ?_
  refine tr_iconst (pc := 48) (v := -1) dX8_callMethod_48 (by decide) ?_
  refine tr_callV (pc := 49) (rest := []) (ci := 8) dX8_callMethod_49 ml_X8_94 cv_X8_setName rfl rfl (Nat.le_of_ble_eq_true rfl) (hS.1 41 (11, 18) rfl) rfl (by omega) (c_tsetName hS (by omega) (show 2 < 4 by decide)) ?_
  rintro v1 S2 h4 ⟨rfl, rfl, e2⟩
  show T a (3 * (k + 1) + 4) mX8_callMethod 52 [(4, .int (nI 2)), (3, .int (nI (R.1 3 + 1))), (0, rv a 41), (1, .int (nI m)), (2, .int (tv g))] [] S h4 _
  refine tr_iinc (pc := 52) (v := nI 3) (lv' := [(4, .int (nI 3)), (3, .int (nI (R.1 3 + 1))), (0, rv a 41), (1, .int (nI m)), (2, .int (tv g))]) 0 dX8_callMethod_52 rfl (by rw [show Int32.ofInt 1 = nI 1 from by decide, nI_add]) (by decide) rfl ?_
  refine tr_goto (pc := 55) (tgt := 38) dX8_callMethod_55 (by decide) ?_
  refine tr_iload (pc := 38) 0 dX8_callMethod_38 rfl ?_
  refine tr_iconst (pc := 40) (v := nI 4) dX8_callMethod_40 (by decide) ?_
  refine tr_icmp_ge (pc := 41) (tgt := 58) dX8_callMethod_41 (by decide) (nI_leI (by omega) (by omega)) (fun hcc => absurd hcc (by decide)) (fun _ => ?_)
  refine tr_aload_n (pc := 44) 2 dX8_callMethod_44 rfl rfl ?_
  refine tr_iload_n (pc := 45) 3 dX8_callMethod_45 rfl rfl ?_
  refine tr_iload (pc := 46) 0 dX8_callMethod_46 rfl ?_
  refine tr_iconst (pc := 48) (v := -1) dX8_callMethod_48 (by decide) ?_
  refine tr_callV (pc := 49) (rest := []) (ci := 8) dX8_callMethod_49 ml_X8_94 cv_X8_setName rfl rfl (Nat.le_of_ble_eq_true rfl) (hS.1 41 (11, 18) rfl) rfl (by omega) (c_tsetName hS (by omega) (show 3 < 4 by decide)) ?_
  rintro v1 S2 h5 ⟨rfl, rfl, e3⟩
  show T a (3 * (k + 1) + 4) mX8_callMethod 52 [(4, .int (nI 3)), (3, .int (nI (R.1 3 + 1))), (0, rv a 41), (1, .int (nI m)), (2, .int (tv g))] [] S h5 _
  refine tr_iinc (pc := 52) (v := nI 4) (lv' := [(4, .int (nI 4)), (3, .int (nI (R.1 3 + 1))), (0, rv a 41), (1, .int (nI m)), (2, .int (tv g))]) 0 dX8_callMethod_52 rfl (by rw [show Int32.ofInt 1 = nI 1 from by decide, nI_add]) (by decide) rfl ?_
  refine tr_goto (pc := 55) (tgt := 38) dX8_callMethod_55 (by decide) ?_
  refine tr_iload (pc := 38) 0 dX8_callMethod_38 rfl ?_
  refine tr_iconst (pc := 40) (v := nI 4) dX8_callMethod_40 (by decide) ?_
  refine tr_icmp_ge (pc := 41) (tgt := 58) dX8_callMethod_41 (by decide) (nI_leI (by omega) (by omega)) (fun _ => ?_) (fun hcc => absurd (by decide) hcc)
  have hA5 : AfC S h q R (m * 4) (R.1 3 + 1) (rCall R) false S h5 := by
    rw [← e3, ← e2, ← e1, ← e0]
    exact af_trans (af_trans (af_trans (af_trans (af_call hQ hn hT) (fun q1 c1 b1 b2 b3 => af_name b1 b2 b3)) (fun q1 c1 b1 b2 b3 => af_name b1 b2 b3)) (fun q1 c1 b1 b2 b3 => af_name b1 b2 b3)) (fun q1 c1 b1 b2 b3 => af_name b1 b2 b3)
  have hN5 : NR h5 m (E0 g) := by
    intro x hx
    rw [← e3, hs_same, ← e2, hs_same, ← e1, hs_same, ← e0, hs_same]
    match x, hx with
    | 0, _ => rw [upd_n (by omega), upd_n (by omega), upd_n (by omega), upd_s]; rfl
    | 1, _ => rw [upd_n (by omega), upd_n (by omega), upd_s]; rfl
    | 2, _ => rw [upd_n (by omega), upd_s]; rfl
    | 3, _ => rw [upd_s]; rfl
  refine tr_iconst (pc := 58) (v := nI 0) dX8_callMethod_58 (by decide) ?_
  refine tr_istore (pc := 59) (lv' := [(4, .int (nI 0)), (3, .int (nI (R.1 3 + 1))), (0, rv a 41), (1, .int (nI m)), (2, .int (tv g))]) dX8_callMethod_59 (by decide) rfl ?_
  refine tr_sub (pc := 61) (lv' := [(0, rv a 41), (1, .int (nI m)), (2, .int (tv g)), (3, .int (nI (R.1 3 + 1))), (4, .int (nI 0))]) [2, 3, 4, 1, 0] rfl ?_
  have L61 : ∀ (fu : Nat) (i : Nat) (S1 : St) (h1 : Hp), lnN P m - i < fu → i ≤ lnN P m → AfC S h q R (m * 4) (R.1 3 + 1) (runL (exM P k) P m (R.1 3) (rCall R) (E0 g) i).1 (runL (exM P k) P m (R.1 3) (rCall R) (E0 g) i).2.2 S1 h1 → ((runL (exM P k) P m (R.1 3) (rCall R) (E0 g) i).2.2 = false → NR h1 m (runL (exM P k) P m (R.1 3) (rCall R) (E0 g) i).2.1) → T a (3 * (k + 1) + 4) mX8_callMethod 61 [(0, rv a 41), (1, .int (nI m)), (2, .int (tv g)), (3, .int (nI (R.1 3 + 1))), (4, .int (nI i))] [] S1 h1 (fun v S' h' => (∃ w, v = some (.int w) ∧ ((exM P (k + 1) m g R).2.2 = false → w = tv (exM P (k + 1) m g R).2.1)) ∧ AfC S h q R (m * 4) (R.1 3) (exM P (k + 1) m g R).1 (exM P (k + 1) m g R).2.2 S' h') := by
    intro fu
    induction fu with
    | zero => intro i S1 h1 hu hi hA hN; omega
    | succ fu ih =>
      intro i S1 h1 hu hi hA hN
      obtain ⟨q1, cap1, a1, a2, a3, a4, a5, a6, a7⟩ := id hA
      have hS1 := hS.sg a4
      have hMP1 : MP h1 3 P := hMP.ft a7
      have hFn1 : Fnd h1 P := hFn.ft a7
      obtain ⟨w1, w2, w3, w4, w5, w6, w7⟩ := (cg_call hVP (k + 1) m g R hmk hW hg).2 i hi (Nat.succ_pos k)
      simp only [Nat.add_sub_cancel] at w1 w2 w3 w4 w5 w6 w7
      have hp8 : 8 ^ (k + 1) = 8 * 8 ^ k := by rw [Nat.pow_succ, Nat.mul_comm]
      have hcb : cB (k + 1) = 1 + 8 * cB k := rfl
      have hie : i < lnN P m → i * 8 ^ k + 8 ^ k ≤ 8 * 8 ^ k ∧ i * cB k + cB k ≤ 8 * cB k := fun z => by
        have z1 : (i + 1) * 8 ^ k ≤ 8 * 8 ^ k := Nat.mul_le_mul_right _ (by omega)
        have z2 : (i + 1) * cB k ≤ 8 * cB k := Nat.mul_le_mul_right _ (by omega)
        rw [Nat.add_mul, Nat.one_mul] at z1 z2
        exact ⟨z1, z2⟩
      have hi9 : i * cB k ≤ 8 * cB k := Nat.mul_le_mul_right _ (by omega)
      refine tr_iload (pc := 61) 4 dX8_callMethod_61 rfl ?_
      refine tr_aload_n (pc := 63) 0 dX8_callMethod_63 rfl rfl ?_
      refine tr_getR (pc := 64) (q := 3) dX8_callMethod_64 (hS1.1 41 _ rfl) fi_X8_40 rfl (hS1.2 41 0 3 rfl) ?_
      refine tr_iload_n (pc := 67) 1 dX8_callMethod_67 rfl rfl ?_
      refine tr_callV (pc := 68) (rest := [.int (nI i)]) (ci := 2) dX8_callMethod_68 ml_X8_98 cv_X2_lines rfl rfl (Nat.le_of_ble_eq_true rfl) (hS1.1 3 _ rfl) rfl (by omega) (c_lines_in (mo_3 hS1) hMP1 hV hm) ?_
      rintro _ _ _ ⟨rfl, rfl, rfl⟩
      show T a (3 * (k + 1) + 4) mX8_callMethod 71 [(0, rv a 41), (1, .int (nI m)), (2, .int (tv g)), (3, .int (nI (R.1 3 + 1))), (4, .int (nI i))] [.int (nI (lnN P m)), .int (nI i)] S1 h1 _
      refine tr_icmp_ge (pc := 71) (tgt := 95) dX8_callMethod_71 (by decide) (nI_leI (by omega) (by omega)) (fun q71 => ?_) (fun q71 => ?_)
      · skip
        have hZ : runL (exM P k) P m (R.1 3) (rCall R) (E0 g) (lnN P m) = (runL (exM P k) P m (R.1 3) (rCall R) (E0 g) i) := by rw [show lnN P m = i by omega]
        refine tr_aload_n (pc := 95) 0 dX8_callMethod_95 rfl rfl ?_
        refine tr_iload_n (pc := 96) 1 dX8_callMethod_96 rfl rfl ?_
        refine tr_iconst (pc := 97) (v := nI 3) dX8_callMethod_97 (by decide) ?_
        refine tr_callV (pc := 98) (rest := []) (ci := 8) dX8_callMethod_98 ml_X8_105 cv_X8_inName rfl rfl (Nat.le_of_ble_eq_true rfl) (hS1.1 41 _ rfl) rfl (by omega) (c_tinName hS1 (by omega) (show 3 < 4 by decide)) ?_
        rintro _ _ _ ⟨rfl, rfl, rfl⟩
        show T a (3 * (k + 1) + 4) mX8_callMethod 101 [(0, rv a 41), (1, .int (nI m)), (2, .int (tv g)), (3, .int (nI (R.1 3 + 1))), (4, .int (nI i))] [.int (h1 42 (m * 4 + 3))] S1 h1 _
        refine tr_istore (pc := 101) (lv' := [(4, .int (h1 42 (m * 4 + 3))), (0, rv a 41), (1, .int (nI m)), (2, .int (tv g)), (3, .int (nI (R.1 3 + 1)))]) dX8_callMethod_101 (by decide) rfl ?_
        refine tr_aload_n (pc := 103) 1 dX8_callMethod_103 rfl rfl ?_
        refine tr_getI (pc := 104) (x := bI (runL (exM P k) P m (R.1 3) (rCall R) (E0 g) i).2.2) dX8_callMethod_104 (hS1.1 41 _ rfl) fi_X8_52 rfl a3.1.1 ?_
        refine tr_if_ne (pc := 107) (tgt := 119) dX8_callMethod_107 (by decide) Iff.rfl (fun q107 => ?_) (fun q107 => ?_)
        · skip
          have hfl : (runL (exM P k) P m (R.1 3) (rCall R) (E0 g) i).2.2 = true := bz_t q107
          refine tr_iload (pc := 119) 0 dX8_callMethod_119 rfl ?_
          exact tr_iret (pc := 121) dX8_callMethod_121 rfl rfl (by
              refine ⟨⟨_, rfl, fun hf => ?_⟩, ?_⟩
              · rw [exM_s hZ, hfl] at hf; cases hf
              · rw [exM_s hZ, hfl]; rw [hfl] at hA; exact hA.mono (Nat.le_refl _) (by omega))
        · skip
          have hnf : (runL (exM P k) P m (R.1 3) (rCall R) (E0 g) i).2.2 = false := bz_f q107
          have hNr := hN hnf 3 (by decide)
          have a3n : TH h1 q1 (runL (exM P k) P m (R.1 3) (rCall R) (E0 g) i).1 false := by rw [hnf] at a3; exact a3
          have hmkn : mkN (runL (exM P k) P m (R.1 3) (rCall R) (E0 g) i).1 (R.1 3) = (sitesM P m (lnN P m)).length := by
            have z := (cg_call hVP (k + 1) m g R hmk hW hg).2 (lnN P m) (Nat.le_refl _) (Nat.succ_pos k)
            simp only [Nat.add_sub_cancel] at z
            rw [hZ] at z
            exact z.2.2.2.2.2.2 hnf
          rw [hNr]
          refine tr_aload_n (pc := 110) 1 dX8_callMethod_110 rfl rfl ?_
          refine tr_iload_n (pc := 111) 2 dX8_callMethod_111 rfl rfl ?_
          refine tr_iload_n (pc := 112) 4 dX8_callMethod_112 rfl rfl ?_
          refine tr_iload_n (pc := 113) 3 dX8_callMethod_113 rfl rfl ?_
          refine tr_iload (pc := 114) 0 dX8_callMethod_114 rfl ?_
          refine tr_callV (pc := 116) (rest := []) (ci := 8) dX8_callMethod_116 ml_X8_108 cv_X8_findLeaks rfl rfl (Nat.le_of_ble_eq_true rfl) (hS1.1 41 _ rfl) rfl (by omega) (c_findLeaks hS1 hV hFn1.1 a1 a3n w1 a2 (by omega) hm w6 hmkn (hg.le w3.1) (w2 3) (a6.ne (Nat.lt_succ_self _) (by omega) (by omega) (hsn.ne (by omega)))) ?_
          rintro v1 S2 h2 ⟨rfl, rfl, hTL, hoL, hsL⟩
          show T a (3 * (k + 1) + 4) mX8_callMethod 119 [(4, .int (tv ((runL (exM P k) P m (R.1 3) (rCall R) (E0 g) i).2.1 3))), (0, rv a 41), (1, .int (nI m)), (2, .int (tv g)), (3, .int (nI (R.1 3 + 1)))] [] S1 h2 _
          refine tr_iload (pc := 119) 0 dX8_callMethod_119 rfl ?_
          exact tr_iret (pc := 121) dX8_callMethod_121 rfl rfl (by
              refine ⟨⟨_, rfl, fun _ => ?_⟩, ?_⟩
              · rw [exM_s hZ, hnf]; rfl
              · rw [exM_s hZ, hnf]
                have hq1 := a1.2.2.1
                have l0 : ∀ r', (rLeak (runL (exM P k) P m (R.1 3) (rCall R) (E0 g) i).1 (R.1 3) g r').1 0 = (runL (exM P k) P m (R.1 3) (rCall R) (E0 g) i).1.1 0 := fun r' => by simp [rLeak, un]
                have l3 : ∀ r', (rLeak (runL (exM P k) P m (R.1 3) (rCall R) (E0 g) i).1 (R.1 3) g r').1 3 = (runL (exM P k) P m (R.1 3) (rCall R) (E0 g) i).1.1 3 := fun r' => by simp [rLeak, un]
                refine ⟨q1, cap1, a1, by show (rLeak _ _ _ _).1 0 ≤ _; rw [l0]; exact a2, hTL, a4, fun j hj => by rw [hoL 42 (by decide) (by decide) (by omega)]; exact a5 j hj, ?_, ?_⟩
                · refine (a6.mono (by omega)).trans ⟨by show _ ≤ (rLeak _ _ _ _).1 0; rw [l0]; exact Nat.le_refl _, by show _ ≤ (rLeak _ _ _ _).1 3; rw [l3]; exact Nat.le_refl _, fun t ht => ?_⟩
                  have ht : t < (rLeak (runL (exM P k) P m (R.1 3) (rCall R) (E0 g) i).1 (R.1 3) g _).1 0 := ht
                  rw [l0] at ht
                  rcases hsL t ht with z | z
                  · exact Or.inl ⟨ht, z⟩
                  · exact Or.inr (Or.inr ⟨R.1 3, Nat.le_refl _, by show _ < (rLeak _ _ _ _).1 3; rw [l3]; exact w6, z⟩)
                · refine a7.trans (fun j j1 j2 => hoL j (fun e => j2 (by rw [e]; decide)) (fun e => j2 (by rw [e]; decide)) (fun e => ?_))
                  rcases tl_q (j := 3) hq1 (by decide) with z | z
                  · exact j2 (by rw [e]; exact z)
                  · omega)
      · skip
        refine tr_aload_n (pc := 74) 0 dX8_callMethod_74 rfl rfl ?_
        refine tr_getI (pc := 75) (x := bI (runL (exM P k) P m (R.1 3) (rCall R) (E0 g) i).2.2) dX8_callMethod_75 (hS1.1 41 _ rfl) fi_X8_52 rfl a3.1.1 ?_
        refine tr_if_ne (pc := 78) (tgt := 95) dX8_callMethod_78 (by decide) Iff.rfl (fun q78 => ?_) (fun q78 => ?_)
        · skip
          have hZ : runL (exM P k) P m (R.1 3) (rCall R) (E0 g) (lnN P m) = (runL (exM P k) P m (R.1 3) (rCall R) (E0 g) i) := by rw [show lnN P m = i + (lnN P m - i) by omega]; exact runL_stop (bz_t q78) _
          refine tr_aload_n (pc := 95) 0 dX8_callMethod_95 rfl rfl ?_
          refine tr_iload_n (pc := 96) 1 dX8_callMethod_96 rfl rfl ?_
          refine tr_iconst (pc := 97) (v := nI 3) dX8_callMethod_97 (by decide) ?_
          refine tr_callV (pc := 98) (rest := []) (ci := 8) dX8_callMethod_98 ml_X8_105 cv_X8_inName rfl rfl (Nat.le_of_ble_eq_true rfl) (hS1.1 41 _ rfl) rfl (by omega) (c_tinName hS1 (by omega) (show 3 < 4 by decide)) ?_
          rintro _ _ _ ⟨rfl, rfl, rfl⟩
          show T a (3 * (k + 1) + 4) mX8_callMethod 101 [(0, rv a 41), (1, .int (nI m)), (2, .int (tv g)), (3, .int (nI (R.1 3 + 1))), (4, .int (nI i))] [.int (h1 42 (m * 4 + 3))] S1 h1 _
          refine tr_istore (pc := 101) (lv' := [(4, .int (h1 42 (m * 4 + 3))), (0, rv a 41), (1, .int (nI m)), (2, .int (tv g)), (3, .int (nI (R.1 3 + 1)))]) dX8_callMethod_101 (by decide) rfl ?_
          refine tr_aload_n (pc := 103) 1 dX8_callMethod_103 rfl rfl ?_
          refine tr_getI (pc := 104) (x := bI (runL (exM P k) P m (R.1 3) (rCall R) (E0 g) i).2.2) dX8_callMethod_104 (hS1.1 41 _ rfl) fi_X8_52 rfl a3.1.1 ?_
          refine tr_if_ne (pc := 107) (tgt := 119) dX8_callMethod_107 (by decide) Iff.rfl (fun q107 => ?_) (fun q107 => ?_)
          · skip
            have hfl : (runL (exM P k) P m (R.1 3) (rCall R) (E0 g) i).2.2 = true := bz_t q107
            refine tr_iload (pc := 119) 0 dX8_callMethod_119 rfl ?_
            exact tr_iret (pc := 121) dX8_callMethod_121 rfl rfl (by
                refine ⟨⟨_, rfl, fun hf => ?_⟩, ?_⟩
                · rw [exM_s hZ, hfl] at hf; cases hf
                · rw [exM_s hZ, hfl]; rw [hfl] at hA; exact hA.mono (Nat.le_refl _) (by omega))
          · skip
            have hnf : (runL (exM P k) P m (R.1 3) (rCall R) (E0 g) i).2.2 = false := bz_f q107
            have hNr := hN hnf 3 (by decide)
            have a3n : TH h1 q1 (runL (exM P k) P m (R.1 3) (rCall R) (E0 g) i).1 false := by rw [hnf] at a3; exact a3
            have hmkn : mkN (runL (exM P k) P m (R.1 3) (rCall R) (E0 g) i).1 (R.1 3) = (sitesM P m (lnN P m)).length := by
              have z := (cg_call hVP (k + 1) m g R hmk hW hg).2 (lnN P m) (Nat.le_refl _) (Nat.succ_pos k)
              simp only [Nat.add_sub_cancel] at z
              rw [hZ] at z
              exact z.2.2.2.2.2.2 hnf
            rw [hNr]
            refine tr_aload_n (pc := 110) 1 dX8_callMethod_110 rfl rfl ?_
            refine tr_iload_n (pc := 111) 2 dX8_callMethod_111 rfl rfl ?_
            refine tr_iload_n (pc := 112) 4 dX8_callMethod_112 rfl rfl ?_
            refine tr_iload_n (pc := 113) 3 dX8_callMethod_113 rfl rfl ?_
            refine tr_iload (pc := 114) 0 dX8_callMethod_114 rfl ?_
            refine tr_callV (pc := 116) (rest := []) (ci := 8) dX8_callMethod_116 ml_X8_108 cv_X8_findLeaks rfl rfl (Nat.le_of_ble_eq_true rfl) (hS1.1 41 _ rfl) rfl (by omega) (c_findLeaks hS1 hV hFn1.1 a1 a3n w1 a2 (by omega) hm w6 hmkn (hg.le w3.1) (w2 3) (a6.ne (Nat.lt_succ_self _) (by omega) (by omega) (hsn.ne (by omega)))) ?_
            rintro v1 S2 h2 ⟨rfl, rfl, hTL, hoL, hsL⟩
            show T a (3 * (k + 1) + 4) mX8_callMethod 119 [(4, .int (tv ((runL (exM P k) P m (R.1 3) (rCall R) (E0 g) i).2.1 3))), (0, rv a 41), (1, .int (nI m)), (2, .int (tv g)), (3, .int (nI (R.1 3 + 1)))] [] S1 h2 _
            refine tr_iload (pc := 119) 0 dX8_callMethod_119 rfl ?_
            exact tr_iret (pc := 121) dX8_callMethod_121 rfl rfl (by
                refine ⟨⟨_, rfl, fun _ => ?_⟩, ?_⟩
                · rw [exM_s hZ, hnf]; rfl
                · rw [exM_s hZ, hnf]
                  have hq1 := a1.2.2.1
                  have l0 : ∀ r', (rLeak (runL (exM P k) P m (R.1 3) (rCall R) (E0 g) i).1 (R.1 3) g r').1 0 = (runL (exM P k) P m (R.1 3) (rCall R) (E0 g) i).1.1 0 := fun r' => by simp [rLeak, un]
                  have l3 : ∀ r', (rLeak (runL (exM P k) P m (R.1 3) (rCall R) (E0 g) i).1 (R.1 3) g r').1 3 = (runL (exM P k) P m (R.1 3) (rCall R) (E0 g) i).1.1 3 := fun r' => by simp [rLeak, un]
                  refine ⟨q1, cap1, a1, by show (rLeak _ _ _ _).1 0 ≤ _; rw [l0]; exact a2, hTL, a4, fun j hj => by rw [hoL 42 (by decide) (by decide) (by omega)]; exact a5 j hj, ?_, ?_⟩
                  · refine (a6.mono (by omega)).trans ⟨by show _ ≤ (rLeak _ _ _ _).1 0; rw [l0]; exact Nat.le_refl _, by show _ ≤ (rLeak _ _ _ _).1 3; rw [l3]; exact Nat.le_refl _, fun t ht => ?_⟩
                    have ht : t < (rLeak (runL (exM P k) P m (R.1 3) (rCall R) (E0 g) i).1 (R.1 3) g _).1 0 := ht
                    rw [l0] at ht
                    rcases hsL t ht with z | z
                    · exact Or.inl ⟨ht, z⟩
                    · exact Or.inr (Or.inr ⟨R.1 3, Nat.le_refl _, by show _ < (rLeak _ _ _ _).1 3; rw [l3]; exact w6, z⟩)
                  · refine a7.trans (fun j j1 j2 => hoL j (fun e => j2 (by rw [e]; decide)) (fun e => j2 (by rw [e]; decide)) (fun e => ?_))
                    rcases tl_q (j := 3) hq1 (by decide) with z | z
                    · exact j2 (by rw [e]; exact z)
                    · omega)
        · skip
          have hnf : (runL (exM P k) P m (R.1 3) (rCall R) (E0 g) i).2.2 = false := bz_f q78
          obtain ⟨he1, he2⟩ := hie (Nat.lt_of_not_le q71)
          have a3n : TH h1 q1 (runL (exM P k) P m (R.1 3) (rCall R) (E0 g) i).1 false := by rw [hnf] at a3; exact a3
          refine tr_aload_n (pc := 81) 0 dX8_callMethod_81 rfl rfl ?_
          refine tr_iload_n (pc := 82) 1 dX8_callMethod_82 rfl rfl ?_
          refine tr_iload (pc := 83) 4 dX8_callMethod_83 rfl ?_
          refine tr_iload_n (pc := 85) 3 dX8_callMethod_85 rfl rfl ?_
          refine tr_callV (pc := 86) (rest := []) (ci := 8) dX8_callMethod_86 ml_X8_102 cv_X8_doLine rfl rfl (Nat.le_of_ble_eq_true rfl) (hS1.1 41 _ rfl) rfl (by omega) (c_doLine hS1 hK hVP hMP1 hFn1 a1 a3n w1 a2 (Nat.lt_of_not_le q71) hmk w2 (hN hnf) (by omega) (by omega) w6 (hsn.nx a6)) ?_
          rintro v1 S2 h2 ⟨rfl, hA2, hN2⟩
          show T a (3 * (k + 1) + 4) mX8_callMethod 89 [(0, rv a 41), (1, .int (nI m)), (2, .int (tv g)), (3, .int (nI (R.1 3 + 1))), (4, .int (nI i))] [] S2 h2 _
          refine tr_iinc (pc := 89) (v := nI (i + 1)) (lv' := [(4, .int (nI (i + 1))), (0, rv a 41), (1, .int (nI m)), (2, .int (tv g)), (3, .int (nI (R.1 3 + 1)))]) 4 dX8_callMethod_89 rfl (by rw [show Int32.ofInt 1 = nI 1 from by decide, nI_add]) (by decide) rfl ?_
          refine tr_goto (pc := 92) (tgt := 61) dX8_callMethod_92 (by decide) ?_
          refine tr_sub (pc := 61) (lv' := [(0, rv a 41), (1, .int (nI m)), (2, .int (tv g)), (3, .int (nI (R.1 3 + 1))), (4, .int (nI (i + 1)))]) [1, 2, 3, 4, 0] rfl ?_
          exact ih (i + 1) S2 h2 (by omega) (by omega) (by rw [runL_s hnf]; exact af_trans hA (fun q3 cap3 c1 c2 c3 => by rw [show q3 = q1 from Option.some.inj (c1.1.1.symm.trans a1.1.1)]; exact hA2)) (by rw [runL_s hnf]; exact hN2)
  exact L61 (lnN P m + 1) 0 S h5 (by omega) (by omega) hA5 (fun _ => hN5)

theorem cspec {a : Am} : ∀ k, CSpec a k := by
  intro k
  induction k with
  | zero =>
    intro S h q cap P m g R hS hVP _ _ _ _ _ _ _ hm hmk
    have := hVP.1.1
    omega
  | succ k ih =>
    intro S h q cap P m g R hS hVP hMP hFn hQ hT hW hn hg hm hmk hb1 hb2 hsn
    exact c_callMethod_s hS ih hVP hMP hFn hQ hT hW hn hg hm hmk hb1 hb2 hsn