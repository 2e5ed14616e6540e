/-! ===== digest ===== -/
def dF (g : Nat → Int32) : Nat → Int64 → Int64
  | 0, x => x
  | k + 1, x => 31 * dF g k x + (g k).toInt64
def dLn (P : Prog) (m : Nat) : Nat → Int32 := fun k => aLine P m (k / 5) (k % 5)
def dM (P : Prog) (m : Nat) (x : Int64) : Int64 := dF (dLn P m) (5 * lnN P m) (dF (fun w => mayV P (4 * m + w)) 4 (dF (aOf P m) 5 x))
def dMs (P : Prog) : Nat → Int64 → Int64
  | 0, x => x
  | m + 1, x => dM P m (dMs P m x)
noncomputable def dS (P : Prog) (s : Nat) (x : Int64) : Int64 := dF (aRan P s) 3 (dF (aSite P s) 4 x)
noncomputable def dSs (P : Prog) : Nat → Int64 → Int64
  | 0, x => x
  | s + 1, x => dS P s (dSs P s x)
noncomputable def dA (tx : List Nat) (P : Prog) (past : List Prog) (b n f : Int32) : Int64 := 31 * dF (aRun P) 6 (31 * dSs P (nSt P) (dMs P P.length (dF (aTo tx P past b n f) 7 2503)) + (mayV P 16).toInt64) + (aHeld P).toInt64
theorem dLn_e {P : Prog} {m i w : Nat} (hw : w < 5) : dLn P m (5 * i + w) = aLine P m i w := by
  unfold dLn
  rw [show (5 * i + w) / 5 = i by omega, show (5 * i + w) % 5 = w by omega]
theorem dF_s {g : Nat → Int32} {k : Nat} {x : Int64} {y : Int32} (h : y = g k) : 31 * dF g k x + y.toInt64 = dF g (k + 1) x := by
  rw [h]
  rfl
theorem dF_0 {g : Nat → Int32} {x : Int64} : dF g 0 x = x := rfl
theorem dMs_s {P : Prog} {k : Nat} {x : Int64} : dF (dLn P k) (5 * lnN P k) (dF (fun w => mayV P (4 * k + w)) 4 (dF (aOf P k) 5 (dMs P k x))) = dMs P (k + 1) x := rfl
theorem dSs_s {P : Prog} {k : Nat} {x : Int64} : dF (aRan P k) 3 (dF (aSite P k) 4 (dSs P k x)) = dSs P (k + 1) x := rfl
theorem dMs_t {P : Prog} {k : Nat} {x : Int64} : dM P k (dMs P k x) = dMs P (k + 1) x := rfl
theorem dSs_t {P : Prog} {k : Nat} {x : Int64} : dS P k (dSs P k x) = dSs P (k + 1) x := rfl
theorem dMs_0 {P : Prog} {x : Int64} : dMs P 0 x = x := rfl
theorem dSs_0 {P : Prog} {x : Int64} : dSs P 0 x = x := rfl
set_option maxHeartbeats 4000000 in
set_option maxRecDepth 100000 in
theorem c_digM {a : Am} {S : St} {h : Hp} (hS : IsSt S) {P : Prog} (hVB : VB P) (hMP : MP h 3 P) (hFn : Fnd h P) {m : Nat} (hm : m < P.length) {x : Int64} : CT a 4 mX9_digestWithMethod [rv a 0, .long x, .int (nI m)] S h (fun v S' h' => v = some (.long (dM P m x)) ∧ S = S' ∧ h = h') := by
  have hV1 := hVB.1
  have hm8 := hVB.2.1 m
  refine met_of (by decide +kernel) (Nat.le_of_ble_eq_true rfl) ?_
  show T a 4 mX9_digestWithMethod 0 [(0, rv a 0), (1, .long x), (3, .int (nI m))] [] S h _
  refine tr_lload_n (pc := 0) 1 dX9_digestWithMethod_0 rfl rfl ?_
  refine tr_lstore (pc := 1) (lv' := [(4, .long x), (0, rv a 0), (1, .long x), (3, .int (nI m))]) dX9_digestWithMethod_1 (by decide) rfl ?_
  refine tr_iconst (pc := 3) (v := nI 0) dX9_digestWithMethod_3 (by decide) ?_
  refine tr_istore (pc := 4) (lv' := [(6, .int (nI 0)), (4, .long x), (0, rv a 0), (1, .long x), (3, .int (nI m))]) dX9_digestWithMethod_4 (by decide) rfl ?_
  refine tr_sub (pc := 6) (lv' := [(0, rv a 0), (3, .int (nI m)), (4, .long x), (6, .int (nI 0))]) [2, 4, 1, 0] rfl ?_
  have L6 : ∀ (fu : Nat) (k : Nat), 5 - k < fu → k ≤ 5 → T a 4 mX9_digestWithMethod 6 [(0, rv a 0), (3, .int (nI m)), (4, .long (dF (aOf P m) k x)), (6, .int (nI k))] [] S h (fun v S' h' => v = some (.long (dM P m x)) ∧ S = S' ∧ h = h') := by
    intro fu
    induction fu with
    | zero => intro k huk hk; omega
    | succ fu ih1 =>
      intro k huk hk
      refine tr_iload (pc := 6) 3 dX9_digestWithMethod_6 rfl ?_
      refine tr_iconst (pc := 8) (v := nI 5) dX9_digestWithMethod_8 (by decide) ?_
      refine tr_icmp_ge (pc := 9) (tgt := 35) dX9_digestWithMethod_9 (by decide) (nI_leI (by omega) (by omega)) (fun hb9 => ?_) (fun hb9 => ?_)
      · skip
        obtain rfl : k = 5 := by omega
        show T a 4 mX9_digestWithMethod 35 [(0, rv a 0), (3, .int (nI m)), (4, .long (dF (aOf P m) 5 x)), (6, .int (nI 5))] [] S h _
        refine tr_iconst (pc := 35) (v := nI 0) dX9_digestWithMethod_35 (by decide) ?_
        refine tr_istore (pc := 36) (lv' := [(6, .int (nI 0)), (0, rv a 0), (3, .int (nI m)), (4, .long (dF (aOf P m) 5 x))]) dX9_digestWithMethod_36 (by decide) rfl ?_
        refine tr_sub (pc := 38) (lv' := [(0, rv a 0), (3, .int (nI m)), (4, .long (dF (aOf P m) 5 x)), (6, .int (nI 0))]) [1, 2, 3, 0] rfl ?_
        have L38 : ∀ (fu : Nat) (k2 : Nat), 4 - k2 < fu → k2 ≤ 4 → T a 4 mX9_digestWithMethod 38 [(0, rv a 0), (3, .int (nI m)), (4, .long (dF (fun w => mayV P (4 * m + w)) k2 (dF (aOf P m) 5 x))), (6, .int (nI k2))] [] S h (fun v S' h' => v = some (.long (dM P m x)) ∧ S = S' ∧ h = h') := by
          intro fu
          induction fu with
          | zero => intro k2 huk2 hk2; omega
          | succ fu ih2 =>
            intro k2 huk2 hk2
            refine tr_iload (pc := 38) 3 dX9_digestWithMethod_38 rfl ?_
            refine tr_iconst (pc := 40) (v := nI 4) dX9_digestWithMethod_40 (by decide) ?_
            refine tr_icmp_ge (pc := 41) (tgt := 70) dX9_digestWithMethod_41 (by decide) (nI_leI (by omega) (by omega)) (fun hb41 => ?_) (fun hb41 => ?_)
            · skip
              obtain rfl : k2 = 4 := by omega
              show T a 4 mX9_digestWithMethod 70 [(0, rv a 0), (3, .int (nI m)), (4, .long (dF (fun w => mayV P (4 * m + w)) 4 (dF (aOf P m) 5 x))), (6, .int (nI 4))] [] S h _
              refine tr_iconst (pc := 70) (v := nI 0) dX9_digestWithMethod_70 (by decide) ?_
              refine tr_istore (pc := 71) (lv' := [(6, .int (nI 0)), (0, rv a 0), (3, .int (nI m)), (4, .long (dF (fun w => mayV P (4 * m + w)) 4 (dF (aOf P m) 5 x)))]) dX9_digestWithMethod_71 (by decide) rfl ?_
              refine tr_sub (pc := 73) (lv' := [(0, rv a 0), (3, .int (nI m)), (4, .long (dF (fun w => mayV P (4 * m + w)) 4 (dF (aOf P m) 5 x))), (6, .int (nI 0))]) [1, 2, 3, 0] rfl ?_
              have L73 : ∀ (fu : Nat) (k3 : Nat), lnN P m - k3 < fu → k3 ≤ lnN P m → T a 4 mX9_digestWithMethod 73 [(0, rv a 0), (3, .int (nI m)), (4, .long (dF (dLn P m) (5 * k3) (dF (fun w => mayV P (4 * m + w)) 4 (dF (aOf P m) 5 x)))), (6, .int (nI k3))] [] S h (fun v S' h' => v = some (.long (dM P m x)) ∧ S = S' ∧ h = h') := by
                intro fu
                induction fu with
                | zero => intro k3 huk3 hk3; omega
                | succ fu ih3 =>
                  intro k3 huk3 hk3
                  refine tr_iload (pc := 73) 3 dX9_digestWithMethod_73 rfl ?_
                  refine tr_aload_n (pc := 75) 0 dX9_digestWithMethod_75 rfl rfl ?_
                  refine tr_getR (pc := 76) (q := 3) dX9_digestWithMethod_76 (hS.1 0 (12, 14) rfl) fi_X9_19 rfl (hS.2 0 1 3 rfl) ?_
                  refine tr_iload_n (pc := 79) 1 dX9_digestWithMethod_79 rfl rfl ?_
                  refine tr_callV (pc := 80) (rest := [.int (nI k3)]) (ci := 2) dX9_digestWithMethod_80 ml_X9_121 cv_X2_lines rfl rfl (Nat.le_of_ble_eq_true rfl) (hS.1 3 (5, 3) rfl) rfl (by decide) (c_lines_in (mo_3 hS) hMP hVB hm) ?_
                  rintro _ _ _ ⟨rfl, rfl, rfl⟩
                  show T a 4 mX9_digestWithMethod 83 [(0, rv a 0), (3, .int (nI m)), (4, .long (dF (dLn P m) (5 * k3) (dF (fun w => mayV P (4 * m + w)) 4 (dF (aOf P m) 5 x)))), (6, .int (nI k3))] [.int (nI (lnN P m)), .int (nI k3)] S h _
                  refine tr_icmp_ge (pc := 83) (tgt := 126) dX9_digestWithMethod_83 (by decide) (nI_leI (by omega) (by omega)) (fun hb83 => ?_) (fun hb83 => ?_)
                  · skip
                    obtain rfl : k3 = lnN P m := by omega
                    show T a 4 mX9_digestWithMethod 126 [(0, rv a 0), (3, .int (nI m)), (4, .long (dF (dLn P m) (5 * lnN P m) (dF (fun w => mayV P (4 * m + w)) 4 (dF (aOf P m) 5 x)))), (6, .int (nI (lnN P m)))] [] S h _
                    refine tr_lload (pc := 126) 2 dX9_digestWithMethod_126 rfl ?_
                    exact tr_lret (pc := 128) dX9_digestWithMethod_128 rfl (⟨by unfold dM; rfl, rfl, rfl⟩)
                  · skip
                    refine tr_iconst (pc := 86) (v := nI 0) dX9_digestWithMethod_86 (by decide) ?_
                    refine tr_istore (pc := 87) (lv' := [(7, .int (nI 0)), (0, rv a 0), (3, .int (nI m)), (4, .long (dF (dLn P m) (5 * k3) (dF (fun w => mayV P (4 * m + w)) 4 (dF (aOf P m) 5 x)))), (6, .int (nI k3))]) dX9_digestWithMethod_87 (by decide) rfl ?_
                    refine tr_sub (pc := 89) (lv' := [(0, rv a 0), (3, .int (nI m)), (4, .long (dF (dLn P m) (5 * k3) (dF (fun w => mayV P (4 * m + w)) 4 (dF (aOf P m) 5 x)))), (6, .int (nI k3)), (7, .int (nI 0))]) [1, 2, 3, 4, 0] rfl ?_
                    have L89 : ∀ (fu : Nat) (k4 : Nat), 5 - k4 < fu → k4 ≤ 5 → T a 4 mX9_digestWithMethod 89 [(0, rv a 0), (3, .int (nI m)), (4, .long (dF (dLn P m) (5 * k3 + k4) (dF (fun w => mayV P (4 * m + w)) 4 (dF (aOf P m) 5 x)))), (6, .int (nI k3)), (7, .int (nI k4))] [] S h (fun v S' h' => v = some (.long (dM P m x)) ∧ S = S' ∧ h = h') := by
                      intro fu
                      induction fu with
                      | zero => intro k4 hu4 hk4; omega
                      | succ fu ih4 =>
                        intro k4 hu4 hk4
                        refine tr_iload (pc := 89) 4 dX9_digestWithMethod_89 rfl ?_
                        refine tr_iconst (pc := 91) (v := nI 5) dX9_digestWithMethod_91 (by decide) ?_
                        refine tr_icmp_ge (pc := 92) (tgt := 120) dX9_digestWithMethod_92 (by decide) (nI_leI (by omega) (by omega)) (fun hb92 => ?_) (fun hb92 => ?_)
                        · skip
                          obtain rfl : k4 = 5 := by omega
                          show T a 4 mX9_digestWithMethod 120 [(0, rv a 0), (3, .int (nI m)), (4, .long (dF (dLn P m) (5 * k3 + 5) (dF (fun w => mayV P (4 * m + w)) 4 (dF (aOf P m) 5 x)))), (6, .int (nI k3)), (7, .int (nI 5))] [] S h _
                          refine tr_iinc (pc := 120) (v := nI (k3 + 1)) (lv' := [(6, .int (nI (k3 + 1))), (0, rv a 0), (3, .int (nI m)), (4, .long (dF (dLn P m) (5 * k3 + 5) (dF (fun w => mayV P (4 * m + w)) 4 (dF (aOf P m) 5 x)))), (7, .int (nI 5))]) 3 dX9_digestWithMethod_120 rfl (by rw [show Int32.ofInt 1 = nI 1 from by decide, nI_add]) (by decide) rfl ?_
                          refine tr_goto (pc := 123) (tgt := 73) dX9_digestWithMethod_123 (by decide) ?_
                          refine tr_sub (pc := 73) (lv' := [(0, rv a 0), (3, .int (nI m)), (4, .long (dF (dLn P m) (5 * k3 + 5) (dF (fun w => mayV P (4 * m + w)) 4 (dF (aOf P m) 5 x)))), (6, .int (nI (k3 + 1)))]) [1, 2, 3, 0] rfl ?_
                          rw [show 5 * k3 + 5 = 5 * (k3 + 1) by omega]
                          exact ih3 (k3 + 1) (by omega) (by omega)
                        · skip
                          refine tr_ldc2 (pc := 95) dX9_digestWithMethod_95 kl_X9_186 ?_
                          refine tr_lload (pc := 98) 2 dX9_digestWithMethod_98 rfl ?_
                          refine tr_lmul (pc := 100) (v := 31 * (dF (dLn P m) (5 * k3 + k4) (dF (fun w => mayV P (4 * m + w)) 4 (dF (aOf P m) 5 x)))) dX9_digestWithMethod_100 rfl ?_
                          refine tr_aload_n (pc := 101) 0 dX9_digestWithMethod_101 rfl rfl ?_
                          refine tr_iload_n (pc := 102) 1 dX9_digestWithMethod_102 rfl rfl ?_
                          refine tr_iload (pc := 103) 3 dX9_digestWithMethod_103 rfl ?_
                          refine tr_iload (pc := 105) 4 dX9_digestWithMethod_105 rfl ?_
                          refine tr_callV (pc := 107) (rest := [.long (31 * (dF (dLn P m) (5 * k3 + k4) (dF (fun w => mayV P (4 * m + w)) 4 (dF (aOf P m) 5 x))))]) (ci := 9) dX9_digestWithMethod_107 ml_X9_139 cv_X9_ofLine rfl rfl (Nat.le_of_ble_eq_true rfl) (hS.1 0 (12, 14) rfl) rfl (by decide) (c_lineA hS hVB hMP hFn (by omega) (by omega)) ?_
                          rintro _ _ _ ⟨rfl, rfl, rfl⟩
                          show T a 4 mX9_digestWithMethod 110 [(0, rv a 0), (3, .int (nI m)), (4, .long (dF (dLn P m) (5 * k3 + k4) (dF (fun w => mayV P (4 * m + w)) 4 (dF (aOf P m) 5 x)))), (6, .int (nI k3)), (7, .int (nI k4))] [.int (aLine P m k3 k4), .long (31 * (dF (dLn P m) (5 * k3 + k4) (dF (fun w => mayV P (4 * m + w)) 4 (dF (aOf P m) 5 x))))] S h _
                          refine tr_i2l (pc := 110) dX9_digestWithMethod_110 ?_
                          refine tr_ladd (pc := 111) (v := (31 * (dF (dLn P m) (5 * k3 + k4) (dF (fun w => mayV P (4 * m + w)) 4 (dF (aOf P m) 5 x)))) + ((aLine P m k3 k4).toInt64)) dX9_digestWithMethod_111 rfl ?_
                          refine tr_lstore (pc := 112) (lv' := [(4, .long ((31 * (dF (dLn P m) (5 * k3 + k4) (dF (fun w => mayV P (4 * m + w)) 4 (dF (aOf P m) 5 x)))) + ((aLine P m k3 k4).toInt64))), (0, rv a 0), (3, .int (nI m)), (6, .int (nI k3)), (7, .int (nI k4))]) dX9_digestWithMethod_112 (by decide) rfl ?_
                          refine tr_iinc (pc := 114) (v := nI (k4 + 1)) (lv' := [(7, .int (nI (k4 + 1))), (4, .long ((31 * (dF (dLn P m) (5 * k3 + k4) (dF (fun w => mayV P (4 * m + w)) 4 (dF (aOf P m) 5 x)))) + ((aLine P m k3 k4).toInt64))), (0, rv a 0), (3, .int (nI m)), (6, .int (nI k3))]) 4 dX9_digestWithMethod_114 rfl (by rw [show Int32.ofInt 1 = nI 1 from by decide, nI_add]) (by decide) rfl ?_
                          refine tr_goto (pc := 117) (tgt := 89) dX9_digestWithMethod_117 (by decide) ?_
                          refine tr_sub (pc := 89) (lv' := [(0, rv a 0), (3, .int (nI m)), (4, .long ((31 * (dF (dLn P m) (5 * k3 + k4) (dF (fun w => mayV P (4 * m + w)) 4 (dF (aOf P m) 5 x)))) + ((aLine P m k3 k4).toInt64))), (6, .int (nI k3)), (7, .int (nI (k4 + 1)))]) [2, 3, 1, 4, 0] rfl ?_
                          rw [dF_s (g := dLn P m) (k := 5 * k3 + k4) (x := dF (fun w => mayV P (4 * m + w)) 4 (dF (aOf P m) 5 x)) (dLn_e (by omega : k4 < 5)).symm]
                          exact ih4 (k4 + 1) (by omega) (by omega)
                    exact L89 6 0 (by omega) (by omega)
              have K := L73 (lnN P m + 1) 0 (by omega) (by omega)
              rw [Nat.mul_zero, dF_0] at K
              exact K
            · skip
              refine tr_ldc2 (pc := 44) dX9_digestWithMethod_44 kl_X9_186 ?_
              refine tr_lload (pc := 47) 2 dX9_digestWithMethod_47 rfl ?_
              refine tr_lmul (pc := 49) (v := 31 * (dF (fun w => mayV P (4 * m + w)) k2 (dF (aOf P m) 5 x))) dX9_digestWithMethod_49 rfl ?_
              refine tr_aload_n (pc := 50) 0 dX9_digestWithMethod_50 rfl rfl ?_
              refine tr_getR (pc := 51) (q := 35) dX9_digestWithMethod_51 (hS.1 0 (12, 14) rfl) fi_X9_54 rfl (hS.2 0 6 35 rfl) ?_
              refine tr_iload_n (pc := 54) 1 dX9_digestWithMethod_54 rfl rfl ?_
              refine tr_iload (pc := 55) 3 dX9_digestWithMethod_55 rfl ?_
              refine tr_callV (pc := 57) (rest := [.long (31 * (dF (fun w => mayV P (4 * m + w)) k2 (dF (aOf P m) 5 x)))]) (ci := 1) dX9_digestWithMethod_57 ml_X9_147 cv_X1_inName rfl rfl (Nat.le_of_ble_eq_true rfl) (hS.1 35 (4, 6) rfl) rfl (by decide) (c_inName hS hFn.2.1 (by omega) (by omega)) ?_
              rintro _ _ _ ⟨rfl, rfl, rfl⟩
              show T a 4 mX9_digestWithMethod 60 [(0, rv a 0), (3, .int (nI m)), (4, .long (dF (fun w => mayV P (4 * m + w)) k2 (dF (aOf P m) 5 x))), (6, .int (nI k2))] [.int (mayV P (4 * m + k2)), .long (31 * (dF (fun w => mayV P (4 * m + w)) k2 (dF (aOf P m) 5 x)))] S h _
              refine tr_i2l (pc := 60) dX9_digestWithMethod_60 ?_
              refine tr_ladd (pc := 61) (v := (31 * (dF (fun w => mayV P (4 * m + w)) k2 (dF (aOf P m) 5 x))) + ((mayV P (4 * m + k2)).toInt64)) dX9_digestWithMethod_61 rfl ?_
              refine tr_lstore (pc := 62) (lv' := [(4, .long ((31 * (dF (fun w => mayV P (4 * m + w)) k2 (dF (aOf P m) 5 x))) + ((mayV P (4 * m + k2)).toInt64))), (0, rv a 0), (3, .int (nI m)), (6, .int (nI k2))]) dX9_digestWithMethod_62 (by decide) rfl ?_
              refine tr_iinc (pc := 64) (v := nI (k2 + 1)) (lv' := [(6, .int (nI (k2 + 1))), (4, .long ((31 * (dF (fun w => mayV P (4 * m + w)) k2 (dF (aOf P m) 5 x))) + ((mayV P (4 * m + k2)).toInt64))), (0, rv a 0), (3, .int (nI m))]) 3 dX9_digestWithMethod_64 rfl (by rw [show Int32.ofInt 1 = nI 1 from by decide, nI_add]) (by decide) rfl ?_
              refine tr_goto (pc := 67) (tgt := 38) dX9_digestWithMethod_67 (by decide) ?_
              refine tr_sub (pc := 38) (lv' := [(0, rv a 0), (3, .int (nI m)), (4, .long ((31 * (dF (fun w => mayV P (4 * m + w)) k2 (dF (aOf P m) 5 x))) + ((mayV P (4 * m + k2)).toInt64))), (6, .int (nI (k2 + 1)))]) [2, 3, 1, 0] rfl ?_
              rw [dF_s (g := (fun w => mayV P (4 * m + w))) (k := k2) (x := (dF (aOf P m) 5 x)) rfl]
              exact ih2 (k2 + 1) (by omega) (by omega)
        have K := L38 (4 + 1) 0 (by omega) (by omega)
        rw [dF_0] at K
        exact K
      · skip
        refine tr_ldc2 (pc := 12) dX9_digestWithMethod_12 kl_X9_186 ?_
        refine tr_lload (pc := 15) 2 dX9_digestWithMethod_15 rfl ?_
        refine tr_lmul (pc := 17) (v := 31 * (dF (aOf P m) k x)) dX9_digestWithMethod_17 rfl ?_
        refine tr_aload_n (pc := 18) 0 dX9_digestWithMethod_18 rfl rfl ?_
        refine tr_iload_n (pc := 19) 1 dX9_digestWithMethod_19 rfl rfl ?_
        refine tr_iload (pc := 20) 3 dX9_digestWithMethod_20 rfl ?_
        refine tr_callV (pc := 22) (rest := [.long (31 * (dF (aOf P m) k x))]) (ci := 9) dX9_digestWithMethod_22 ml_X9_135 cv_X9_ofMethod rfl rfl (Nat.le_of_ble_eq_true rfl) (hS.1 0 (12, 14) rfl) rfl (by decide) (c_ofA hS hVB hMP hFn hm (by omega)) ?_
        rintro _ _ _ ⟨rfl, rfl, rfl⟩
        show T a 4 mX9_digestWithMethod 25 [(0, rv a 0), (3, .int (nI m)), (4, .long (dF (aOf P m) k x)), (6, .int (nI k))] [.int (aOf P m k), .long (31 * (dF (aOf P m) k x))] S h _
        refine tr_i2l (pc := 25) dX9_digestWithMethod_25 ?_
        refine tr_ladd (pc := 26) (v := (31 * (dF (aOf P m) k x)) + ((aOf P m k).toInt64)) dX9_digestWithMethod_26 rfl ?_
        refine tr_lstore (pc := 27) (lv' := [(4, .long ((31 * (dF (aOf P m) k x)) + ((aOf P m k).toInt64))), (0, rv a 0), (3, .int (nI m)), (6, .int (nI k))]) dX9_digestWithMethod_27 (by decide) rfl ?_
        refine tr_iinc (pc := 29) (v := nI (k + 1)) (lv' := [(6, .int (nI (k + 1))), (4, .long ((31 * (dF (aOf P m) k x)) + ((aOf P m k).toInt64))), (0, rv a 0), (3, .int (nI m))]) 3 dX9_digestWithMethod_29 rfl (by rw [show Int32.ofInt 1 = nI 1 from by decide, nI_add]) (by decide) rfl ?_
        refine tr_goto (pc := 32) (tgt := 6) dX9_digestWithMethod_32 (by decide) ?_
        refine tr_sub (pc := 6) (lv' := [(0, rv a 0), (3, .int (nI m)), (4, .long ((31 * (dF (aOf P m) k x)) + ((aOf P m k).toInt64))), (6, .int (nI (k + 1)))]) [2, 3, 1, 0] rfl ?_
        rw [dF_s (g := (aOf P m)) (k := k) (x := x) rfl]
        exact ih1 (k + 1) (by omega) (by omega)
  have K := L6 (5 + 1) 0 (by omega) (by omega)
  rw [dF_0] at K
  exact K

set_option maxHeartbeats 4000000 in
set_option maxRecDepth 100000 in
theorem c_digS {a : Am} {S : St} {h : Hp} (hS : IsSt S) {P : Prog} (hVB : VB P) (hFn : Fnd h P) (hTr : TrOk S h P) {s : Nat} (hs : s < nSt P) {x : Int64} : CT a 4 mX9_digestWithSite [rv a 0, .long x, .int (nI s)] S h (fun v S' h' => v = some (.long (dS P s x)) ∧ S = S' ∧ h = h') := by
  have hnS := nSt_le hVB
  refine met_of (by decide +kernel) (Nat.le_of_ble_eq_true rfl) ?_
  show T a 4 mX9_digestWithSite 0 [(0, rv a 0), (1, .long x), (3, .int (nI s))] [] S h _
  refine tr_lload_n (pc := 0) 1 dX9_digestWithSite_0 rfl rfl ?_
  refine tr_lstore (pc := 1) (lv' := [(4, .long x), (0, rv a 0), (1, .long x), (3, .int (nI s))]) dX9_digestWithSite_1 (by decide) rfl ?_
  refine tr_iconst (pc := 3) (v := nI 0) dX9_digestWithSite_3 (by decide) ?_
  refine tr_istore (pc := 4) (lv' := [(6, .int (nI 0)), (4, .long x), (0, rv a 0), (1, .long x), (3, .int (nI s))]) dX9_digestWithSite_4 (by decide) rfl ?_
  refine tr_sub (pc := 6) (lv' := [(0, rv a 0), (3, .int (nI s)), (4, .long x), (6, .int (nI 0))]) [2, 4, 1, 0] rfl ?_
  have L6 : ∀ (fu : Nat) (k : Nat), 4 - k < fu → k ≤ 4 → T a 4 mX9_digestWithSite 6 [(0, rv a 0), (3, .int (nI s)), (4, .long (dF (aSite P s) k x)), (6, .int (nI k))] [] S h (fun v S' h' => v = some (.long (dS P s x)) ∧ S = S' ∧ h = h') := by
    intro fu
    induction fu with
    | zero => intro k huk hk; omega
    | succ fu ih1 =>
      intro k huk hk
      refine tr_iload (pc := 6) 3 dX9_digestWithSite_6 rfl ?_
      refine tr_iconst (pc := 8) (v := nI 4) dX9_digestWithSite_8 (by decide) ?_
      refine tr_icmp_ge (pc := 9) (tgt := 35) dX9_digestWithSite_9 (by decide) (nI_leI (by omega) (by omega)) (fun hb9 => ?_) (fun hb9 => ?_)
      · skip
        obtain rfl : k = 4 := by omega
        show T a 4 mX9_digestWithSite 35 [(0, rv a 0), (3, .int (nI s)), (4, .long (dF (aSite P s) 4 x)), (6, .int (nI 4))] [] S h _
        refine tr_iconst (pc := 35) (v := nI 0) dX9_digestWithSite_35 (by decide) ?_
        refine tr_istore (pc := 36) (lv' := [(6, .int (nI 0)), (0, rv a 0), (3, .int (nI s)), (4, .long (dF (aSite P s) 4 x))]) dX9_digestWithSite_36 (by decide) rfl ?_
        refine tr_sub (pc := 38) (lv' := [(0, rv a 0), (3, .int (nI s)), (4, .long (dF (aSite P s) 4 x)), (6, .int (nI 0))]) [1, 2, 3, 0] rfl ?_
        have L38 : ∀ (fu : Nat) (k2 : Nat), 3 - k2 < fu → k2 ≤ 3 → T a 4 mX9_digestWithSite 38 [(0, rv a 0), (3, .int (nI s)), (4, .long (dF (aRan P s) k2 (dF (aSite P s) 4 x))), (6, .int (nI k2))] [] S h (fun v S' h' => v = some (.long (dS P s x)) ∧ S = S' ∧ h = h') := by
          intro fu
          induction fu with
          | zero => intro k2 huk2 hk2; omega
          | succ fu ih2 =>
            intro k2 huk2 hk2
            refine tr_iload (pc := 38) 3 dX9_digestWithSite_38 rfl ?_
            refine tr_iconst (pc := 40) (v := nI 3) dX9_digestWithSite_40 (by decide) ?_
            refine tr_icmp_ge (pc := 41) (tgt := 67) dX9_digestWithSite_41 (by decide) (nI_leI (by omega) (by omega)) (fun hb41 => ?_) (fun hb41 => ?_)
            · skip
              obtain rfl : k2 = 3 := by omega
              show T a 4 mX9_digestWithSite 67 [(0, rv a 0), (3, .int (nI s)), (4, .long (dF (aRan P s) 3 (dF (aSite P s) 4 x))), (6, .int (nI 3))] [] S h _
              refine tr_lload (pc := 67) 2 dX9_digestWithSite_67 rfl ?_
              exact tr_lret (pc := 69) dX9_digestWithSite_69 rfl (⟨by unfold dS; rfl, rfl, rfl⟩)
            · skip
              refine tr_ldc2 (pc := 44) dX9_digestWithSite_44 kl_X9_186 ?_
              refine tr_lload (pc := 47) 2 dX9_digestWithSite_47 rfl ?_
              refine tr_lmul (pc := 49) (v := 31 * (dF (aRan P s) k2 (dF (aSite P s) 4 x))) dX9_digestWithSite_49 rfl ?_
              refine tr_aload_n (pc := 50) 0 dX9_digestWithSite_50 rfl rfl ?_
              refine tr_iload_n (pc := 51) 1 dX9_digestWithSite_51 rfl rfl ?_
              refine tr_iload (pc := 52) 3 dX9_digestWithSite_52 rfl ?_
              refine tr_callV (pc := 54) (rest := [.long (31 * (dF (aRan P s) k2 (dF (aSite P s) 4 x)))]) (ci := 9) dX9_digestWithSite_54 ml_X9_165 cv_X9_ofSiteRun rfl rfl (Nat.le_of_ble_eq_true rfl) (hS.1 0 (12, 14) rfl) rfl (by decide) (c_oranA hS hTr (by omega) (by omega)) ?_
              rintro _ _ _ ⟨rfl, rfl, rfl⟩
              show T a 4 mX9_digestWithSite 57 [(0, rv a 0), (3, .int (nI s)), (4, .long (dF (aRan P s) k2 (dF (aSite P s) 4 x))), (6, .int (nI k2))] [.int (aRan P s k2), .long (31 * (dF (aRan P s) k2 (dF (aSite P s) 4 x)))] S h _
              refine tr_i2l (pc := 57) dX9_digestWithSite_57 ?_
              refine tr_ladd (pc := 58) (v := (31 * (dF (aRan P s) k2 (dF (aSite P s) 4 x))) + ((aRan P s k2).toInt64)) dX9_digestWithSite_58 rfl ?_
              refine tr_lstore (pc := 59) (lv' := [(4, .long ((31 * (dF (aRan P s) k2 (dF (aSite P s) 4 x))) + ((aRan P s k2).toInt64))), (0, rv a 0), (3, .int (nI s)), (6, .int (nI k2))]) dX9_digestWithSite_59 (by decide) rfl ?_
              refine tr_iinc (pc := 61) (v := nI (k2 + 1)) (lv' := [(6, .int (nI (k2 + 1))), (4, .long ((31 * (dF (aRan P s) k2 (dF (aSite P s) 4 x))) + ((aRan P s k2).toInt64))), (0, rv a 0), (3, .int (nI s))]) 3 dX9_digestWithSite_61 rfl (by rw [show Int32.ofInt 1 = nI 1 from by decide, nI_add]) (by decide) rfl ?_
              refine tr_goto (pc := 64) (tgt := 38) dX9_digestWithSite_64 (by decide) ?_
              refine tr_sub (pc := 38) (lv' := [(0, rv a 0), (3, .int (nI s)), (4, .long ((31 * (dF (aRan P s) k2 (dF (aSite P s) 4 x))) + ((aRan P s k2).toInt64))), (6, .int (nI (k2 + 1)))]) [2, 3, 1, 0] rfl ?_
              rw [dF_s (g := (aRan P s)) (k := k2) (x := (dF (aSite P s) 4 x)) rfl]
              exact ih2 (k2 + 1) (by omega) (by omega)
        have K := L38 (3 + 1) 0 (by omega) (by omega)
        rw [dF_0] at K
        exact K
      · skip
        refine tr_ldc2 (pc := 12) dX9_digestWithSite_12 kl_X9_186 ?_
        refine tr_lload (pc := 15) 2 dX9_digestWithSite_15 rfl ?_
        refine tr_lmul (pc := 17) (v := 31 * (dF (aSite P s) k x)) dX9_digestWithSite_17 rfl ?_
        refine tr_aload_n (pc := 18) 0 dX9_digestWithSite_18 rfl rfl ?_
        refine tr_iload_n (pc := 19) 1 dX9_digestWithSite_19 rfl rfl ?_
        refine tr_iload (pc := 20) 3 dX9_digestWithSite_20 rfl ?_
        refine tr_callV (pc := 22) (rest := [.long (31 * (dF (aSite P s) k x))]) (ci := 9) dX9_digestWithSite_22 ml_X9_144 cv_X9_ofSite rfl rfl (Nat.le_of_ble_eq_true rfl) (hS.1 0 (12, 14) rfl) rfl (by decide) (c_siteA hS hVB hFn hs (by omega)) ?_
        rintro _ _ _ ⟨rfl, rfl, rfl⟩
        show T a 4 mX9_digestWithSite 25 [(0, rv a 0), (3, .int (nI s)), (4, .long (dF (aSite P s) k x)), (6, .int (nI k))] [.int (aSite P s k), .long (31 * (dF (aSite P s) k x))] S h _
        refine tr_i2l (pc := 25) dX9_digestWithSite_25 ?_
        refine tr_ladd (pc := 26) (v := (31 * (dF (aSite P s) k x)) + ((aSite P s k).toInt64)) dX9_digestWithSite_26 rfl ?_
        refine tr_lstore (pc := 27) (lv' := [(4, .long ((31 * (dF (aSite P s) k x)) + ((aSite P s k).toInt64))), (0, rv a 0), (3, .int (nI s)), (6, .int (nI k))]) dX9_digestWithSite_27 (by decide) rfl ?_
        refine tr_iinc (pc := 29) (v := nI (k + 1)) (lv' := [(6, .int (nI (k + 1))), (4, .long ((31 * (dF (aSite P s) k x)) + ((aSite P s k).toInt64))), (0, rv a 0), (3, .int (nI s))]) 3 dX9_digestWithSite_29 rfl (by rw [show Int32.ofInt 1 = nI 1 from by decide, nI_add]) (by decide) rfl ?_
        refine tr_goto (pc := 32) (tgt := 6) dX9_digestWithSite_32 (by decide) ?_
        refine tr_sub (pc := 6) (lv' := [(0, rv a 0), (3, .int (nI s)), (4, .long ((31 * (dF (aSite P s) k x)) + ((aSite P s k).toInt64))), (6, .int (nI (k + 1)))]) [2, 3, 1, 0] rfl ?_
        rw [dF_s (g := (aSite P s)) (k := k) (x := x) rfl]
        exact ih1 (k + 1) (by omega) (by omega)
  have K := L6 (4 + 1) 0 (by omega) (by omega)
  rw [dF_0] at K
  exact K

set_option maxHeartbeats 4000000 in
set_option maxRecDepth 100000 in
theorem q_digest {a : Am} {S : St} {h : Hp} {tx : List Nat} {P : Prog} {past : List Prog} {b n f : Int32} (hC : KS S h tx P past b n f) : CT a 20 mX9_digest [rv a 0] S h (fun v S' h' => v = some (.long (dA tx P past b n f)) ∧ KS S' h' tx P past b n f ∧ CF h h') := by
  have hS := hC.1
  obtain ⟨hT, hv⟩ := hC.2.1
  obtain ⟨hMP, hVP⟩ := hC.2.2.1
  have hVB := hVP.1
  have hV1 := hVB.1
  have hnS := nSt_le hVB
  obtain ⟨⟨rr, hSP⟩, hpv⟩ := hC.2.2.2.1
  have hp5 := hSP.2.1
  have hv200 := hv.1
  refine met_of (by decide +kernel) (Nat.le_of_ble_eq_true rfl) ?_
  show T a 20 mX9_digest 0 [(0, rv a 0)] [] S h _
  refine tr_aload_n (pc := 0) 0 dX9_digest_0 rfl rfl ?_
  refine tr_callV (pc := 1) (rest := []) (ci := 9) dX9_digest_1 ml_X9_159 cv_X9_findRun rfl rfl (Nat.le_of_ble_eq_true rfl) (hS.1 0 (12, 14) rfl) rfl (by decide) (c_Fr hC) ?_
  rintro _ S1 h1 ⟨rfl, hC1, hFn1, hTr1, hF1⟩
  have hS1 := hC1.1
  have hMP1 := hC1.2.2.1.1
  show T a 20 mX9_digest 4 [(0, rv a 0)] [] S1 h1 _
  refine tr_ldc2 (pc := 4) dX9_digest_4 kl_X9_184 ?_
  refine tr_lstore_n (pc := 7) (lv' := [(1, .long 2503), (0, rv a 0)]) dX9_digest_7 rfl (by decide) rfl ?_
  refine tr_iconst (pc := 8) (v := nI 0) dX9_digest_8 (by decide) ?_
  refine tr_istore_n (pc := 9) (lv' := [(3, .int (nI 0)), (1, .long 2503), (0, rv a 0)]) dX9_digest_9 rfl (by decide) rfl ?_
  refine tr_sub (pc := 10) (lv' := [(0, rv a 0), (1, .long 2503), (3, .int (nI 0))]) [2, 1, 0] rfl ?_
  have L10 : ∀ (fu : Nat) (k : Nat), 7 - k < fu → k ≤ 7 → T a 20 mX9_digest 10 [(0, rv a 0), (1, .long (dF (aTo tx P past b n f) k 2503)), (3, .int (nI k))] [] S1 h1 (fun v S' h' => v = some (.long (dA tx P past b n f)) ∧ KS S' h' tx P past b n f ∧ CF h h') := by
    intro fu
    induction fu with
    | zero => intro k huk hk; omega
    | succ fu ih1 =>
      intro k huk hk
      refine tr_iload_n (pc := 10) 2 dX9_digest_10 rfl rfl ?_
      refine tr_bipush (pc := 11) (v := nI 7) dX9_digest_11 (by decide) ?_
      refine tr_icmp_ge (pc := 13) (tgt := 35) dX9_digest_13 (by decide) (nI_leI (by omega) (by omega)) (fun hb13 => ?_) (fun hb13 => ?_)
      · skip
        obtain rfl : k = 7 := by omega
        show T a 20 mX9_digest 35 [(0, rv a 0), (1, .long (dF (aTo tx P past b n f) 7 2503)), (3, .int (nI 7))] [] S1 h1 _
        refine tr_iconst (pc := 35) (v := nI 0) dX9_digest_35 (by decide) ?_
        refine tr_istore_n (pc := 36) (lv' := [(3, .int (nI 0)), (0, rv a 0), (1, .long (dF (aTo tx P past b n f) 7 2503))]) dX9_digest_36 rfl (by decide) rfl ?_
        refine tr_sub (pc := 37) (lv' := [(0, rv a 0), (1, .long (dF (aTo tx P past b n f) 7 2503)), (3, .int (nI 0))]) [1, 2, 0] rfl ?_
        have L37 : ∀ (fu : Nat) (k2 : Nat), P.length - k2 < fu → k2 ≤ P.length → T a 20 mX9_digest 37 [(0, rv a 0), (1, .long (dMs P k2 (dF (aTo tx P past b n f) 7 2503))), (3, .int (nI k2))] [] S1 h1 (fun v S' h' => v = some (.long (dA tx P past b n f)) ∧ KS S' h' tx P past b n f ∧ CF h h') := by
          intro fu
          induction fu with
          | zero => intro k2 huk2 hk2; omega
          | succ fu ih2 =>
            intro k2 huk2 hk2
            refine tr_iload_n (pc := 37) 2 dX9_digest_37 rfl rfl ?_
            refine tr_aload_n (pc := 38) 0 dX9_digest_38 rfl rfl ?_
            refine tr_getR (pc := 39) (q := 3) dX9_digest_39 (hS1.1 0 (12, 14) rfl) fi_X9_19 rfl (hS1.2 0 1 3 rfl) ?_
            refine tr_callV (pc := 42) (rest := [.int (nI k2)]) (ci := 2) dX9_digest_42 ml_X9_111 cv_X2_count rfl rfl (Nat.le_of_ble_eq_true rfl) (hS1.1 3 (5, 3) rfl) rfl (by decide) (c_count (mo_3 hS1) hMP1 hVB) ?_
            rintro _ _ _ ⟨rfl, rfl, rfl⟩
            show T a 20 mX9_digest 45 [(0, rv a 0), (1, .long (dMs P k2 (dF (aTo tx P past b n f) 7 2503))), (3, .int (nI k2))] [.int (nI P.length), .int (nI k2)] S1 h1 _
            refine tr_icmp_ge (pc := 45) (tgt := 61) dX9_digest_45 (by decide) (nI_leI (by omega) (by omega)) (fun hb45 => ?_) (fun hb45 => ?_)
            · skip
              obtain rfl : k2 = P.length := by omega
              show T a 20 mX9_digest 61 [(0, rv a 0), (1, .long (dMs P P.length (dF (aTo tx P past b n f) 7 2503))), (3, .int (nI P.length))] [] S1 h1 _
              refine tr_iconst (pc := 61) (v := nI 0) dX9_digest_61 (by decide) ?_
              refine tr_istore_n (pc := 62) (lv' := [(3, .int (nI 0)), (0, rv a 0), (1, .long (dMs P P.length (dF (aTo tx P past b n f) 7 2503)))]) dX9_digest_62 rfl (by decide) rfl ?_
              refine tr_sub (pc := 63) (lv' := [(0, rv a 0), (1, .long (dMs P P.length (dF (aTo tx P past b n f) 7 2503))), (3, .int (nI 0))]) [1, 2, 0] rfl ?_
              have L63 : ∀ (fu : Nat) (k3 : Nat), nSt P - k3 < fu → k3 ≤ nSt P → T a 20 mX9_digest 63 [(0, rv a 0), (1, .long (dSs P k3 (dMs P P.length (dF (aTo tx P past b n f) 7 2503)))), (3, .int (nI k3))] [] S1 h1 (fun v S' h' => v = some (.long (dA tx P past b n f)) ∧ KS S' h' tx P past b n f ∧ CF h h') := by
                intro fu
                induction fu with
                | zero => intro k3 huk3 hk3; omega
                | succ fu ih3 =>
                  intro k3 huk3 hk3
                  refine tr_iload_n (pc := 63) 2 dX9_digest_63 rfl rfl ?_
                  refine tr_aload_n (pc := 64) 0 dX9_digest_64 rfl rfl ?_
                  refine tr_getR (pc := 65) (q := 31) dX9_digest_65 (hS1.1 0 (12, 14) rfl) fi_X9_45 rfl (hS1.2 0 5 31 rfl) ?_
                  refine tr_callV (pc := 68) (rest := [.int (nI k3)]) (ci := 4) dX9_digest_68 ml_X9_143 cv_X4_count rfl rfl (Nat.le_of_ble_eq_true rfl) (hS1.1 31 (7, 4) rfl) rfl (by decide) (c_sitecount hS1 hVB hFn1.1) ?_
                  rintro _ _ _ ⟨rfl, rfl, rfl⟩
                  show T a 20 mX9_digest 71 [(0, rv a 0), (1, .long (dSs P k3 (dMs P P.length (dF (aTo tx P past b n f) 7 2503)))), (3, .int (nI k3))] [.int (nI (nSt P)), .int (nI k3)] S1 h1 _
                  refine tr_icmp_ge (pc := 71) (tgt := 87) dX9_digest_71 (by decide) (nI_leI (by omega) (by omega)) (fun hb71 => ?_) (fun hb71 => ?_)
                  · skip
                    obtain rfl : k3 = nSt P := by omega
                    show T a 20 mX9_digest 87 [(0, rv a 0), (1, .long (dSs P (nSt P) (dMs P P.length (dF (aTo tx P past b n f) 7 2503)))), (3, .int (nI (nSt P)))] [] S1 h1 _
                    refine tr_ldc2 (pc := 87) dX9_digest_87 kl_X9_186 ?_
                    refine tr_lload_n (pc := 90) 1 dX9_digest_90 rfl rfl ?_
                    refine tr_lmul (pc := 91) (v := 31 * (dSs P (nSt P) (dMs P P.length (dF (aTo tx P past b n f) 7 2503)))) dX9_digest_91 rfl ?_
                    refine tr_aload_n (pc := 92) 0 dX9_digest_92 rfl rfl ?_
                    refine tr_getR (pc := 93) (q := 35) dX9_digest_93 (hS1.1 0 (12, 14) rfl) fi_X9_54 rfl (hS1.2 0 6 35 rfl) ?_
                    refine tr_callV (pc := 96) (rest := [.long (31 * (dSs P (nSt P) (dMs P P.length (dF (aTo tx P past b n f) 7 2503))))]) (ci := 1) dX9_digest_96 ml_X9_150 cv_X1_inOpenPlace rfl rfl (Nat.le_of_ble_eq_true rfl) (hS1.1 35 (4, 6) rfl) rfl (by decide) (c_inOpen hS1 hFn1.2.1) ?_
                    rintro _ _ _ ⟨rfl, rfl, rfl⟩
                    show T a 20 mX9_digest 99 [(0, rv a 0), (1, .long (dSs P (nSt P) (dMs P P.length (dF (aTo tx P past b n f) 7 2503)))), (3, .int (nI (nSt P)))] [.int (mayV P 16), .long (31 * (dSs P (nSt P) (dMs P P.length (dF (aTo tx P past b n f) 7 2503))))] S1 h1 _
                    refine tr_i2l (pc := 99) dX9_digest_99 ?_
                    refine tr_ladd (pc := 100) (v := (31 * (dSs P (nSt P) (dMs P P.length (dF (aTo tx P past b n f) 7 2503)))) + ((mayV P 16).toInt64)) dX9_digest_100 rfl ?_
                    refine tr_lstore_n (pc := 101) (lv' := [(1, .long ((31 * (dSs P (nSt P) (dMs P P.length (dF (aTo tx P past b n f) 7 2503)))) + ((mayV P 16).toInt64))), (0, rv a 0), (3, .int (nI (nSt P)))]) dX9_digest_101 rfl (by decide) rfl ?_
                    refine tr_iconst (pc := 102) (v := nI 0) dX9_digest_102 (by decide) ?_
                    refine tr_istore_n (pc := 103) (lv' := [(3, .int (nI 0)), (1, .long ((31 * (dSs P (nSt P) (dMs P P.length (dF (aTo tx P past b n f) 7 2503)))) + ((mayV P 16).toInt64))), (0, rv a 0)]) dX9_digest_103 rfl (by decide) rfl ?_
                    refine tr_sub (pc := 104) (lv' := [(0, rv a 0), (1, .long ((31 * (dSs P (nSt P) (dMs P P.length (dF (aTo tx P past b n f) 7 2503)))) + ((mayV P 16).toInt64))), (3, .int (nI 0))]) [2, 1, 0] rfl ?_
                    have L104 : ∀ (fu : Nat) (k4 : Nat), 6 - k4 < fu → k4 ≤ 6 → T a 20 mX9_digest 104 [(0, rv a 0), (1, .long (dF (aRun P) k4 (31 * dSs P (nSt P) (dMs P P.length (dF (aTo tx P past b n f) 7 2503)) + (mayV P 16).toInt64))), (3, .int (nI k4))] [] S1 h1 (fun v S' h' => v = some (.long (dA tx P past b n f)) ∧ KS S' h' tx P past b n f ∧ CF h h') := by
                      intro fu
                      induction fu with
                      | zero => intro k4 huk4 hk4; omega
                      | succ fu ih4 =>
                        intro k4 huk4 hk4
                        refine tr_iload_n (pc := 104) 2 dX9_digest_104 rfl rfl ?_
                        refine tr_bipush (pc := 105) (v := nI 6) dX9_digest_105 (by decide) ?_
                        refine tr_icmp_ge (pc := 107) (tgt := 129) dX9_digest_107 (by decide) (nI_leI (by omega) (by omega)) (fun hb107 => ?_) (fun hb107 => ?_)
                        · skip
                          obtain rfl : k4 = 6 := by omega
                          show T a 20 mX9_digest 129 [(0, rv a 0), (1, .long (dF (aRun P) 6 (31 * dSs P (nSt P) (dMs P P.length (dF (aTo tx P past b n f) 7 2503)) + (mayV P 16).toInt64))), (3, .int (nI 6))] [] S1 h1 _
                          refine tr_ldc2 (pc := 129) dX9_digest_129 kl_X9_186 ?_
                          refine tr_lload_n (pc := 132) 1 dX9_digest_132 rfl rfl ?_
                          refine tr_lmul (pc := 133) (v := 31 * (dF (aRun P) 6 (31 * dSs P (nSt P) (dMs P P.length (dF (aTo tx P past b n f) 7 2503)) + (mayV P 16).toInt64))) dX9_digest_133 rfl ?_
                          refine tr_aload_n (pc := 134) 0 dX9_digest_134 rfl rfl ?_
                          refine tr_getR (pc := 135) (q := 41) dX9_digest_135 (hS1.1 0 (12, 14) rfl) fi_X9_72 rfl (hS1.2 0 8 41 rfl) ?_
                          refine tr_callV (pc := 138) (rest := [.long (31 * (dF (aRun P) 6 (31 * dSs P (nSt P) (dMs P P.length (dF (aTo tx P past b n f) 7 2503)) + (mayV P 16).toInt64)))]) (ci := 8) dX9_digest_138 ml_X9_168 cv_X8_siteInOpenPlace rfl rfl (Nat.le_of_ble_eq_true rfl) (hS1.1 41 (11, 18) rfl) rfl (by decide) (c_tsite hS1 hVP hTr1) ?_
                          rintro _ _ _ ⟨rfl, rfl, rfl⟩
                          show T a 20 mX9_digest 141 [(0, rv a 0), (1, .long (dF (aRun P) 6 (31 * dSs P (nSt P) (dMs P P.length (dF (aTo tx P past b n f) 7 2503)) + (mayV P 16).toInt64))), (3, .int (nI 6))] [.int (aHeld P), .long (31 * (dF (aRun P) 6 (31 * dSs P (nSt P) (dMs P P.length (dF (aTo tx P past b n f) 7 2503)) + (mayV P 16).toInt64)))] S1 h1 _
                          refine tr_i2l (pc := 141) dX9_digest_141 ?_
                          refine tr_ladd (pc := 142) (v := (31 * (dF (aRun P) 6 (31 * dSs P (nSt P) (dMs P P.length (dF (aTo tx P past b n f) 7 2503)) + (mayV P 16).toInt64))) + ((aHeld P).toInt64)) dX9_digest_142 rfl ?_
                          exact tr_lret (pc := 143) dX9_digest_143 rfl (⟨by unfold dA; rfl, hC1, hF1⟩)
                        · skip
                          refine tr_ldc2 (pc := 110) dX9_digest_110 kl_X9_186 ?_
                          refine tr_lload_n (pc := 113) 1 dX9_digest_113 rfl rfl ?_
                          refine tr_lmul (pc := 114) (v := 31 * (dF (aRun P) k4 (31 * dSs P (nSt P) (dMs P P.length (dF (aTo tx P past b n f) 7 2503)) + (mayV P 16).toInt64))) dX9_digest_114 rfl ?_
                          refine tr_aload_n (pc := 115) 0 dX9_digest_115 rfl rfl ?_
                          refine tr_iload_n (pc := 116) 2 dX9_digest_116 rfl rfl ?_
                          refine tr_callV (pc := 117) (rest := [.long (31 * (dF (aRun P) k4 (31 * dSs P (nSt P) (dMs P P.length (dF (aTo tx P past b n f) 7 2503)) + (mayV P 16).toInt64)))]) (ci := 9) dX9_digest_117 ml_X9_162 cv_X9_ofRun rfl rfl (Nat.le_of_ble_eq_true rfl) (hS1.1 0 (12, 14) rfl) rfl (by decide) (c_orunA hS1 hTr1 (by omega)) ?_
                          rintro _ _ _ ⟨rfl, rfl, rfl⟩
                          show T a 20 mX9_digest 120 [(0, rv a 0), (1, .long (dF (aRun P) k4 (31 * dSs P (nSt P) (dMs P P.length (dF (aTo tx P past b n f) 7 2503)) + (mayV P 16).toInt64))), (3, .int (nI k4))] [.int (aRun P k4), .long (31 * (dF (aRun P) k4 (31 * dSs P (nSt P) (dMs P P.length (dF (aTo tx P past b n f) 7 2503)) + (mayV P 16).toInt64)))] S1 h1 _
                          refine tr_i2l (pc := 120) dX9_digest_120 ?_
                          refine tr_ladd (pc := 121) (v := (31 * (dF (aRun P) k4 (31 * dSs P (nSt P) (dMs P P.length (dF (aTo tx P past b n f) 7 2503)) + (mayV P 16).toInt64))) + ((aRun P k4).toInt64)) dX9_digest_121 rfl ?_
                          refine tr_lstore_n (pc := 122) (lv' := [(1, .long ((31 * (dF (aRun P) k4 (31 * dSs P (nSt P) (dMs P P.length (dF (aTo tx P past b n f) 7 2503)) + (mayV P 16).toInt64))) + ((aRun P k4).toInt64))), (0, rv a 0), (3, .int (nI k4))]) dX9_digest_122 rfl (by decide) rfl ?_
                          refine tr_iinc (pc := 123) (v := nI (k4 + 1)) (lv' := [(3, .int (nI (k4 + 1))), (1, .long ((31 * (dF (aRun P) k4 (31 * dSs P (nSt P) (dMs P P.length (dF (aTo tx P past b n f) 7 2503)) + (mayV P 16).toInt64))) + ((aRun P k4).toInt64))), (0, rv a 0)]) 2 dX9_digest_123 rfl (by rw [show Int32.ofInt 1 = nI 1 from by decide, nI_add]) (by decide) rfl ?_
                          refine tr_goto (pc := 126) (tgt := 104) dX9_digest_126 (by decide) ?_
                          refine tr_sub (pc := 104) (lv' := [(0, rv a 0), (1, .long ((31 * (dF (aRun P) k4 (31 * dSs P (nSt P) (dMs P P.length (dF (aTo tx P past b n f) 7 2503)) + (mayV P 16).toInt64))) + ((aRun P k4).toInt64))), (3, .int (nI (k4 + 1)))]) [2, 1, 0] rfl ?_
                          rw [dF_s (g := (aRun P)) (k := k4) (x := (31 * dSs P (nSt P) (dMs P P.length (dF (aTo tx P past b n f) 7 2503)) + (mayV P 16).toInt64)) rfl]
                          exact ih4 (k4 + 1) (by omega) (by omega)
                    have K := L104 (6 + 1) 0 (by omega) (by omega)
                    rw [dF_0] at K
                    exact K
                  · skip
                    refine tr_aload_n (pc := 74) 0 dX9_digest_74 rfl rfl ?_
                    refine tr_lload_n (pc := 75) 1 dX9_digest_75 rfl rfl ?_
                    refine tr_iload_n (pc := 76) 2 dX9_digest_76 rfl rfl ?_
                    refine tr_callV (pc := 77) (rest := []) (ci := 9) dX9_digest_77 ml_X9_192 cv_X9_digestWithSite rfl rfl (Nat.le_of_ble_eq_true rfl) (hS1.1 0 (12, 14) rfl) rfl (by decide) (c_digS hS1 hVB hFn1 hTr1 (by omega)) ?_
                    rintro _ _ _ ⟨rfl, rfl, rfl⟩
                    show T a 20 mX9_digest 80 [(0, rv a 0), (1, .long (dSs P k3 (dMs P P.length (dF (aTo tx P past b n f) 7 2503)))), (3, .int (nI k3))] [.long (dS P k3 (dSs P k3 (dMs P P.length (dF (aTo tx P past b n f) 7 2503))))] S1 h1 _
                    refine tr_lstore_n (pc := 80) (lv' := [(1, .long (dS P k3 (dSs P k3 (dMs P P.length (dF (aTo tx P past b n f) 7 2503))))), (0, rv a 0), (3, .int (nI k3))]) dX9_digest_80 rfl (by decide) rfl ?_
                    refine tr_iinc (pc := 81) (v := nI (k3 + 1)) (lv' := [(3, .int (nI (k3 + 1))), (1, .long (dS P k3 (dSs P k3 (dMs P P.length (dF (aTo tx P past b n f) 7 2503))))), (0, rv a 0)]) 2 dX9_digest_81 rfl (by rw [show Int32.ofInt 1 = nI 1 from by decide, nI_add]) (by decide) rfl ?_
                    refine tr_goto (pc := 84) (tgt := 63) dX9_digest_84 (by decide) ?_
                    refine tr_sub (pc := 63) (lv' := [(0, rv a 0), (1, .long (dS P k3 (dSs P k3 (dMs P P.length (dF (aTo tx P past b n f) 7 2503))))), (3, .int (nI (k3 + 1)))]) [2, 1, 0] rfl ?_
                    rw [dSs_t]
                    exact ih3 (k3 + 1) (by omega) (by omega)
              have K := L63 (nSt P + 1) 0 (by omega) (by omega)
              rw [dSs_0] at K
              exact K
            · skip
              refine tr_aload_n (pc := 48) 0 dX9_digest_48 rfl rfl ?_
              refine tr_lload_n (pc := 49) 1 dX9_digest_49 rfl rfl ?_
              refine tr_iload_n (pc := 50) 2 dX9_digest_50 rfl rfl ?_
              refine tr_callV (pc := 51) (rest := []) (ci := 9) dX9_digest_51 ml_X9_188 cv_X9_digestWithMethod rfl rfl (Nat.le_of_ble_eq_true rfl) (hS1.1 0 (12, 14) rfl) rfl (by decide) (c_digM hS1 hVB hMP1 hFn1 (by omega)) ?_
              rintro _ _ _ ⟨rfl, rfl, rfl⟩
              show T a 20 mX9_digest 54 [(0, rv a 0), (1, .long (dMs P k2 (dF (aTo tx P past b n f) 7 2503))), (3, .int (nI k2))] [.long (dM P k2 (dMs P k2 (dF (aTo tx P past b n f) 7 2503)))] S1 h1 _
              refine tr_lstore_n (pc := 54) (lv' := [(1, .long (dM P k2 (dMs P k2 (dF (aTo tx P past b n f) 7 2503)))), (0, rv a 0), (3, .int (nI k2))]) dX9_digest_54 rfl (by decide) rfl ?_
              refine tr_iinc (pc := 55) (v := nI (k2 + 1)) (lv' := [(3, .int (nI (k2 + 1))), (1, .long (dM P k2 (dMs P k2 (dF (aTo tx P past b n f) 7 2503)))), (0, rv a 0)]) 2 dX9_digest_55 rfl (by rw [show Int32.ofInt 1 = nI 1 from by decide, nI_add]) (by decide) rfl ?_
              refine tr_goto (pc := 58) (tgt := 37) dX9_digest_58 (by decide) ?_
              refine tr_sub (pc := 37) (lv' := [(0, rv a 0), (1, .long (dM P k2 (dMs P k2 (dF (aTo tx P past b n f) 7 2503)))), (3, .int (nI (k2 + 1)))]) [2, 1, 0] rfl ?_
              rw [dMs_t]
              exact ih2 (k2 + 1) (by omega) (by omega)
        have K := L37 (P.length + 1) 0 (by omega) (by omega)
        rw [dMs_0] at K
        exact K
      · skip
        refine tr_ldc2 (pc := 16) dX9_digest_16 kl_X9_186 ?_
        refine tr_lload_n (pc := 19) 1 dX9_digest_19 rfl rfl ?_
        refine tr_lmul (pc := 20) (v := 31 * (dF (aTo tx P past b n f) k 2503)) dX9_digest_20 rfl ?_
        refine tr_aload_n (pc := 21) 0 dX9_digest_21 rfl rfl ?_
        refine tr_iload_n (pc := 22) 2 dX9_digest_22 rfl rfl ?_
        refine tr_callV (pc := 23) (rest := [.long (31 * (dF (aTo tx P past b n f) k 2503))]) (ci := 9) dX9_digest_23 ml_X9_181 cv_X9_ofAll rfl rfl (Nat.le_of_ble_eq_true rfl) (hS1.1 0 (12, 14) rfl) rfl (by decide) (c_ofAllA hC1 hFn1 (by omega)) ?_
        rintro _ _ _ ⟨rfl, rfl, rfl⟩
        show T a 20 mX9_digest 26 [(0, rv a 0), (1, .long (dF (aTo tx P past b n f) k 2503)), (3, .int (nI k))] [.int (aTo tx P past b n f k), .long (31 * (dF (aTo tx P past b n f) k 2503))] S1 h1 _
        refine tr_i2l (pc := 26) dX9_digest_26 ?_
        refine tr_ladd (pc := 27) (v := (31 * (dF (aTo tx P past b n f) k 2503)) + ((aTo tx P past b n f k).toInt64)) dX9_digest_27 rfl ?_
        refine tr_lstore_n (pc := 28) (lv' := [(1, .long ((31 * (dF (aTo tx P past b n f) k 2503)) + ((aTo tx P past b n f k).toInt64))), (0, rv a 0), (3, .int (nI k))]) dX9_digest_28 rfl (by decide) rfl ?_
        refine tr_iinc (pc := 29) (v := nI (k + 1)) (lv' := [(3, .int (nI (k + 1))), (1, .long ((31 * (dF (aTo tx P past b n f) k 2503)) + ((aTo tx P past b n f k).toInt64))), (0, rv a 0)]) 2 dX9_digest_29 rfl (by rw [show Int32.ofInt 1 = nI 1 from by decide, nI_add]) (by decide) rfl ?_
        refine tr_goto (pc := 32) (tgt := 10) dX9_digest_32 (by decide) ?_
        refine tr_sub (pc := 10) (lv' := [(0, rv a 0), (1, .long ((31 * (dF (aTo tx P past b n f) k 2503)) + ((aTo tx P past b n f k).toInt64))), (3, .int (nI (k + 1)))]) [2, 1, 0] rfl ?_
        rw [dF_s (g := (aTo tx P past b n f)) (k := k) (x := 2503) rfl]
        exact ih1 (k + 1) (by omega) (by omega)
  have K := L10 (7 + 1) 0 (by omega) (by omega)
  rw [dF_0] at K
  exact K

set_option maxHeartbeats 4000000 in
set_option maxRecDepth 100000 in
theorem n_digest {a : Am} {S : St} {h : Hp} (hS : IsSt S) {tx : List Nat} {P : Prog} {past : List Prog} {b n f : Int32} (hM : KM h tx P past b n f) (hv : TV tx) (hVP : VP P) (hpv : ∀ Q ∈ past, VP Q) (hp5 : past.length ≤ 5) : CT a 20 mX10_digest [rv a 50] S h (fun v S' h' => v = some (.long (dA tx P past b n f)) ∧ S = S' ∧ KM h' tx P past b n f ∧ MF h h') := by
  obtain ⟨hX, hN, ⟨hst, hpa⟩, hrf⟩ := hM
  have hM : KM h tx P past b n f := ⟨hX, hN, ⟨hst, hpa⟩, hrf⟩
  have hVB := hVP.1
  have hV1 := hVB.1
  have hv200 := hv.1
  have hnS := nSt_le hVB
  refine met_of (by decide +kernel) (Nat.le_of_ble_eq_true rfl) ?_
  show T a 20 mX10_digest 0 [(0, rv a 50)] [] S h _
  refine tr_aload_n (pc := 0) 0 dX10_digest_0 rfl rfl ?_
  refine tr_callV (pc := 1) (rest := []) (ci := 10) dX10_digest_1 ml_X10_273 cv_X10_goRun rfl rfl (Nat.le_of_ble_eq_true rfl) (hS.1 50 (13, 45) rfl) rfl (by decide) (c_mgo hS hVP hN) ?_
  rintro _ _ h1 ⟨rfl, rfl, ⟨hSN1, hMN1, hTM1⟩, hf1⟩
  have hM1 := hM.q hf1 (by decide) (by decide) (by decide) (by decide) (by decide) (by decide)
  have hN1 := hM1.2.1
  have hF1 : MF h h1 := hf1.mf (by decide)
  show T a 20 mX10_digest 4 [(0, rv a 50)] [] S h1 _
  refine tr_ldc2 (pc := 4) dX10_digest_4 kl_X10_288 ?_
  refine tr_lstore_n (pc := 7) (lv' := [(1, .long 2503), (0, rv a 50)]) dX10_digest_7 rfl (by decide) rfl ?_
  refine tr_iconst (pc := 8) (v := nI 0) dX10_digest_8 (by decide) ?_
  refine tr_istore_n (pc := 9) (lv' := [(3, .int (nI 0)), (1, .long 2503), (0, rv a 50)]) dX10_digest_9 rfl (by decide) rfl ?_
  refine tr_sub (pc := 10) (lv' := [(0, rv a 50), (1, .long 2503), (3, .int (nI 0))]) [2, 1, 0] rfl ?_
  have L10 : ∀ (fu : Nat) (k : Nat), 7 - k < fu → k ≤ 7 → T a 20 mX10_digest 10 [(0, rv a 50), (1, .long (dF (aTo tx P past b n f) k 2503)), (3, .int (nI k))] [] S h1 (fun v S' h' => v = some (.long (dA tx P past b n f)) ∧ S = S' ∧ KM h' tx P past b n f ∧ MF h h') := by
    intro fu
    induction fu with
    | zero => intro k huk hk; omega
    | succ fu ih1 =>
      intro k huk hk
      refine tr_iload_n (pc := 10) 2 dX10_digest_10 rfl rfl ?_
      refine tr_bipush (pc := 11) (v := nI 7) dX10_digest_11 (by decide) ?_
      refine tr_icmp_ge (pc := 13) (tgt := 35) dX10_digest_13 (by decide) (nI_leI (by omega) (by omega)) (fun hb13 => ?_) (fun hb13 => ?_)
      · skip
        obtain rfl : k = 7 := by omega
        show T a 20 mX10_digest 35 [(0, rv a 50), (1, .long (dF (aTo tx P past b n f) 7 2503)), (3, .int (nI 7))] [] S h1 _
        refine tr_iconst (pc := 35) (v := nI 0) dX10_digest_35 (by decide) ?_
        refine tr_istore_n (pc := 36) (lv' := [(3, .int (nI 0)), (0, rv a 50), (1, .long (dF (aTo tx P past b n f) 7 2503))]) dX10_digest_36 rfl (by decide) rfl ?_
        refine tr_sub (pc := 37) (lv' := [(0, rv a 50), (1, .long (dF (aTo tx P past b n f) 7 2503)), (3, .int (nI 0))]) [1, 2, 0] rfl ?_
        have L37 : ∀ (fu : Nat) (k2 : Nat), P.length - k2 < fu → k2 ≤ P.length → T a 20 mX10_digest 37 [(0, rv a 50), (1, .long (dMs P k2 (dF (aTo tx P past b n f) 7 2503))), (3, .int (nI k2))] [] S h1 (fun v S' h' => v = some (.long (dA tx P past b n f)) ∧ S = S' ∧ KM h' tx P past b n f ∧ MF h h') := by
          intro fu
          induction fu with
          | zero => intro k2 huk2 hk2; omega
          | succ fu ih2 =>
            intro k2 huk2 hk2
            refine tr_iload_n (pc := 37) 2 dX10_digest_37 rfl rfl ?_
            refine tr_aload_n (pc := 38) 0 dX10_digest_38 rfl rfl ?_
            refine tr_getR (pc := 39) (q := 51) dX10_digest_39 (hS.1 50 (13, 45) rfl) fi_X10_7 rfl (hS.2 50 0 51 rfl) ?_
            refine tr_iconst (pc := 42) (v := nI 0) dX10_digest_42 (by decide) ?_
            refine tr_iald (pc := 43) (v := nI P.length) 0 dX10_digest_43 (hS.1 51 (0, 133) rfl) rfl (by decide) (by decide) hN1.1 ?_
            refine tr_icmp_ge (pc := 44) (tgt := 159) dX10_digest_44 (by decide) (nI_leI (by omega) (by omega)) (fun hb44 => ?_) (fun hb44 => ?_)
            · skip
              obtain rfl : k2 = P.length := by omega
              show T a 20 mX10_digest 159 [(0, rv a 50), (1, .long (dMs P P.length (dF (aTo tx P past b n f) 7 2503))), (3, .int (nI P.length))] [] S h1 _
              refine tr_iconst (pc := 159) (v := nI 0) dX10_digest_159 (by decide) ?_
              refine tr_istore_n (pc := 160) (lv' := [(3, .int (nI 0)), (0, rv a 50), (1, .long (dMs P P.length (dF (aTo tx P past b n f) 7 2503)))]) dX10_digest_160 rfl (by decide) rfl ?_
              refine tr_sub (pc := 161) (lv' := [(0, rv a 50), (1, .long (dMs P P.length (dF (aTo tx P past b n f) 7 2503))), (3, .int (nI 0))]) [1, 2, 0] rfl ?_
              have L161 : ∀ (fu : Nat) (k6 : Nat), nSt P - k6 < fu → k6 ≤ nSt P → T a 20 mX10_digest 161 [(0, rv a 50), (1, .long (dSs P k6 (dMs P P.length (dF (aTo tx P past b n f) 7 2503)))), (3, .int (nI k6))] [] S h1 (fun v S' h' => v = some (.long (dA tx P past b n f)) ∧ S = S' ∧ KM h' tx P past b n f ∧ MF h h') := by
                intro fu
                induction fu with
                | zero => intro k6 huk6 hk6; omega
                | succ fu ih6 =>
                  intro k6 huk6 hk6
                  refine tr_iload_n (pc := 161) 2 dX10_digest_161 rfl rfl ?_
                  refine tr_aload_n (pc := 162) 0 dX10_digest_162 rfl rfl ?_
                  refine tr_getI (pc := 163) (x := nI (nSt P)) dX10_digest_163 (hS.1 50 (13, 45) rfl) fi_X10_175 rfl hSN1.1 ?_
                  refine tr_icmp_ge (pc := 166) (tgt := 235) dX10_digest_166 (by decide) (nI_leI (by omega) (by omega)) (fun hb166 => ?_) (fun hb166 => ?_)
                  · skip
                    obtain rfl : k6 = nSt P := by omega
                    show T a 20 mX10_digest 235 [(0, rv a 50), (1, .long (dSs P (nSt P) (dMs P P.length (dF (aTo tx P past b n f) 7 2503)))), (3, .int (nI (nSt P)))] [] S h1 _
                    refine tr_ldc2 (pc := 235) dX10_digest_235 kl_X10_290 ?_
                    refine tr_lload_n (pc := 238) 1 dX10_digest_238 rfl rfl ?_
                    refine tr_lmul (pc := 239) (v := 31 * (dSs P (nSt P) (dMs P P.length (dF (aTo tx P past b n f) 7 2503)))) dX10_digest_239 rfl ?_
                    refine tr_aload_n (pc := 240) 0 dX10_digest_240 rfl rfl ?_
                    refine tr_getR (pc := 241) (q := 61) dX10_digest_241 (hS.1 50 (13, 45) rfl) fi_X10_40 rfl (hS.2 50 21 61 rfl) ?_
                    refine tr_bipush (pc := 244) (v := nI 16) dX10_digest_244 (by decide) ?_
                    refine tr_iald (pc := 246) (v := mayV P 16) 16 dX10_digest_246 (hS.1 61 (0, 49) rfl) rfl (by decide) (by decide) (hMN1.1 _ (by decide)) ?_
                    refine tr_i2l (pc := 247) dX10_digest_247 ?_
                    refine tr_ladd (pc := 248) (v := (31 * (dSs P (nSt P) (dMs P P.length (dF (aTo tx P past b n f) 7 2503)))) + ((mayV P 16).toInt64)) dX10_digest_248 rfl ?_
                    refine tr_lstore_n (pc := 249) (lv' := [(1, .long ((31 * (dSs P (nSt P) (dMs P P.length (dF (aTo tx P past b n f) 7 2503)))) + ((mayV P 16).toInt64))), (0, rv a 50), (3, .int (nI (nSt P)))]) dX10_digest_249 rfl (by decide) rfl ?_
                    refine tr_iconst (pc := 250) (v := nI 0) dX10_digest_250 (by decide) ?_
                    refine tr_istore_n (pc := 251) (lv' := [(3, .int (nI 0)), (1, .long ((31 * (dSs P (nSt P) (dMs P P.length (dF (aTo tx P past b n f) 7 2503)))) + ((mayV P 16).toInt64))), (0, rv a 50)]) dX10_digest_251 rfl (by decide) rfl ?_
                    refine tr_sub (pc := 252) (lv' := [(0, rv a 50), (1, .long ((31 * (dSs P (nSt P) (dMs P P.length (dF (aTo tx P past b n f) 7 2503)))) + ((mayV P 16).toInt64))), (3, .int (nI 0))]) [2, 1, 0] rfl ?_
                    have L252 : ∀ (fu : Nat) (k9 : Nat), 6 - k9 < fu → k9 ≤ 6 → T a 20 mX10_digest 252 [(0, rv a 50), (1, .long (dF (aRun P) k9 (31 * dSs P (nSt P) (dMs P P.length (dF (aTo tx P past b n f) 7 2503)) + (mayV P 16).toInt64))), (3, .int (nI k9))] [] S h1 (fun v S' h' => v = some (.long (dA tx P past b n f)) ∧ S = S' ∧ KM h' tx P past b n f ∧ MF h h') := by
                      intro fu
                      induction fu with
                      | zero => intro k9 huk9 hk9; omega
                      | succ fu ih9 =>
                        intro k9 huk9 hk9
                        refine tr_iload_n (pc := 252) 2 dX10_digest_252 rfl rfl ?_
                        refine tr_bipush (pc := 253) (v := nI 6) dX10_digest_253 (by decide) ?_
                        refine tr_icmp_ge (pc := 255) (tgt := 277) dX10_digest_255 (by decide) (nI_leI (by omega) (by omega)) (fun hb255 => ?_) (fun hb255 => ?_)
                        · skip
                          obtain rfl : k9 = 6 := by omega
                          show T a 20 mX10_digest 277 [(0, rv a 50), (1, .long (dF (aRun P) 6 (31 * dSs P (nSt P) (dMs P P.length (dF (aTo tx P past b n f) 7 2503)) + (mayV P 16).toInt64))), (3, .int (nI 6))] [] S h1 _
                          refine tr_ldc2 (pc := 277) dX10_digest_277 kl_X10_290 ?_
                          refine tr_lload_n (pc := 280) 1 dX10_digest_280 rfl rfl ?_
                          refine tr_lmul (pc := 281) (v := 31 * (dF (aRun P) 6 (31 * dSs P (nSt P) (dMs P P.length (dF (aTo tx P past b n f) 7 2503)) + (mayV P 16).toInt64))) dX10_digest_281 rfl ?_
                          refine tr_aload_n (pc := 282) 0 dX10_digest_282 rfl rfl ?_
                          refine tr_callV (pc := 283) (rest := [.long (31 * (dF (aRun P) 6 (31 * dSs P (nSt P) (dMs P P.length (dF (aTo tx P past b n f) 7 2503)) + (mayV P 16).toInt64)))]) (ci := 10) dX10_digest_283 ml_X10_282 cv_X10_heldNow rfl rfl (Nat.le_of_ble_eq_true rfl) (hS.1 50 (13, 45) rfl) rfl (by decide) (c_mheld hS hTM1 hVP) ?_
                          rintro _ _ _ ⟨rfl, rfl, rfl⟩
                          show T a 20 mX10_digest 286 [(0, rv a 50), (1, .long (dF (aRun P) 6 (31 * dSs P (nSt P) (dMs P P.length (dF (aTo tx P past b n f) 7 2503)) + (mayV P 16).toInt64))), (3, .int (nI 6))] [.int (aHeld P), .long (31 * (dF (aRun P) 6 (31 * dSs P (nSt P) (dMs P P.length (dF (aTo tx P past b n f) 7 2503)) + (mayV P 16).toInt64)))] S h1 _
                          refine tr_i2l (pc := 286) dX10_digest_286 ?_
                          refine tr_ladd (pc := 287) (v := (31 * (dF (aRun P) 6 (31 * dSs P (nSt P) (dMs P P.length (dF (aTo tx P past b n f) 7 2503)) + (mayV P 16).toInt64))) + ((aHeld P).toInt64)) dX10_digest_287 rfl ?_
                          exact tr_lret (pc := 288) dX10_digest_288 rfl (⟨by unfold dA; rfl, rfl, hM1, hF1⟩)
                        · skip
                          refine tr_ldc2 (pc := 258) dX10_digest_258 kl_X10_290 ?_
                          refine tr_lload_n (pc := 261) 1 dX10_digest_261 rfl rfl ?_
                          refine tr_lmul (pc := 262) (v := 31 * (dF (aRun P) k9 (31 * dSs P (nSt P) (dMs P P.length (dF (aTo tx P past b n f) 7 2503)) + (mayV P 16).toInt64))) dX10_digest_262 rfl ?_
                          refine tr_aload_n (pc := 263) 0 dX10_digest_263 rfl rfl ?_
                          refine tr_iload_n (pc := 264) 2 dX10_digest_264 rfl rfl ?_
                          refine tr_callV (pc := 265) (rest := [.long (31 * (dF (aRun P) k9 (31 * dSs P (nSt P) (dMs P P.length (dF (aTo tx P past b n f) 7 2503)) + (mayV P 16).toInt64)))]) (ci := 10) dX10_digest_265 ml_X10_276 cv_X10_ofRun rfl rfl (Nat.le_of_ble_eq_true rfl) (hS.1 50 (13, 45) rfl) rfl (by decide) (c_morunA hS hTM1 (by omega)) ?_
                          rintro _ _ _ ⟨rfl, rfl, rfl⟩
                          show T a 20 mX10_digest 268 [(0, rv a 50), (1, .long (dF (aRun P) k9 (31 * dSs P (nSt P) (dMs P P.length (dF (aTo tx P past b n f) 7 2503)) + (mayV P 16).toInt64))), (3, .int (nI k9))] [.int (aRun P k9), .long (31 * (dF (aRun P) k9 (31 * dSs P (nSt P) (dMs P P.length (dF (aTo tx P past b n f) 7 2503)) + (mayV P 16).toInt64)))] S h1 _
                          refine tr_i2l (pc := 268) dX10_digest_268 ?_
                          refine tr_ladd (pc := 269) (v := (31 * (dF (aRun P) k9 (31 * dSs P (nSt P) (dMs P P.length (dF (aTo tx P past b n f) 7 2503)) + (mayV P 16).toInt64))) + ((aRun P k9).toInt64)) dX10_digest_269 rfl ?_
                          refine tr_lstore_n (pc := 270) (lv' := [(1, .long ((31 * (dF (aRun P) k9 (31 * dSs P (nSt P) (dMs P P.length (dF (aTo tx P past b n f) 7 2503)) + (mayV P 16).toInt64))) + ((aRun P k9).toInt64))), (0, rv a 50), (3, .int (nI k9))]) dX10_digest_270 rfl (by decide) rfl ?_
                          refine tr_iinc (pc := 271) (v := nI (k9 + 1)) (lv' := [(3, .int (nI (k9 + 1))), (1, .long ((31 * (dF (aRun P) k9 (31 * dSs P (nSt P) (dMs P P.length (dF (aTo tx P past b n f) 7 2503)) + (mayV P 16).toInt64))) + ((aRun P k9).toInt64))), (0, rv a 50)]) 2 dX10_digest_271 rfl (by rw [show Int32.ofInt 1 = nI 1 from by decide, nI_add]) (by decide) rfl ?_
                          refine tr_goto (pc := 274) (tgt := 252) dX10_digest_274 (by decide) ?_
                          refine tr_sub (pc := 252) (lv' := [(0, rv a 50), (1, .long ((31 * (dF (aRun P) k9 (31 * dSs P (nSt P) (dMs P P.length (dF (aTo tx P past b n f) 7 2503)) + (mayV P 16).toInt64))) + ((aRun P k9).toInt64))), (3, .int (nI (k9 + 1)))]) [2, 1, 0] rfl ?_
                          rw [dF_s (g := (aRun P)) (k := k9) (x := (31 * dSs P (nSt P) (dMs P P.length (dF (aTo tx P past b n f) 7 2503)) + (mayV P 16).toInt64)) rfl]
                          exact ih9 (k9 + 1) (by omega) (by omega)
                    have K := L252 (6 + 1) 0 (by omega) (by omega)
                    rw [dF_0] at K
                    exact K
                  · skip
                    refine tr_iconst (pc := 169) (v := nI 0) dX10_digest_169 (by decide) ?_
                    refine tr_istore (pc := 170) (lv' := [(4, .int (nI 0)), (0, rv a 50), (1, .long (dSs P k6 (dMs P P.length (dF (aTo tx P past b n f) 7 2503)))), (3, .int (nI k6))]) dX10_digest_170 (by decide) rfl ?_
                    refine tr_sub (pc := 172) (lv' := [(0, rv a 50), (1, .long (dSs P k6 (dMs P P.length (dF (aTo tx P past b n f) 7 2503)))), (3, .int (nI k6)), (4, .int (nI 0))]) [1, 2, 3, 0] rfl ?_
                    have L172 : ∀ (fu : Nat) (k7 : Nat), 4 - k7 < fu → k7 ≤ 4 → T a 20 mX10_digest 172 [(0, rv a 50), (1, .long (dF (aSite P k6) k7 (dSs P k6 (dMs P P.length (dF (aTo tx P past b n f) 7 2503))))), (3, .int (nI k6)), (4, .int (nI k7))] [] S h1 (fun v S' h' => v = some (.long (dA tx P past b n f)) ∧ S = S' ∧ KM h' tx P past b n f ∧ MF h h') := by
                      intro fu
                      induction fu with
                      | zero => intro k7 huk7 hk7; omega
                      | succ fu ih7 =>
                        intro k7 huk7 hk7
                        refine tr_iload (pc := 172) 3 dX10_digest_172 rfl ?_
                        refine tr_iconst (pc := 174) (v := nI 4) dX10_digest_174 (by decide) ?_
                        refine tr_icmp_ge (pc := 175) (tgt := 199) dX10_digest_175 (by decide) (nI_leI (by omega) (by omega)) (fun hb175 => ?_) (fun hb175 => ?_)
                        · skip
                          obtain rfl : k7 = 4 := by omega
                          show T a 20 mX10_digest 199 [(0, rv a 50), (1, .long (dF (aSite P k6) 4 (dSs P k6 (dMs P P.length (dF (aTo tx P past b n f) 7 2503))))), (3, .int (nI k6)), (4, .int (nI 4))] [] S h1 _
                          refine tr_iconst (pc := 199) (v := nI 0) dX10_digest_199 (by decide) ?_
                          refine tr_istore (pc := 200) (lv' := [(4, .int (nI 0)), (0, rv a 50), (1, .long (dF (aSite P k6) 4 (dSs P k6 (dMs P P.length (dF (aTo tx P past b n f) 7 2503))))), (3, .int (nI k6))]) dX10_digest_200 (by decide) rfl ?_
                          refine tr_sub (pc := 202) (lv' := [(0, rv a 50), (1, .long (dF (aSite P k6) 4 (dSs P k6 (dMs P P.length (dF (aTo tx P past b n f) 7 2503))))), (3, .int (nI k6)), (4, .int (nI 0))]) [1, 2, 3, 0] rfl ?_
                          have L202 : ∀ (fu : Nat) (k8 : Nat), 3 - k8 < fu → k8 ≤ 3 → T a 20 mX10_digest 202 [(0, rv a 50), (1, .long (dF (aRan P k6) k8 (dF (aSite P k6) 4 (dSs P k6 (dMs P P.length (dF (aTo tx P past b n f) 7 2503)))))), (3, .int (nI k6)), (4, .int (nI k8))] [] S h1 (fun v S' h' => v = some (.long (dA tx P past b n f)) ∧ S = S' ∧ KM h' tx P past b n f ∧ MF h h') := by
                            intro fu
                            induction fu with
                            | zero => intro k8 huk8 hk8; omega
                            | succ fu ih8 =>
                              intro k8 huk8 hk8
                              refine tr_iload (pc := 202) 3 dX10_digest_202 rfl ?_
                              refine tr_iconst (pc := 204) (v := nI 3) dX10_digest_204 (by decide) ?_
                              refine tr_icmp_ge (pc := 205) (tgt := 229) dX10_digest_205 (by decide) (nI_leI (by omega) (by omega)) (fun hb205 => ?_) (fun hb205 => ?_)
                              · skip
                                obtain rfl : k8 = 3 := by omega
                                show T a 20 mX10_digest 229 [(0, rv a 50), (1, .long (dF (aRan P k6) 3 (dF (aSite P k6) 4 (dSs P k6 (dMs P P.length (dF (aTo tx P past b n f) 7 2503)))))), (3, .int (nI k6)), (4, .int (nI 3))] [] S h1 _
                                refine tr_iinc (pc := 229) (v := nI (k6 + 1)) (lv' := [(3, .int (nI (k6 + 1))), (0, rv a 50), (1, .long (dF (aRan P k6) 3 (dF (aSite P k6) 4 (dSs P k6 (dMs P P.length (dF (aTo tx P past b n f) 7 2503)))))), (4, .int (nI 3))]) 2 dX10_digest_229 rfl (by rw [show Int32.ofInt 1 = nI 1 from by decide, nI_add]) (by decide) rfl ?_
                                refine tr_goto (pc := 232) (tgt := 161) dX10_digest_232 (by decide) ?_
                                refine tr_sub (pc := 161) (lv' := [(0, rv a 50), (1, .long (dF (aRan P k6) 3 (dF (aSite P k6) 4 (dSs P k6 (dMs P P.length (dF (aTo tx P past b n f) 7 2503)))))), (3, .int (nI (k6 + 1)))]) [1, 2, 0] rfl ?_
                                rw [dSs_s]
                                exact ih6 (k6 + 1) (by omega) (by omega)
                              · skip
                                refine tr_ldc2 (pc := 208) dX10_digest_208 kl_X10_290 ?_
                                refine tr_lload_n (pc := 211) 1 dX10_digest_211 rfl rfl ?_
                                refine tr_lmul (pc := 212) (v := 31 * (dF (aRan P k6) k8 (dF (aSite P k6) 4 (dSs P k6 (dMs P P.length (dF (aTo tx P past b n f) 7 2503)))))) dX10_digest_212 rfl ?_
                                refine tr_aload_n (pc := 213) 0 dX10_digest_213 rfl rfl ?_
                                refine tr_iload_n (pc := 214) 2 dX10_digest_214 rfl rfl ?_
                                refine tr_iload (pc := 215) 3 dX10_digest_215 rfl ?_
                                refine tr_callV (pc := 217) (rest := [.long (31 * (dF (aRan P k6) k8 (dF (aSite P k6) 4 (dSs P k6 (dMs P P.length (dF (aTo tx P past b n f) 7 2503))))))]) (ci := 10) dX10_digest_217 ml_X10_279 cv_X10_ranOf rfl rfl (Nat.le_of_ble_eq_true rfl) (hS.1 50 (13, 45) rfl) rfl (by decide) (c_moranA hS hTM1 (by omega) (by omega)) ?_
                                rintro _ _ _ ⟨rfl, rfl, rfl⟩
                                show T a 20 mX10_digest 220 [(0, rv a 50), (1, .long (dF (aRan P k6) k8 (dF (aSite P k6) 4 (dSs P k6 (dMs P P.length (dF (aTo tx P past b n f) 7 2503)))))), (3, .int (nI k6)), (4, .int (nI k8))] [.int (aRan P k6 k8), .long (31 * (dF (aRan P k6) k8 (dF (aSite P k6) 4 (dSs P k6 (dMs P P.length (dF (aTo tx P past b n f) 7 2503))))))] S h1 _
                                refine tr_i2l (pc := 220) dX10_digest_220 ?_
                                refine tr_ladd (pc := 221) (v := (31 * (dF (aRan P k6) k8 (dF (aSite P k6) 4 (dSs P k6 (dMs P P.length (dF (aTo tx P past b n f) 7 2503)))))) + ((aRan P k6 k8).toInt64)) dX10_digest_221 rfl ?_
                                refine tr_lstore_n (pc := 222) (lv' := [(1, .long ((31 * (dF (aRan P k6) k8 (dF (aSite P k6) 4 (dSs P k6 (dMs P P.length (dF (aTo tx P past b n f) 7 2503)))))) + ((aRan P k6 k8).toInt64))), (0, rv a 50), (3, .int (nI k6)), (4, .int (nI k8))]) dX10_digest_222 rfl (by decide) rfl ?_
                                refine tr_iinc (pc := 223) (v := nI (k8 + 1)) (lv' := [(4, .int (nI (k8 + 1))), (1, .long ((31 * (dF (aRan P k6) k8 (dF (aSite P k6) 4 (dSs P k6 (dMs P P.length (dF (aTo tx P past b n f) 7 2503)))))) + ((aRan P k6 k8).toInt64))), (0, rv a 50), (3, .int (nI k6))]) 3 dX10_digest_223 rfl (by rw [show Int32.ofInt 1 = nI 1 from by decide, nI_add]) (by decide) rfl ?_
                                refine tr_goto (pc := 226) (tgt := 202) dX10_digest_226 (by decide) ?_
                                refine tr_sub (pc := 202) (lv' := [(0, rv a 50), (1, .long ((31 * (dF (aRan P k6) k8 (dF (aSite P k6) 4 (dSs P k6 (dMs P P.length (dF (aTo tx P past b n f) 7 2503)))))) + ((aRan P k6 k8).toInt64))), (3, .int (nI k6)), (4, .int (nI (k8 + 1)))]) [2, 1, 3, 0] rfl ?_
                                rw [dF_s (g := (aRan P k6)) (k := k8) (x := (dF (aSite P k6) 4 (dSs P k6 (dMs P P.length (dF (aTo tx P past b n f) 7 2503))))) rfl]
                                exact ih8 (k8 + 1) (by omega) (by omega)
                          have K := L202 (3 + 1) 0 (by omega) (by omega)
                          rw [dF_0] at K
                          exact K
                        · skip
                          refine tr_ldc2 (pc := 178) dX10_digest_178 kl_X10_290 ?_
                          refine tr_lload_n (pc := 181) 1 dX10_digest_181 rfl rfl ?_
                          refine tr_lmul (pc := 182) (v := 31 * (dF (aSite P k6) k7 (dSs P k6 (dMs P P.length (dF (aTo tx P past b n f) 7 2503))))) dX10_digest_182 rfl ?_
                          refine tr_aload_n (pc := 183) 0 dX10_digest_183 rfl rfl ?_
                          refine tr_iload_n (pc := 184) 2 dX10_digest_184 rfl rfl ?_
                          refine tr_iload (pc := 185) 3 dX10_digest_185 rfl ?_
                          refine tr_callV (pc := 187) (rest := [.long (31 * (dF (aSite P k6) k7 (dSs P k6 (dMs P P.length (dF (aTo tx P past b n f) 7 2503)))))]) (ci := 10) dX10_digest_187 ml_X10_224 cv_X10_ofSite rfl rfl (Nat.le_of_ble_eq_true rfl) (hS.1 50 (13, 45) rfl) rfl (by decide) (c_msiteA hS hVB hN1 hSN1 hMN1 (by omega) (by omega)) ?_
                          rintro _ _ _ ⟨rfl, rfl, rfl⟩
                          show T a 20 mX10_digest 190 [(0, rv a 50), (1, .long (dF (aSite P k6) k7 (dSs P k6 (dMs P P.length (dF (aTo tx P past b n f) 7 2503))))), (3, .int (nI k6)), (4, .int (nI k7))] [.int (aSite P k6 k7), .long (31 * (dF (aSite P k6) k7 (dSs P k6 (dMs P P.length (dF (aTo tx P past b n f) 7 2503)))))] S h1 _
                          refine tr_i2l (pc := 190) dX10_digest_190 ?_
                          refine tr_ladd (pc := 191) (v := (31 * (dF (aSite P k6) k7 (dSs P k6 (dMs P P.length (dF (aTo tx P past b n f) 7 2503))))) + ((aSite P k6 k7).toInt64)) dX10_digest_191 rfl ?_
                          refine tr_lstore_n (pc := 192) (lv' := [(1, .long ((31 * (dF (aSite P k6) k7 (dSs P k6 (dMs P P.length (dF (aTo tx P past b n f) 7 2503))))) + ((aSite P k6 k7).toInt64))), (0, rv a 50), (3, .int (nI k6)), (4, .int (nI k7))]) dX10_digest_192 rfl (by decide) rfl ?_
                          refine tr_iinc (pc := 193) (v := nI (k7 + 1)) (lv' := [(4, .int (nI (k7 + 1))), (1, .long ((31 * (dF (aSite P k6) k7 (dSs P k6 (dMs P P.length (dF (aTo tx P past b n f) 7 2503))))) + ((aSite P k6 k7).toInt64))), (0, rv a 50), (3, .int (nI k6))]) 3 dX10_digest_193 rfl (by rw [show Int32.ofInt 1 = nI 1 from by decide, nI_add]) (by decide) rfl ?_
                          refine tr_goto (pc := 196) (tgt := 172) dX10_digest_196 (by decide) ?_
                          refine tr_sub (pc := 172) (lv' := [(0, rv a 50), (1, .long ((31 * (dF (aSite P k6) k7 (dSs P k6 (dMs P P.length (dF (aTo tx P past b n f) 7 2503))))) + ((aSite P k6 k7).toInt64))), (3, .int (nI k6)), (4, .int (nI (k7 + 1)))]) [2, 1, 3, 0] rfl ?_
                          rw [dF_s (g := (aSite P k6)) (k := k7) (x := (dSs P k6 (dMs P P.length (dF (aTo tx P past b n f) 7 2503)))) rfl]
                          exact ih7 (k7 + 1) (by omega) (by omega)
                    have K := L172 (4 + 1) 0 (by omega) (by omega)
                    rw [dF_0] at K
                    exact K
              have K := L161 (nSt P + 1) 0 (by omega) (by omega)
              rw [dSs_0] at K
              exact K
            · skip
              have hm8 := hVB.2.1 k2
              refine tr_iconst (pc := 47) (v := nI 0) dX10_digest_47 (by decide) ?_
              refine tr_istore (pc := 48) (lv' := [(4, .int (nI 0)), (0, rv a 50), (1, .long (dMs P k2 (dF (aTo tx P past b n f) 7 2503))), (3, .int (nI k2))]) dX10_digest_48 (by decide) rfl ?_
              refine tr_sub (pc := 50) (lv' := [(0, rv a 50), (1, .long (dMs P k2 (dF (aTo tx P past b n f) 7 2503))), (3, .int (nI k2)), (4, .int (nI 0))]) [1, 2, 3, 0] rfl ?_
              have L50 : ∀ (fu : Nat) (k3 : Nat), 5 - k3 < fu → k3 ≤ 5 → T a 20 mX10_digest 50 [(0, rv a 50), (1, .long (dF (aOf P k2) k3 (dMs P k2 (dF (aTo tx P past b n f) 7 2503)))), (3, .int (nI k2)), (4, .int (nI k3))] [] S h1 (fun v S' h' => v = some (.long (dA tx P past b n f)) ∧ S = S' ∧ KM h' tx P past b n f ∧ MF h h') := by
                intro fu
                induction fu with
                | zero => intro k3 huk3 hk3; omega
                | succ fu ih3 =>
                  intro k3 huk3 hk3
                  refine tr_iload (pc := 50) 3 dX10_digest_50 rfl ?_
                  refine tr_iconst (pc := 52) (v := nI 5) dX10_digest_52 (by decide) ?_
                  refine tr_icmp_ge (pc := 53) (tgt := 77) dX10_digest_53 (by decide) (nI_leI (by omega) (by omega)) (fun hb53 => ?_) (fun hb53 => ?_)
                  · skip
                    obtain rfl : k3 = 5 := by omega
                    show T a 20 mX10_digest 77 [(0, rv a 50), (1, .long (dF (aOf P k2) 5 (dMs P k2 (dF (aTo tx P past b n f) 7 2503)))), (3, .int (nI k2)), (4, .int (nI 5))] [] S h1 _
                    refine tr_iconst (pc := 77) (v := nI 0) dX10_digest_77 (by decide) ?_
                    refine tr_istore (pc := 78) (lv' := [(4, .int (nI 0)), (0, rv a 50), (1, .long (dF (aOf P k2) 5 (dMs P k2 (dF (aTo tx P past b n f) 7 2503)))), (3, .int (nI k2))]) dX10_digest_78 (by decide) rfl ?_
                    refine tr_sub (pc := 80) (lv' := [(0, rv a 50), (1, .long (dF (aOf P k2) 5 (dMs P k2 (dF (aTo tx P past b n f) 7 2503)))), (3, .int (nI k2)), (4, .int (nI 0))]) [1, 2, 3, 0] rfl ?_
                    have L80 : ∀ (fu : Nat) (k4 : Nat), 4 - k4 < fu → k4 ≤ 4 → T a 20 mX10_digest 80 [(0, rv a 50), (1, .long (dF (fun w => mayV P (4 * k2 + w)) k4 (dF (aOf P k2) 5 (dMs P k2 (dF (aTo tx P past b n f) 7 2503))))), (3, .int (nI k2)), (4, .int (nI k4))] [] S h1 (fun v S' h' => v = some (.long (dA tx P past b n f)) ∧ S = S' ∧ KM h' tx P past b n f ∧ MF h h') := by
                      intro fu
                      induction fu with
                      | zero => intro k4 huk4 hk4; omega
                      | succ fu ih4 =>
                        intro k4 huk4 hk4
                        refine tr_iload (pc := 80) 3 dX10_digest_80 rfl ?_
                        refine tr_iconst (pc := 82) (v := nI 4) dX10_digest_82 (by decide) ?_
                        refine tr_icmp_ge (pc := 83) (tgt := 111) dX10_digest_83 (by decide) (nI_leI (by omega) (by omega)) (fun hb83 => ?_) (fun hb83 => ?_)
                        · skip
                          obtain rfl : k4 = 4 := by omega
                          show T a 20 mX10_digest 111 [(0, rv a 50), (1, .long (dF (fun w => mayV P (4 * k2 + w)) 4 (dF (aOf P k2) 5 (dMs P k2 (dF (aTo tx P past b n f) 7 2503))))), (3, .int (nI k2)), (4, .int (nI 4))] [] S h1 _
                          refine tr_iconst (pc := 111) (v := nI 0) dX10_digest_111 (by decide) ?_
                          refine tr_istore (pc := 112) (lv' := [(4, .int (nI 0)), (0, rv a 50), (1, .long (dF (fun w => mayV P (4 * k2 + w)) 4 (dF (aOf P k2) 5 (dMs P k2 (dF (aTo tx P past b n f) 7 2503))))), (3, .int (nI k2))]) dX10_digest_112 (by decide) rfl ?_
                          refine tr_sub (pc := 114) (lv' := [(0, rv a 50), (1, .long (dF (fun w => mayV P (4 * k2 + w)) 4 (dF (aOf P k2) 5 (dMs P k2 (dF (aTo tx P past b n f) 7 2503))))), (3, .int (nI k2)), (4, .int (nI 0))]) [1, 2, 3, 0] rfl ?_
                          have L114 : ∀ (fu : Nat) (k5 : Nat), (5 * lnN P k2) - k5 < fu → k5 ≤ (5 * lnN P k2) → T a 20 mX10_digest 114 [(0, rv a 50), (1, .long (dF (dLn P k2) k5 (dF (fun w => mayV P (4 * k2 + w)) 4 (dF (aOf P k2) 5 (dMs P k2 (dF (aTo tx P past b n f) 7 2503)))))), (3, .int (nI k2)), (4, .int (nI k5))] [] S h1 (fun v S' h' => v = some (.long (dA tx P past b n f)) ∧ S = S' ∧ KM h' tx P past b n f ∧ MF h h') := by
                            intro fu
                            induction fu with
                            | zero => intro k5 huk5 hk5; omega
                            | succ fu ih5 =>
                              intro k5 huk5 hk5
                              refine tr_iload (pc := 114) 3 dX10_digest_114 rfl ?_
                              refine tr_iconst (pc := 116) (v := nI 5) dX10_digest_116 (by decide) ?_
                              refine tr_aload_n (pc := 117) 0 dX10_digest_117 rfl rfl ?_
                              refine tr_iload_n (pc := 118) 2 dX10_digest_118 rfl rfl ?_
                              refine tr_callV (pc := 119) (rest := [.int (nI 5), .int (nI k5)]) (ci := 10) dX10_digest_119 ml_X10_168 cv_X10_linesOf rfl rfl (Nat.le_of_ble_eq_true rfl) (hS.1 50 (13, 45) rfl) rfl (by decide) (c_mlines hS hVB hN1 (by omega)) ?_
                              rintro _ _ _ ⟨rfl, rfl, rfl⟩
                              show T a 20 mX10_digest 122 [(0, rv a 50), (1, .long (dF (dLn P k2) k5 (dF (fun w => mayV P (4 * k2 + w)) 4 (dF (aOf P k2) 5 (dMs P k2 (dF (aTo tx P past b n f) 7 2503)))))), (3, .int (nI k2)), (4, .int (nI k5))] [.int (nI (lnN P k2)), .int (nI 5), .int (nI k5)] S h1 _
                              refine tr_imul (pc := 122) (v := nI (5 * lnN P k2)) dX10_digest_122 (pk_mul _ _) ?_
                              refine tr_icmp_ge (pc := 123) (tgt := 153) dX10_digest_123 (by decide) (nI_leI (by omega) (by omega)) (fun hb123 => ?_) (fun hb123 => ?_)
                              · skip
                                obtain rfl : k5 = 5 * lnN P k2 := by omega
                                show T a 20 mX10_digest 153 [(0, rv a 50), (1, .long (dF (dLn P k2) (5 * lnN P k2) (dF (fun w => mayV P (4 * k2 + w)) 4 (dF (aOf P k2) 5 (dMs P k2 (dF (aTo tx P past b n f) 7 2503)))))), (3, .int (nI k2)), (4, .int (nI (5 * lnN P k2)))] [] S h1 _
                                refine tr_iinc (pc := 153) (v := nI (k2 + 1)) (lv' := [(3, .int (nI (k2 + 1))), (0, rv a 50), (1, .long (dF (dLn P k2) (5 * lnN P k2) (dF (fun w => mayV P (4 * k2 + w)) 4 (dF (aOf P k2) 5 (dMs P k2 (dF (aTo tx P past b n f) 7 2503)))))), (4, .int (nI (5 * lnN P k2)))]) 2 dX10_digest_153 rfl (by rw [show Int32.ofInt 1 = nI 1 from by decide, nI_add]) (by decide) rfl ?_
                                refine tr_goto (pc := 156) (tgt := 37) dX10_digest_156 (by decide) ?_
                                refine tr_sub (pc := 37) (lv' := [(0, rv a 50), (1, .long (dF (dLn P k2) (5 * lnN P k2) (dF (fun w => mayV P (4 * k2 + w)) 4 (dF (aOf P k2) 5 (dMs P k2 (dF (aTo tx P past b n f) 7 2503)))))), (3, .int (nI (k2 + 1)))]) [1, 2, 0] rfl ?_
                                rw [dMs_s]
                                exact ih2 (k2 + 1) (by omega) (by omega)
                              · skip
                                refine tr_ldc2 (pc := 126) dX10_digest_126 kl_X10_290 ?_
                                refine tr_lload_n (pc := 129) 1 dX10_digest_129 rfl rfl ?_
                                refine tr_lmul (pc := 130) (v := 31 * (dF (dLn P k2) k5 (dF (fun w => mayV P (4 * k2 + w)) 4 (dF (aOf P k2) 5 (dMs P k2 (dF (aTo tx P past b n f) 7 2503)))))) dX10_digest_130 rfl ?_
                                refine tr_aload_n (pc := 131) 0 dX10_digest_131 rfl rfl ?_
                                refine tr_iload_n (pc := 132) 2 dX10_digest_132 rfl rfl ?_
                                refine tr_iload (pc := 133) 3 dX10_digest_133 rfl ?_
                                refine tr_iconst (pc := 135) (v := nI 5) dX10_digest_135 (by decide) ?_
                                refine tr_idiv (pc := 136) (v := nI (k5 / 5)) dX10_digest_136 (by decide) (pk_div (by omega) (by omega) (by omega)) ?_
                                refine tr_iload (pc := 137) 3 dX10_digest_137 rfl ?_
                                refine tr_iconst (pc := 139) (v := nI 5) dX10_digest_139 (by decide) ?_
                                refine tr_irem (pc := 140) (v := nI (k5 % 5)) dX10_digest_140 (by decide) (pk_rem (by omega) (by omega) (by omega)) ?_
                                refine tr_callV (pc := 141) (rest := [.long (31 * (dF (dLn P k2) k5 (dF (fun w => mayV P (4 * k2 + w)) 4 (dF (aOf P k2) 5 (dMs P k2 (dF (aTo tx P past b n f) 7 2503))))))]) (ci := 10) dX10_digest_141 ml_X10_221 cv_X10_ofLine rfl rfl (Nat.le_of_ble_eq_true rfl) (hS.1 50 (13, 45) rfl) rfl (by decide) (c_mlineA hS hVB hN1 hSN1 (m := k2) (i := k5 / 5) (w := k5 % 5) (by omega) (by omega)) ?_
                                rintro _ _ _ ⟨rfl, rfl, rfl⟩
                                show T a 20 mX10_digest 144 [(0, rv a 50), (1, .long (dF (dLn P k2) k5 (dF (fun w => mayV P (4 * k2 + w)) 4 (dF (aOf P k2) 5 (dMs P k2 (dF (aTo tx P past b n f) 7 2503)))))), (3, .int (nI k2)), (4, .int (nI k5))] [.int (aLine P k2 (k5 / 5) (k5 % 5)), .long (31 * (dF (dLn P k2) k5 (dF (fun w => mayV P (4 * k2 + w)) 4 (dF (aOf P k2) 5 (dMs P k2 (dF (aTo tx P past b n f) 7 2503))))))] S h1 _
                                refine tr_i2l (pc := 144) dX10_digest_144 ?_
                                refine tr_ladd (pc := 145) (v := (31 * (dF (dLn P k2) k5 (dF (fun w => mayV P (4 * k2 + w)) 4 (dF (aOf P k2) 5 (dMs P k2 (dF (aTo tx P past b n f) 7 2503)))))) + ((aLine P k2 (k5 / 5) (k5 % 5)).toInt64)) dX10_digest_145 rfl ?_
                                refine tr_lstore_n (pc := 146) (lv' := [(1, .long ((31 * (dF (dLn P k2) k5 (dF (fun w => mayV P (4 * k2 + w)) 4 (dF (aOf P k2) 5 (dMs P k2 (dF (aTo tx P past b n f) 7 2503)))))) + ((aLine P k2 (k5 / 5) (k5 % 5)).toInt64))), (0, rv a 50), (3, .int (nI k2)), (4, .int (nI k5))]) dX10_digest_146 rfl (by decide) rfl ?_
                                refine tr_iinc (pc := 147) (v := nI (k5 + 1)) (lv' := [(4, .int (nI (k5 + 1))), (1, .long ((31 * (dF (dLn P k2) k5 (dF (fun w => mayV P (4 * k2 + w)) 4 (dF (aOf P k2) 5 (dMs P k2 (dF (aTo tx P past b n f) 7 2503)))))) + ((aLine P k2 (k5 / 5) (k5 % 5)).toInt64))), (0, rv a 50), (3, .int (nI k2))]) 3 dX10_digest_147 rfl (by rw [show Int32.ofInt 1 = nI 1 from by decide, nI_add]) (by decide) rfl ?_
                                refine tr_goto (pc := 150) (tgt := 114) dX10_digest_150 (by decide) ?_
                                refine tr_sub (pc := 114) (lv' := [(0, rv a 50), (1, .long ((31 * (dF (dLn P k2) k5 (dF (fun w => mayV P (4 * k2 + w)) 4 (dF (aOf P k2) 5 (dMs P k2 (dF (aTo tx P past b n f) 7 2503)))))) + ((aLine P k2 (k5 / 5) (k5 % 5)).toInt64))), (3, .int (nI k2)), (4, .int (nI (k5 + 1)))]) [2, 1, 3, 0] rfl ?_
                                rw [dF_s (g := dLn P k2) (k := k5) (x := dF (fun w => mayV P (4 * k2 + w)) 4 (dF (aOf P k2) 5 (dMs P k2 (dF (aTo tx P past b n f) 7 2503)))) (y := aLine P k2 (k5 / 5) (k5 % 5)) rfl]
                                exact ih5 (k5 + 1) (by omega) (by omega)
                          have K := L114 ((5 * lnN P k2) + 1) 0 (by omega) (by omega)
                          rw [dF_0] at K
                          exact K
                        · skip
                          refine tr_ldc2 (pc := 86) dX10_digest_86 kl_X10_290 ?_
                          refine tr_lload_n (pc := 89) 1 dX10_digest_89 rfl rfl ?_
                          refine tr_lmul (pc := 90) (v := 31 * (dF (fun w => mayV P (4 * k2 + w)) k4 (dF (aOf P k2) 5 (dMs P k2 (dF (aTo tx P past b n f) 7 2503))))) dX10_digest_90 rfl ?_
                          refine tr_aload_n (pc := 91) 0 dX10_digest_91 rfl rfl ?_
                          refine tr_getR (pc := 92) (q := 61) dX10_digest_92 (hS.1 50 (13, 45) rfl) fi_X10_40 rfl (hS.2 50 21 61 rfl) ?_
                          refine tr_iconst (pc := 95) (v := nI 4) dX10_digest_95 (by decide) ?_
                          refine tr_iload_n (pc := 96) 2 dX10_digest_96 rfl rfl ?_
                          refine tr_imul (pc := 97) (v := nI (4 * k2)) dX10_digest_97 (pk_mul _ _) ?_
                          refine tr_iload (pc := 98) 3 dX10_digest_98 rfl ?_
                          refine tr_iadd (pc := 100) (v := nI (4 * k2 + k4)) dX10_digest_100 (nI_add _ _) ?_
                          refine tr_iald (pc := 101) (v := mayV P (4 * k2 + k4)) (4 * k2 + k4) dX10_digest_101 (hS.1 61 (0, 49) rfl) rfl (by omega) (by decide) (hMN1.1 _ (by omega)) ?_
                          refine tr_i2l (pc := 102) dX10_digest_102 ?_
                          refine tr_ladd (pc := 103) (v := (31 * (dF (fun w => mayV P (4 * k2 + w)) k4 (dF (aOf P k2) 5 (dMs P k2 (dF (aTo tx P past b n f) 7 2503))))) + ((mayV P (4 * k2 + k4)).toInt64)) dX10_digest_103 rfl ?_
                          refine tr_lstore_n (pc := 104) (lv' := [(1, .long ((31 * (dF (fun w => mayV P (4 * k2 + w)) k4 (dF (aOf P k2) 5 (dMs P k2 (dF (aTo tx P past b n f) 7 2503))))) + ((mayV P (4 * k2 + k4)).toInt64))), (0, rv a 50), (3, .int (nI k2)), (4, .int (nI k4))]) dX10_digest_104 rfl (by decide) rfl ?_
                          refine tr_iinc (pc := 105) (v := nI (k4 + 1)) (lv' := [(4, .int (nI (k4 + 1))), (1, .long ((31 * (dF (fun w => mayV P (4 * k2 + w)) k4 (dF (aOf P k2) 5 (dMs P k2 (dF (aTo tx P past b n f) 7 2503))))) + ((mayV P (4 * k2 + k4)).toInt64))), (0, rv a 50), (3, .int (nI k2))]) 3 dX10_digest_105 rfl (by rw [show Int32.ofInt 1 = nI 1 from by decide, nI_add]) (by decide) rfl ?_
                          refine tr_goto (pc := 108) (tgt := 80) dX10_digest_108 (by decide) ?_
                          refine tr_sub (pc := 80) (lv' := [(0, rv a 50), (1, .long ((31 * (dF (fun w => mayV P (4 * k2 + w)) k4 (dF (aOf P k2) 5 (dMs P k2 (dF (aTo tx P past b n f) 7 2503))))) + ((mayV P (4 * k2 + k4)).toInt64))), (3, .int (nI k2)), (4, .int (nI (k4 + 1)))]) [2, 1, 3, 0] rfl ?_
                          rw [dF_s (g := (fun w => mayV P (4 * k2 + w))) (k := k4) (x := (dF (aOf P k2) 5 (dMs P k2 (dF (aTo tx P past b n f) 7 2503)))) rfl]
                          exact ih4 (k4 + 1) (by omega) (by omega)
                    have K := L80 (4 + 1) 0 (by omega) (by omega)
                    rw [dF_0] at K
                    exact K
                  · skip
                    refine tr_ldc2 (pc := 56) dX10_digest_56 kl_X10_290 ?_
                    refine tr_lload_n (pc := 59) 1 dX10_digest_59 rfl rfl ?_
                    refine tr_lmul (pc := 60) (v := 31 * (dF (aOf P k2) k3 (dMs P k2 (dF (aTo tx P past b n f) 7 2503)))) dX10_digest_60 rfl ?_
                    refine tr_aload_n (pc := 61) 0 dX10_digest_61 rfl rfl ?_
                    refine tr_iload_n (pc := 62) 2 dX10_digest_62 rfl rfl ?_
                    refine tr_iload (pc := 63) 3 dX10_digest_63 rfl ?_
                    refine tr_callV (pc := 65) (rest := [.long (31 * (dF (aOf P k2) k3 (dMs P k2 (dF (aTo tx P past b n f) 7 2503))))]) (ci := 10) dX10_digest_65 ml_X10_217 cv_X10_ofMethod rfl rfl (Nat.le_of_ble_eq_true rfl) (hS.1 50 (13, 45) rfl) rfl (by decide) (c_mofA hS hVB hN1 hSN1 hMN1 (by omega) (by omega)) ?_
                    rintro _ _ _ ⟨rfl, rfl, rfl⟩
                    show T a 20 mX10_digest 68 [(0, rv a 50), (1, .long (dF (aOf P k2) k3 (dMs P k2 (dF (aTo tx P past b n f) 7 2503)))), (3, .int (nI k2)), (4, .int (nI k3))] [.int (aOf P k2 k3), .long (31 * (dF (aOf P k2) k3 (dMs P k2 (dF (aTo tx P past b n f) 7 2503))))] S h1 _
                    refine tr_i2l (pc := 68) dX10_digest_68 ?_
                    refine tr_ladd (pc := 69) (v := (31 * (dF (aOf P k2) k3 (dMs P k2 (dF (aTo tx P past b n f) 7 2503)))) + ((aOf P k2 k3).toInt64)) dX10_digest_69 rfl ?_
                    refine tr_lstore_n (pc := 70) (lv' := [(1, .long ((31 * (dF (aOf P k2) k3 (dMs P k2 (dF (aTo tx P past b n f) 7 2503)))) + ((aOf P k2 k3).toInt64))), (0, rv a 50), (3, .int (nI k2)), (4, .int (nI k3))]) dX10_digest_70 rfl (by decide) rfl ?_
                    refine tr_iinc (pc := 71) (v := nI (k3 + 1)) (lv' := [(4, .int (nI (k3 + 1))), (1, .long ((31 * (dF (aOf P k2) k3 (dMs P k2 (dF (aTo tx P past b n f) 7 2503)))) + ((aOf P k2 k3).toInt64))), (0, rv a 50), (3, .int (nI k2))]) 3 dX10_digest_71 rfl (by rw [show Int32.ofInt 1 = nI 1 from by decide, nI_add]) (by decide) rfl ?_
                    refine tr_goto (pc := 74) (tgt := 50) dX10_digest_74 (by decide) ?_
                    refine tr_sub (pc := 50) (lv' := [(0, rv a 50), (1, .long ((31 * (dF (aOf P k2) k3 (dMs P k2 (dF (aTo tx P past b n f) 7 2503)))) + ((aOf P k2 k3).toInt64))), (3, .int (nI k2)), (4, .int (nI (k3 + 1)))]) [2, 1, 3, 0] rfl ?_
                    rw [dF_s (g := (aOf P k2)) (k := k3) (x := (dMs P k2 (dF (aTo tx P past b n f) 7 2503))) rfl]
                    exact ih3 (k3 + 1) (by omega) (by omega)
              have K := L50 (5 + 1) 0 (by omega) (by omega)
              rw [dF_0] at K
              exact K
        have K := L37 (P.length + 1) 0 (by omega) (by omega)
        rw [dMs_0] at K
        exact K
      · skip
        refine tr_ldc2 (pc := 16) dX10_digest_16 kl_X10_290 ?_
        refine tr_lload_n (pc := 19) 1 dX10_digest_19 rfl rfl ?_
        refine tr_lmul (pc := 20) (v := 31 * (dF (aTo tx P past b n f) k 2503)) dX10_digest_20 rfl ?_
        refine tr_aload_n (pc := 21) 0 dX10_digest_21 rfl rfl ?_
        refine tr_iload_n (pc := 22) 2 dX10_digest_22 rfl rfl ?_
        refine tr_callV (pc := 23) (rest := [.long (31 * (dF (aTo tx P past b n f) k 2503))]) (ci := 10) dX10_digest_23 ml_X10_285 cv_X10_toldOf rfl rfl (Nat.le_of_ble_eq_true rfl) (hS.1 50 (13, 45) rfl) rfl (by decide) (c_toldOfA hS hM1 hSN1 (by omega)) ?_
        rintro _ _ _ ⟨rfl, rfl, rfl⟩
        show T a 20 mX10_digest 26 [(0, rv a 50), (1, .long (dF (aTo tx P past b n f) k 2503)), (3, .int (nI k))] [.int (aTo tx P past b n f k), .long (31 * (dF (aTo tx P past b n f) k 2503))] S h1 _
        refine tr_i2l (pc := 26) dX10_digest_26 ?_
        refine tr_ladd (pc := 27) (v := (31 * (dF (aTo tx P past b n f) k 2503)) + ((aTo tx P past b n f k).toInt64)) dX10_digest_27 rfl ?_
        refine tr_lstore_n (pc := 28) (lv' := [(1, .long ((31 * (dF (aTo tx P past b n f) k 2503)) + ((aTo tx P past b n f k).toInt64))), (0, rv a 50), (3, .int (nI k))]) dX10_digest_28 rfl (by decide) rfl ?_
        refine tr_iinc (pc := 29) (v := nI (k + 1)) (lv' := [(3, .int (nI (k + 1))), (1, .long ((31 * (dF (aTo tx P past b n f) k 2503)) + ((aTo tx P past b n f k).toInt64))), (0, rv a 50)]) 2 dX10_digest_29 rfl (by rw [show Int32.ofInt 1 = nI 1 from by decide, nI_add]) (by decide) rfl ?_
        refine tr_goto (pc := 32) (tgt := 10) dX10_digest_32 (by decide) ?_
        refine tr_sub (pc := 10) (lv' := [(0, rv a 50), (1, .long ((31 * (dF (aTo tx P past b n f) k 2503)) + ((aTo tx P past b n f k).toInt64))), (3, .int (nI (k + 1)))]) [2, 1, 0] rfl ?_
        rw [dF_s (g := (aTo tx P past b n f)) (k := k) (x := 2503) rfl]
        exact ih1 (k + 1) (by omega) (by omega)
  have K := L10 (7 + 1) 0 (by omega) (by omega)
  rw [dF_0] at K
  exact K
