set_option maxHeartbeats 4000000 in
set_option maxRecDepth 100000 in
theorem c_letters {a : Am} {S : St} {h : Hp} (hS : IsSt S) {tx : List Nat} (hT : TX h tx) (hv : TV tx) {p : Nat} (hp : p ≤ tx.length) : CT a 2 mX7_lettersFrom [rv a 1, .int (nI p)] S h (Rt (nI (lend tx p - p)) S h) := by
  refine met_of (by decide +kernel) (Nat.le_of_ble_eq_true rfl) ?_
  show T a 2 mX7_lettersFrom 0 [(0, rv a 1), (1, .int (nI p))] [] S h _
  refine tr_iload_n (pc := 0) 1 dX7_lettersFrom_0 rfl rfl ?_
  refine tr_istore_n (pc := 1) (lv' := [(2, .int (nI p)), (0, rv a 1), (1, .int (nI p))]) dX7_lettersFrom_1 rfl (by decide) rfl ?_
  refine tr_sub (pc := 2) (lv' := [(0, rv a 1), (1, .int (nI p)), (2, .int (nI p))]) [1, 2, 0] rfl ?_
  have L2 : ∀ (fu : Nat) (e : Nat), tx.length - e < fu → p ≤ e → e ≤ tx.length → lend tx e = lend tx p → T a 2 mX7_lettersFrom 2 [(0, rv a 1), (1, .int (nI p)), (2, .int (nI e))] [] S h (Rt (nI (lend tx p - p)) S h) := by
    intro fu
    induction fu with
    | zero => intro e hu h1 h2 hL; omega
    | succ fu ih =>
      intro e hu h1 h2 hL
      have h128 := tv_lt hv (p := e)
      obtain ⟨hv1, hv2⟩ := id hv
      refine tr_iload_n (pc := 2) 2 dX7_lettersFrom_2 rfl rfl ?_
      refine tr_aload_n (pc := 3) 0 dX7_lettersFrom_3 rfl rfl ?_
      refine tr_callV (pc := 4) (rest := [.int (nI e)]) (ci := 6) dX7_lettersFrom_4 ml_X7_28 cv_X6_length rfl rfl (Nat.le_of_ble_eq_true rfl) (hS.1 1 (9, 2) rfl) rfl (by decide) (c_length hS hT hv) ?_
      rintro _ _ _ ⟨rfl, rfl, rfl⟩
      show T a 2 mX7_lettersFrom 7 [(0, rv a 1), (1, .int (nI p)), (2, .int (nI e))] [.int (nI tx.length), .int (nI e)] S h _
      refine tr_icmp_ge (pc := 7) (tgt := 36) dX7_lettersFrom_7 (by decide) (nI_leI (by omega) (by omega)) (fun hb7 => ?_) (fun hb7 => ?_)
      · skip
        have hE : lend tx p = e := by
          rw [← hL]
          exact lend_stop (by omega)
        refine tr_iload_n (pc := 36) 2 dX7_lettersFrom_36 rfl rfl ?_
        refine tr_iload_n (pc := 37) 1 dX7_lettersFrom_37 rfl rfl ?_
        refine tr_isub (pc := 38) (v := nI (lend tx p - p)) dX7_lettersFrom_38 (by rw [hE]; exact pk_sub (by omega)) ?_
        exact tr_iret (pc := 39) dX7_lettersFrom_39 rfl rfl (⟨rfl, rfl, rfl⟩)
      · skip
        refine tr_aload_n (pc := 10) 0 dX7_lettersFrom_10 rfl rfl ?_
        refine tr_iload_n (pc := 11) 2 dX7_lettersFrom_11 rfl rfl ?_
        refine tr_callV (pc := 12) (rest := []) (ci := 6) dX7_lettersFrom_12 ml_X7_44 cv_X6_at rfl rfl (Nat.le_of_ble_eq_true rfl) (hS.1 1 (9, 2) rfl) rfl (by decide) (c_at_in hS hT hv (by omega)) ?_
        rintro _ _ _ ⟨rfl, rfl, rfl⟩
        show T a 2 mX7_lettersFrom 15 [(0, rv a 1), (1, .int (nI p)), (2, .int (nI e))] [.int (nI (tx.getD e 0))] S h _
        refine tr_bipush (pc := 15) (v := nI 97) dX7_lettersFrom_15 (by decide) ?_
        refine tr_icmp_lt (pc := 17) (tgt := 36) dX7_lettersFrom_17 (by decide) (nI_ltI (by omega) (by omega)) (fun hb17 => ?_) (fun hb17 => ?_)
        · skip
          have hE : lend tx p = e := by
            rw [← hL]
            exact lend_stop (by omega)
          refine tr_iload_n (pc := 36) 2 dX7_lettersFrom_36 rfl rfl ?_
          refine tr_iload_n (pc := 37) 1 dX7_lettersFrom_37 rfl rfl ?_
          refine tr_isub (pc := 38) (v := nI (lend tx p - p)) dX7_lettersFrom_38 (by rw [hE]; exact pk_sub (by omega)) ?_
          exact tr_iret (pc := 39) dX7_lettersFrom_39 rfl rfl (⟨rfl, rfl, rfl⟩)
        · skip
          refine tr_aload_n (pc := 20) 0 dX7_lettersFrom_20 rfl rfl ?_
          refine tr_iload_n (pc := 21) 2 dX7_lettersFrom_21 rfl rfl ?_
          refine tr_callV (pc := 22) (rest := []) (ci := 6) dX7_lettersFrom_22 ml_X7_44 cv_X6_at rfl rfl (Nat.le_of_ble_eq_true rfl) (hS.1 1 (9, 2) rfl) rfl (by decide) (c_at_in hS hT hv (by omega)) ?_
          rintro _ _ _ ⟨rfl, rfl, rfl⟩
          show T a 2 mX7_lettersFrom 25 [(0, rv a 1), (1, .int (nI p)), (2, .int (nI e))] [.int (nI (tx.getD e 0))] S h _
          refine tr_bipush (pc := 25) (v := nI 122) dX7_lettersFrom_25 (by decide) ?_
          refine tr_icmp_gt (pc := 27) (tgt := 36) dX7_lettersFrom_27 (by decide) (nI_ltI (by omega) (by omega)) (fun hb27 => ?_) (fun hb27 => ?_)
          · skip
            have hE : lend tx p = e := by
              rw [← hL]
              exact lend_stop (by omega)
            refine tr_iload_n (pc := 36) 2 dX7_lettersFrom_36 rfl rfl ?_
            refine tr_iload_n (pc := 37) 1 dX7_lettersFrom_37 rfl rfl ?_
            refine tr_isub (pc := 38) (v := nI (lend tx p - p)) dX7_lettersFrom_38 (by rw [hE]; exact pk_sub (by omega)) ?_
            exact tr_iret (pc := 39) dX7_lettersFrom_39 rfl rfl (⟨rfl, rfl, rfl⟩)
          · skip
            refine tr_iinc (pc := 30) (v := nI (e + 1)) (lv' := [(2, .int (nI (e + 1))), (0, rv a 1), (1, .int (nI p))]) 2 dX7_lettersFrom_30 rfl (by rw [show Int32.ofInt 1 = nI 1 from by decide, nI_add]) (by decide) rfl ?_
            refine tr_goto (pc := 33) (tgt := 2) dX7_lettersFrom_33 (by decide) ?_
            refine tr_sub (pc := 2) (lv' := [(0, rv a 1), (1, .int (nI p)), (2, .int (nI (e + 1)))]) [1, 2, 0] rfl ?_
            exact ih (e + 1) (by omega) (by omega) (by omega) (by rw [← lend_step (by omega) (by omega) (by omega)]; exact hL)
  exact L2 (tx.length - p + 1) p (by omega) (Nat.le_refl _) hp rfl

def spB (tx : List Nat) (p L j : Nat) : Nat := if (sB j).length = L ∧ ∀ k, k < L → tx.getD (p + k) 0 = (sB j).getD k 0 then 1 else 0
theorem nrZ {s : Nat} (h : s ≤ 1) : narrow .boolean (.int (nI s)) = .int (nI s) := by
  rcases (by omega : s = 0 ∨ s = 1) with rfl | rfl <;> decide
theorem sB_128 : ∀ j, j < 2 → ∀ k, k < (sB j).length → (sB j).getD k 0 < 128 := by decide +kernel
set_option maxHeartbeats 4000000 in
set_option maxRecDepth 100000 in
theorem c_spells {a : Am} {S : St} {h : Hp} (hS : IsSt S) {tx : List Nat} (hT : TX h tx) (hv : TV tx) {j : Nat} (hj : j < 2) {p L : Nat} (hL : p + L ≤ tx.length) : CT a 4 mX7_spells [rv a 1, .int (nI p), .int (nI L), .ref (a.2.2.2.2.1 j)] S h (Rt (nI (spB tx p L j)) S h) := by
  obtain ⟨hv1, hv2⟩ := id hv
  have hj5 := sB_lt j hj
  refine met_of (by decide +kernel) (Nat.le_of_ble_eq_true rfl) ?_
  show T a 4 mX7_spells 0 [(0, rv a 1), (1, .int (nI p)), (2, .int (nI L)), (3, .ref (a.2.2.2.2.1 j))] [] S h _
  refine tr_aload_nS (pc := 0) 3 dX7_spells_0 rfl rfl ?_
  refine tr_callK (pc := 1) (rest := []) hj dX7_spells_1 ml_X7_64 cv_J0_length_8abf5 rfl rfl (Nat.le_of_ble_eq_true rfl) rfl (by decide) (c_slen hj) ?_
  rintro _ _ _ ⟨rfl, rfl, rfl⟩
  show T a 4 mX7_spells 4 [(0, rv a 1), (1, .int (nI p)), (2, .int (nI L)), (3, .ref (a.2.2.2.2.1 j))] [.int (nI ((sB j).length))] S h _
  refine tr_iload_n (pc := 4) 2 dX7_spells_4 rfl rfl ?_
  refine tr_icmp_ne (pc := 5) (tgt := 12) dX7_spells_5 (by decide) (nI_eq (by omega) (by omega)) (fun hb5 => ?_) (fun hb5 => ?_)
  · skip
    refine tr_iconst (pc := 12) (v := nI 0) dX7_spells_12 (by decide) ?_
    refine tr_istore (pc := 13) (lv' := [(4, .int (nI 0)), (0, rv a 1), (1, .int (nI p)), (2, .int (nI L)), (3, .ref (a.2.2.2.2.1 j))]) dX7_spells_13 (by decide) rfl ?_
    refine tr_iconst (pc := 15) (v := nI 0) dX7_spells_15 (by decide) ?_
    refine tr_istore (pc := 16) (lv' := [(5, .int (nI 0)), (4, .int (nI 0)), (0, rv a 1), (1, .int (nI p)), (2, .int (nI L)), (3, .ref (a.2.2.2.2.1 j))]) dX7_spells_16 (by decide) rfl ?_
    refine tr_sub (pc := 18) (lv' := [(0, rv a 1), (1, .int (nI p)), (2, .int (nI L)), (3, .ref (a.2.2.2.2.1 j)), (4, .int (nI 0)), (5, .int (nI 0))]) [2, 3, 4, 5, 1, 0] rfl ?_
    have L18 : ∀ (fu : Nat) (k sv : Nat), L - k < fu → k ≤ L → sv ≤ 1 → (sv = 1 → (sB j).length = L ∧ ∀ q, q < k → tx.getD (p + q) 0 = (sB j).getD q 0) → (sv = 0 → spB tx p L j = 0) → T a 4 mX7_spells 18 [(0, rv a 1), (1, .int (nI p)), (2, .int (nI L)), (3, .ref (a.2.2.2.2.1 j)), (4, .int (nI sv)), (5, .int (nI k))] [] S h (Rt (nI (spB tx p L j)) S h) := by
      intro fu
      induction fu with
      | zero => intro k sv hu hk hsv hs1 hs0; omega
      | succ fu ih =>
        intro k sv hu hk hsv hs1 hs0
        have h128 := tv_lt hv (p := p + k)
        obtain ⟨hv1, hv2⟩ := id hv
        refine tr_iload (pc := 18) 5 dX7_spells_18 rfl ?_
        refine tr_iload_n (pc := 20) 2 dX7_spells_20 rfl rfl ?_
        refine tr_icmp_ge (pc := 21) (tgt := 59) dX7_spells_21 (by decide) (nI_leI (by omega) (by omega)) (fun hb21 => ?_) (fun hb21 => ?_)
        · skip
          have hE : sv = spB tx p L j := by
            rcases (by omega : sv = 0 ∨ sv = 1) with e | e
            · rw [hs0 e, e]
            · have e1 := hs1 e
              unfold spB
              rw [if_pos ⟨e1.1, fun q hq => e1.2 q (by omega)⟩, e]
          refine tr_iload (pc := 59) 4 dX7_spells_59 rfl ?_
          exact tr_iret (pc := 61) dX7_spells_61 rfl (nrZ hsv) (⟨by rw [hE], rfl, rfl⟩)
        · skip
          refine tr_iload (pc := 24) 4 dX7_spells_24 rfl ?_
          refine tr_if_eq (pc := 26) (tgt := 59) dX7_spells_26 (by decide) (nI_z_eq (by omega)) (fun hb26 => ?_) (fun hb26 => ?_)
          · skip
            have hE : sv = spB tx p L j := by
              rw [hs0 hb26, hb26]
            refine tr_iload (pc := 59) 4 dX7_spells_59 rfl ?_
            exact tr_iret (pc := 61) dX7_spells_61 rfl (nrZ hsv) (⟨by rw [hE], rfl, rfl⟩)
          · skip
            refine tr_aload_n (pc := 29) 0 dX7_spells_29 rfl rfl ?_
            refine tr_iload_n (pc := 30) 1 dX7_spells_30 rfl rfl ?_
            refine tr_iload (pc := 31) 5 dX7_spells_31 rfl ?_
            refine tr_iadd (pc := 33) (v := nI (p + k)) dX7_spells_33 (nI_add _ _) ?_
            refine tr_callV (pc := 34) (rest := []) (ci := 6) dX7_spells_34 ml_X7_44 cv_X6_at rfl rfl (Nat.le_of_ble_eq_true rfl) (hS.1 1 (9, 2) rfl) rfl (by decide) (c_at_in hS hT hv (by omega)) ?_
            rintro _ _ _ ⟨rfl, rfl, rfl⟩
            show T a 4 mX7_spells 37 [(0, rv a 1), (1, .int (nI p)), (2, .int (nI L)), (3, .ref (a.2.2.2.2.1 j)), (4, .int (nI sv)), (5, .int (nI k))] [.int (nI (tx.getD (p + k) 0))] S h _
            refine tr_aload_nS (pc := 37) 3 dX7_spells_37 rfl rfl ?_
            refine tr_iload (pc := 38) 5 dX7_spells_38 rfl ?_
            have hkj : k < (sB j).length := by rw [(hs1 (by omega)).1]; omega
            have hk128 := sB_128 j hj k hkj
            refine tr_callK (pc := 40) (rest := [.int (nI (tx.getD (p + k) 0))]) hj dX7_spells_40 ml_X7_67 cv_J0_charAt_5068e rfl rfl (Nat.le_of_ble_eq_true rfl) rfl (by decide) (c_chat hj hkj) ?_
            rintro _ _ _ ⟨rfl, rfl, rfl⟩
            show T a 4 mX7_spells 43 [(0, rv a 1), (1, .int (nI p)), (2, .int (nI L)), (3, .ref (a.2.2.2.2.1 j)), (4, .int (nI sv)), (5, .int (nI k))] [.int (nI ((sB j).getD k 0)), .int (nI (tx.getD (p + k) 0))] S h _
            refine tr_icmp_ne (pc := 43) (tgt := 50) dX7_spells_43 (by decide) (nI_eq (by omega) (by omega)) (fun hb43 => ?_) (fun hb43 => ?_)
            · skip
              refine tr_iconst (pc := 50) (v := nI 0) dX7_spells_50 (by decide) ?_
              refine tr_istore (pc := 51) (lv' := [(4, .int (nI 0)), (0, rv a 1), (1, .int (nI p)), (2, .int (nI L)), (3, .ref (a.2.2.2.2.1 j)), (5, .int (nI k))]) dX7_spells_51 (by decide) rfl ?_
              refine tr_iinc (pc := 53) (v := nI (k + 1)) (lv' := [(5, .int (nI (k + 1))), (4, .int (nI 0)), (0, rv a 1), (1, .int (nI p)), (2, .int (nI L)), (3, .ref (a.2.2.2.2.1 j))]) 5 dX7_spells_53 rfl (by rw [show Int32.ofInt 1 = nI 1 from by decide, nI_add]) (by decide) rfl ?_
              refine tr_goto (pc := 56) (tgt := 18) dX7_spells_56 (by decide) ?_
              refine tr_sub (pc := 18) (lv' := [(0, rv a 1), (1, .int (nI p)), (2, .int (nI L)), (3, .ref (a.2.2.2.2.1 j)), (4, .int (nI 0)), (5, .int (nI (k + 1)))]) [2, 3, 4, 5, 1, 0] rfl ?_
              exact ih (k + 1) 0 (by omega) (by omega) (by omega) (by omega) (fun _ => by
                unfold spB
                exact if_neg (fun z => hb43 (z.2 k (by omega))))
            · skip
              refine tr_iconst (pc := 46) (v := nI 1) dX7_spells_46 (by decide) ?_
              refine tr_goto (pc := 47) (tgt := 51) dX7_spells_47 (by decide) ?_
              refine tr_istore (pc := 51) (lv' := [(4, .int (nI 1)), (0, rv a 1), (1, .int (nI p)), (2, .int (nI L)), (3, .ref (a.2.2.2.2.1 j)), (5, .int (nI k))]) dX7_spells_51 (by decide) rfl ?_
              refine tr_iinc (pc := 53) (v := nI (k + 1)) (lv' := [(5, .int (nI (k + 1))), (4, .int (nI 1)), (0, rv a 1), (1, .int (nI p)), (2, .int (nI L)), (3, .ref (a.2.2.2.2.1 j))]) 5 dX7_spells_53 rfl (by rw [show Int32.ofInt 1 = nI 1 from by decide, nI_add]) (by decide) rfl ?_
              refine tr_goto (pc := 56) (tgt := 18) dX7_spells_56 (by decide) ?_
              refine tr_sub (pc := 18) (lv' := [(0, rv a 1), (1, .int (nI p)), (2, .int (nI L)), (3, .ref (a.2.2.2.2.1 j)), (4, .int (nI 1)), (5, .int (nI (k + 1)))]) [2, 3, 4, 5, 1, 0] rfl ?_
              exact ih (k + 1) 1 (by omega) (by omega) (by omega) (fun _ => ⟨(hs1 (by omega)).1, fun q hq => by
                by_cases e : q = k
                · rw [e]; exact hb43
                · exact (hs1 (by omega)).2 q (by omega)⟩) (by omega)
    first | exact L18 (L + 1) 0 1 (by omega) (by omega) (by omega) (fun _ => ⟨hb5, fun q hq => absurd hq (by omega)⟩) (by omega) | exact L18 (L + 1) 0 0 (by omega) (by omega) (by omega) (by omega) (fun _ => by unfold spB; exact if_neg (fun z => hb5 z.1))
  · skip
    refine tr_iconst (pc := 8) (v := nI 1) dX7_spells_8 (by decide) ?_
    refine tr_goto (pc := 9) (tgt := 13) dX7_spells_9 (by decide) ?_
    refine tr_istore (pc := 13) (lv' := [(4, .int (nI 1)), (0, rv a 1), (1, .int (nI p)), (2, .int (nI L)), (3, .ref (a.2.2.2.2.1 j))]) dX7_spells_13 (by decide) rfl ?_
    refine tr_iconst (pc := 15) (v := nI 0) dX7_spells_15 (by decide) ?_
    refine tr_istore (pc := 16) (lv' := [(5, .int (nI 0)), (4, .int (nI 1)), (0, rv a 1), (1, .int (nI p)), (2, .int (nI L)), (3, .ref (a.2.2.2.2.1 j))]) dX7_spells_16 (by decide) rfl ?_
    refine tr_sub (pc := 18) (lv' := [(0, rv a 1), (1, .int (nI p)), (2, .int (nI L)), (3, .ref (a.2.2.2.2.1 j)), (4, .int (nI 1)), (5, .int (nI 0))]) [2, 3, 4, 5, 1, 0] rfl ?_
    have L18 : ∀ (fu : Nat) (k sv : Nat), L - k < fu → k ≤ L → sv ≤ 1 → (sv = 1 → (sB j).length = L ∧ ∀ q, q < k → tx.getD (p + q) 0 = (sB j).getD q 0) → (sv = 0 → spB tx p L j = 0) → T a 4 mX7_spells 18 [(0, rv a 1), (1, .int (nI p)), (2, .int (nI L)), (3, .ref (a.2.2.2.2.1 j)), (4, .int (nI sv)), (5, .int (nI k))] [] S h (Rt (nI (spB tx p L j)) S h) := by
      intro fu
      induction fu with
      | zero => intro k sv hu hk hsv hs1 hs0; omega
      | succ fu ih =>
        intro k sv hu hk hsv hs1 hs0
        have h128 := tv_lt hv (p := p + k)
        obtain ⟨hv1, hv2⟩ := id hv
        refine tr_iload (pc := 18) 5 dX7_spells_18 rfl ?_
        refine tr_iload_n (pc := 20) 2 dX7_spells_20 rfl rfl ?_
        refine tr_icmp_ge (pc := 21) (tgt := 59) dX7_spells_21 (by decide) (nI_leI (by omega) (by omega)) (fun hb21 => ?_) (fun hb21 => ?_)
        · skip
          have hE : sv = spB tx p L j := by
            rcases (by omega : sv = 0 ∨ sv = 1) with e | e
            · rw [hs0 e, e]
            · have e1 := hs1 e
              unfold spB
              rw [if_pos ⟨e1.1, fun q hq => e1.2 q (by omega)⟩, e]
          refine tr_iload (pc := 59) 4 dX7_spells_59 rfl ?_
          exact tr_iret (pc := 61) dX7_spells_61 rfl (nrZ hsv) (⟨by rw [hE], rfl, rfl⟩)
        · skip
          refine tr_iload (pc := 24) 4 dX7_spells_24 rfl ?_
          refine tr_if_eq (pc := 26) (tgt := 59) dX7_spells_26 (by decide) (nI_z_eq (by omega)) (fun hb26 => ?_) (fun hb26 => ?_)
          · skip
            have hE : sv = spB tx p L j := by
              rw [hs0 hb26, hb26]
            refine tr_iload (pc := 59) 4 dX7_spells_59 rfl ?_
            exact tr_iret (pc := 61) dX7_spells_61 rfl (nrZ hsv) (⟨by rw [hE], rfl, rfl⟩)
          · skip
            refine tr_aload_n (pc := 29) 0 dX7_spells_29 rfl rfl ?_
            refine tr_iload_n (pc := 30) 1 dX7_spells_30 rfl rfl ?_
            refine tr_iload (pc := 31) 5 dX7_spells_31 rfl ?_
            refine tr_iadd (pc := 33) (v := nI (p + k)) dX7_spells_33 (nI_add _ _) ?_
            refine tr_callV (pc := 34) (rest := []) (ci := 6) dX7_spells_34 ml_X7_44 cv_X6_at rfl rfl (Nat.le_of_ble_eq_true rfl) (hS.1 1 (9, 2) rfl) rfl (by decide) (c_at_in hS hT hv (by omega)) ?_
            rintro _ _ _ ⟨rfl, rfl, rfl⟩
            show T a 4 mX7_spells 37 [(0, rv a 1), (1, .int (nI p)), (2, .int (nI L)), (3, .ref (a.2.2.2.2.1 j)), (4, .int (nI sv)), (5, .int (nI k))] [.int (nI (tx.getD (p + k) 0))] S h _
            refine tr_aload_nS (pc := 37) 3 dX7_spells_37 rfl rfl ?_
            refine tr_iload (pc := 38) 5 dX7_spells_38 rfl ?_
            have hkj : k < (sB j).length := by rw [(hs1 (by omega)).1]; omega
            have hk128 := sB_128 j hj k hkj
            refine tr_callK (pc := 40) (rest := [.int (nI (tx.getD (p + k) 0))]) hj dX7_spells_40 ml_X7_67 cv_J0_charAt_5068e rfl rfl (Nat.le_of_ble_eq_true rfl) rfl (by decide) (c_chat hj hkj) ?_
            rintro _ _ _ ⟨rfl, rfl, rfl⟩
            show T a 4 mX7_spells 43 [(0, rv a 1), (1, .int (nI p)), (2, .int (nI L)), (3, .ref (a.2.2.2.2.1 j)), (4, .int (nI sv)), (5, .int (nI k))] [.int (nI ((sB j).getD k 0)), .int (nI (tx.getD (p + k) 0))] S h _
            refine tr_icmp_ne (pc := 43) (tgt := 50) dX7_spells_43 (by decide) (nI_eq (by omega) (by omega)) (fun hb43 => ?_) (fun hb43 => ?_)
            · skip
              refine tr_iconst (pc := 50) (v := nI 0) dX7_spells_50 (by decide) ?_
              refine tr_istore (pc := 51) (lv' := [(4, .int (nI 0)), (0, rv a 1), (1, .int (nI p)), (2, .int (nI L)), (3, .ref (a.2.2.2.2.1 j)), (5, .int (nI k))]) dX7_spells_51 (by decide) rfl ?_
              refine tr_iinc (pc := 53) (v := nI (k + 1)) (lv' := [(5, .int (nI (k + 1))), (4, .int (nI 0)), (0, rv a 1), (1, .int (nI p)), (2, .int (nI L)), (3, .ref (a.2.2.2.2.1 j))]) 5 dX7_spells_53 rfl (by rw [show Int32.ofInt 1 = nI 1 from by decide, nI_add]) (by decide) rfl ?_
              refine tr_goto (pc := 56) (tgt := 18) dX7_spells_56 (by decide) ?_
              refine tr_sub (pc := 18) (lv' := [(0, rv a 1), (1, .int (nI p)), (2, .int (nI L)), (3, .ref (a.2.2.2.2.1 j)), (4, .int (nI 0)), (5, .int (nI (k + 1)))]) [2, 3, 4, 5, 1, 0] rfl ?_
              exact ih (k + 1) 0 (by omega) (by omega) (by omega) (by omega) (fun _ => by
                unfold spB
                exact if_neg (fun z => hb43 (z.2 k (by omega))))
            · skip
              refine tr_iconst (pc := 46) (v := nI 1) dX7_spells_46 (by decide) ?_
              refine tr_goto (pc := 47) (tgt := 51) dX7_spells_47 (by decide) ?_
              refine tr_istore (pc := 51) (lv' := [(4, .int (nI 1)), (0, rv a 1), (1, .int (nI p)), (2, .int (nI L)), (3, .ref (a.2.2.2.2.1 j)), (5, .int (nI k))]) dX7_spells_51 (by decide) rfl ?_
              refine tr_iinc (pc := 53) (v := nI (k + 1)) (lv' := [(5, .int (nI (k + 1))), (4, .int (nI 1)), (0, rv a 1), (1, .int (nI p)), (2, .int (nI L)), (3, .ref (a.2.2.2.2.1 j))]) 5 dX7_spells_53 rfl (by rw [show Int32.ofInt 1 = nI 1 from by decide, nI_add]) (by decide) rfl ?_
              refine tr_goto (pc := 56) (tgt := 18) dX7_spells_56 (by decide) ?_
              refine tr_sub (pc := 18) (lv' := [(0, rv a 1), (1, .int (nI p)), (2, .int (nI L)), (3, .ref (a.2.2.2.2.1 j)), (4, .int (nI 1)), (5, .int (nI (k + 1)))]) [2, 3, 4, 5, 1, 0] rfl ?_
              exact ih (k + 1) 1 (by omega) (by omega) (by omega) (fun _ => ⟨(hs1 (by omega)).1, fun q hq => by
                by_cases e : q = k
                · rw [e]; exact hb43
                · exact (hs1 (by omega)).2 q (by omega)⟩) (by omega)
    first | exact L18 (L + 1) 0 1 (by omega) (by omega) (by omega) (fun _ => ⟨hb5, fun q hq => absurd hq (by omega)⟩) (by omega) | exact L18 (L + 1) 0 0 (by omega) (by omega) (by omega) (by omega) (fun _ => by unfold spB; exact if_neg (fun z => hb5 z.1))

theorem spB_0 {tx : List Nat} {p L : Nat} : spB tx p L 0 ≠ 0 ↔ L = 3 ∧ tx.getD p 0 = 110 ∧ tx.getD (p + 1) 0 = 101 ∧ tx.getD (p + 2) 0 = 119 := by
  have hl : (sB 0).length = 3 := rfl
  unfold spB
  constructor
  · intro h
    by_cases z : (sB 0).length = L ∧ ∀ k, k < L → tx.getD (p + k) 0 = (sB 0).getD k 0
    · have hL : L = 3 := by omega
      exact ⟨hL, z.2 0 (by omega), z.2 1 (by omega), z.2 2 (by omega)⟩
    · rw [if_neg z] at h; exact absurd rfl h
  · rintro ⟨rfl, h1, h2, h3⟩
    rw [if_pos ⟨hl, fun k hk => by
      rcases (by omega : k = 0 ∨ k = 1 ∨ k = 2) with rfl | rfl | rfl
      · exact h1
      · exact h2
      · exact h3⟩]
    decide
theorem spB_1 {tx : List Nat} {p L : Nat} : spB tx p L 1 ≠ 0 ↔ L = 4 ∧ tx.getD p 0 = 108 ∧ tx.getD (p + 1) 0 = 111 ∧ tx.getD (p + 2) 0 = 99 ∧ tx.getD (p + 3) 0 = 107 := by
  have hl : (sB 1).length = 4 := rfl
  unfold spB
  constructor
  · intro h
    by_cases z : (sB 1).length = L ∧ ∀ k, k < L → tx.getD (p + k) 0 = (sB 1).getD k 0
    · have hL : L = 4 := by omega
      exact ⟨hL, z.2 0 (by omega), z.2 1 (by omega), z.2 2 (by omega), z.2 3 (by omega)⟩
    · rw [if_neg z] at h; exact absurd rfl h
  · rintro ⟨rfl, h1, h2, h3, h4⟩
    rw [if_pos ⟨hl, fun k hk => by
      rcases (by omega : k = 0 ∨ k = 1 ∨ k = 2 ∨ k = 3) with rfl | rfl | rfl | rfl
      · exact h1
      · exact h2
      · exact h3
      · exact h4⟩]
    decide
theorem spB_le {tx : List Nat} {p L j : Nat} : spB tx p L j ≤ 1 := by
  unfold spB
  split <;> omega
theorem wkd_sp {tx : List Nat} {p L : Nat} : wkd tx p L = if spB tx p L 0 ≠ 0 then 128 else if spB tx p L 1 ≠ 0 then 129 else 130 := by
  unfold wkd
  by_cases h0 : spB tx p L 0 ≠ 0
  · rw [if_pos h0, if_pos (spB_0.1 h0)]
  · rw [if_neg h0, if_neg (fun z => h0 (spB_0.2 z))]
    by_cases h1 : spB tx p L 1 ≠ 0
    · rw [if_pos h1, if_pos (spB_1.1 h1)]
    · rw [if_neg h1, if_neg (fun z => h1 (spB_1.2 z))]
set_option maxHeartbeats 4000000 in
set_option maxRecDepth 100000 in
theorem c_wordKind {a : Am} {S : St} {h : Hp} (hS : IsSt S) {tx : List Nat} (hT : TX h tx) (hv : TV tx) {p L : Nat} (hL : p + L ≤ tx.length) : CT a 5 mX7_wordKind [rv a 1, .int (nI p), .int (nI L)] S h (Rt (nI (wkd tx p L)) S h) := by
  have hq0 := spB_le (tx := tx) (p := p) (L := L) (j := 0)
  have hq1 := spB_le (tx := tx) (p := p) (L := L) (j := 1)
  refine met_of (by decide +kernel) (Nat.le_of_ble_eq_true rfl) ?_
  show T a 5 mX7_wordKind 0 [(0, rv a 1), (1, .int (nI p)), (2, .int (nI L))] [] S h _
  refine tr_aload_n (pc := 0) 0 dX7_wordKind_0 rfl rfl ?_
  refine tr_iload_n (pc := 1) 1 dX7_wordKind_1 rfl rfl ?_
  refine tr_iload_n (pc := 2) 2 dX7_wordKind_2 rfl rfl ?_
  refine tr_ldcS (pc := 3) (fun U hU => hU.1) dX7_wordKind_3 ?_
  refine tr_callS (pc := 5) (rest := []) dX7_wordKind_5 ml_X7_58 cs_X7_spells rfl rfl (Nat.le_of_ble_eq_true rfl) (by decide) (c_spells hS hT hv (j := 0) (by decide) hL) ?_
  rintro _ _ _ ⟨rfl, rfl, rfl⟩
  show T a 5 mX7_wordKind 8 [(0, rv a 1), (1, .int (nI p)), (2, .int (nI L))] [.int (nI (spB tx p L 0))] S h _
  refine tr_if_eq (pc := 8) (tgt := 15) dX7_wordKind_8 (by decide) (nI_z_eq (by omega)) (fun hb8 => ?_) (fun hb8 => ?_)
  · skip
    refine tr_aload_n (pc := 15) 0 dX7_wordKind_15 rfl rfl ?_
    refine tr_iload_n (pc := 16) 1 dX7_wordKind_16 rfl rfl ?_
    refine tr_iload_n (pc := 17) 2 dX7_wordKind_17 rfl rfl ?_
    refine tr_ldcS (pc := 18) (fun U hU => hU.2.1) dX7_wordKind_18 ?_
    refine tr_callS (pc := 20) (rest := []) dX7_wordKind_20 ml_X7_58 cs_X7_spells rfl rfl (Nat.le_of_ble_eq_true rfl) (by decide) (c_spells hS hT hv (j := 1) (by decide) hL) ?_
    rintro _ _ _ ⟨rfl, rfl, rfl⟩
    show T a 5 mX7_wordKind 23 [(0, rv a 1), (1, .int (nI p)), (2, .int (nI L))] [.int (nI (spB tx p L 1))] S h _
    refine tr_if_eq (pc := 23) (tgt := 32) dX7_wordKind_23 (by decide) (nI_z_eq (by omega)) (fun hb23 => ?_) (fun hb23 => ?_)
    · skip
      refine tr_sipush (pc := 32) (v := nI 130) dX7_wordKind_32 (by decide) ?_
      exact tr_iret (pc := 35) dX7_wordKind_35 rfl rfl (⟨by rw [wkd_sp, if_neg (by omega), if_neg (by omega)], rfl, rfl⟩)
    · skip
      refine tr_sipush (pc := 26) (v := nI 129) dX7_wordKind_26 (by decide) ?_
      refine tr_goto (pc := 29) (tgt := 35) dX7_wordKind_29 (by decide) ?_
      exact tr_iret (pc := 35) dX7_wordKind_35 rfl rfl (⟨by rw [wkd_sp, if_neg (by omega), if_pos (by omega)], rfl, rfl⟩)
  · skip
    refine tr_sipush (pc := 11) (v := nI 128) dX7_wordKind_11 (by decide) ?_
    exact tr_iret (pc := 14) dX7_wordKind_14 rfl rfl (⟨by rw [wkd_sp, if_pos (by omega)], rfl, rfl⟩)

def ck (k : Nat) : Int32 := if k = 131 then -1 else nI k
theorem ck_n {k : Nat} (h : k ≠ 131) : ck k = nI k := by unfold ck; rw [if_neg h]
theorem ck_inj : ∀ k, k ≤ 131 → ∀ w, w ≤ 131 → ck k = ck w → k = w := by
  intro k hk w hw h
  unfold ck at h
  by_cases h1 : k = 131 <;> by_cases h2 : w = 131
  · omega
  · rw [if_pos h1, if_neg h2] at h
    have : ¬ nI w < 0 := nI_pos (by omega)
    exact absurd (show nI w < 0 by rw [← h]; decide) this
  · rw [if_neg h1, if_pos h2] at h
    have : ¬ nI k < 0 := nI_pos (by omega)
    exact absurd (show nI k < 0 by rw [h]; decide) this
  · rw [if_neg h1, if_neg h2] at h
    exact (nI_eq (by omega) (by omega)).1 h
/-- the row of tokens, n of them -/
def TK (h : Hp) (tx : List Nat) (n : Nat) : Prop := h 10 2 = nI n ∧ h 10 4 = nI tx.length ∧ pl tx n = tx.length ∧ n ≤ 200 ∧ ∀ j, j < n → pl tx j < tx.length ∧ h 11 j = nI (kd tx (pl tx j)) ∧ h 12 j = nI (pl tx j)
def CU (h : Hp) (tx : List Nat) (n : Nat) (h1 : Hp) : Prop := Fr [10, 11, 12] h h1 ∧ h1 10 2 = nI n ∧ h1 10 3 = nI 0 ∧ h1 10 4 = nI tx.length ∧ ∀ j, j < n → pl tx j < tx.length ∧ h1 11 j = nI (kd tx (pl tx j)) ∧ h1 12 j = nI (pl tx j)
theorem cu_add {h h1 : Hp} {tx : List Nat} {n q k : Nat} (hC : CU h tx n h1) (hp : pl tx n = q) (hq : q < tx.length) (hk : k = kd tx q) : CU h tx (n + 1) (hs (hs (hs h1 11 (upd (h1 11) n (nI k))) 12 (upd (h1 12) n (nI q))) 10 (upd (h1 10) 2 (nI (n + 1)))) := by
  obtain ⟨c1, c2, c3, c4, c5⟩ := hC
  refine ⟨((c1.hs (by decide)).hs (by decide)).hs (by decide), ?_, ?_, ?_, fun j hj => ?_⟩
  · rw [hs_same, upd_s]
  · rw [hs_same, upd_n (by decide)]; exact c3
  · rw [hs_same, upd_n (by decide)]; exact c4
  · rw [hs_ne (show 11 ≠ 10 by decide), hs_ne (show 11 ≠ 12 by decide), hs_same, hs_ne (show 12 ≠ 10 by decide), hs_same]
    by_cases e : j = n
    · subst e
      rw [upd_s, upd_s, hp, hk]
      exact ⟨hq, rfl, rfl⟩
    · rw [upd_n e, upd_n e]
      exact c5 j (by omega)
theorem max_I {x : Nat} (hx : x < 2 ^ 30) : (if nI 1 < nI x then nI x else nI 1) = nI (max 1 x) := by
  by_cases h : 1 < x
  · rw [if_pos ((nI_ltI (by decide) (by omega)).2 h), Nat.max_eq_right (by omega)]
  · rw [if_neg (fun q => h ((nI_ltI (by decide) (by omega)).1 q)), Nat.max_eq_left (by omega)]
set_option maxHeartbeats 4000000 in
set_option maxRecDepth 100000 in
theorem c_tadd {a : Am} {S : St} {h : Hp} (hS : IsSt S) {n k q : Nat} (hn : h 10 2 = nI n) (h2 : n < 200) : CT a 0 mX7_add [rv a 10, .int (nI k), .int (nI q)] S h (Rv S (hs (hs (hs h 11 (upd (h 11) n (nI k))) 12 (upd (h 12) n (nI q))) 10 (upd (h 10) 2 (nI (n + 1))))) := by
  refine met_of (by decide +kernel) (Nat.le_of_ble_eq_true rfl) ?_
  show T a 0 mX7_add 0 [(0, rv a 10), (1, .int (nI k)), (2, .int (nI q))] [] S h _
  refine tr_aload_n (pc := 0) 0 dX7_add_0 rfl rfl ?_
  refine tr_getI (pc := 1) (x := nI n) dX7_add_1 (hS.1 10 (10, 5) rfl) fi_X7_22 rfl hn ?_
  refine tr_sipush (pc := 4) (v := nI 200) dX7_add_4 (by decide) ?_
  refine tr_icmp_ge (pc := 7) (tgt := 40) dX7_add_7 (by decide) (nI_leI (by omega) (by omega)) (fun hcc => absurd hcc (by omega)) (fun _ => ?_)
  refine tr_aload_n (pc := 10) 0 dX7_add_10 rfl rfl ?_
  refine tr_getR (pc := 11) (q := 11) dX7_add_11 (hS.1 10 (10, 5) rfl) fi_X7_9 rfl (hS.2 10 0 11 rfl) ?_
  refine tr_aload_n (pc := 14) 0 dX7_add_14 rfl rfl ?_
  refine tr_getI (pc := 15) (x := nI n) dX7_add_15 (hS.1 10 (10, 5) rfl) fi_X7_22 rfl hn ?_
  refine tr_iload_n (pc := 18) 1 dX7_add_18 rfl rfl ?_
  refine tr_iast (pc := 19) n dX7_add_19 (hS.1 11 (0, 200) rfl) rfl (by omega) (by decide) ?_
  refine tr_aload_n (pc := 20) 0 dX7_add_20 rfl rfl ?_
  refine tr_getR (pc := 21) (q := 12) dX7_add_21 (hS.1 10 (10, 5) rfl) fi_X7_15 rfl (hS.2 10 1 12 rfl) ?_
  refine tr_aload_n (pc := 24) 0 dX7_add_24 rfl rfl ?_
  refine tr_getI (pc := 25) (x := nI n) dX7_add_25 (hS.1 10 (10, 5) rfl) fi_X7_22 rfl hn ?_
  refine tr_iload_n (pc := 28) 2 dX7_add_28 rfl rfl ?_
  refine tr_iast (pc := 29) n dX7_add_29 (hS.1 12 (0, 200) rfl) rfl (by omega) (by decide) ?_
  refine tr_aload_n (pc := 30) 0 dX7_add_30 rfl rfl ?_
  refine tr_dup (pc := 31) dX7_add_31 rfl ?_
  refine tr_getI (pc := 32) (x := nI n) dX7_add_32 (hS.1 10 (10, 5) rfl) fi_X7_22 rfl hn ?_
  refine tr_iconst (pc := 35) (v := nI 1) dX7_add_35 (by decide) ?_
  refine tr_iadd (pc := 36) (v := nI (n + 1)) dX7_add_36 (nI_add _ _) ?_
  refine tr_putI (pc := 37) (x := nI (n + 1)) dX7_add_37 (hS.1 10 (10, 5) rfl) fi_X7_22 rfl rfl rfl ?_
  exact tr_vret (pc := 40) dX7_add_40 rfl (⟨rfl, rfl, rfl⟩)

set_option maxHeartbeats 4000000 in
set_option maxRecDepth 100000 in
theorem c_cut {a : Am} {S : St} {h : Hp} (hS : IsSt S) {tx : List Nat} (hT : TX h tx) (hv : TV tx) : CT a 6 mX7_cut [rv a 10, rv a 1] S h (fun v S' h' => v = none ∧ S = S' ∧ h' 10 3 = nI 0 ∧ (∃ n, TK h' tx n) ∧ Fr [10, 11, 12] h h') := by
  refine met_of (by decide +kernel) (Nat.le_of_ble_eq_true rfl) ?_
  show T a 6 mX7_cut 0 [(0, rv a 10), (1, rv a 1)] [] S h _
  refine tr_aload_n (pc := 0) 0 dX7_cut_0 rfl rfl ?_
  refine tr_iconst (pc := 1) (v := nI 0) dX7_cut_1 (by decide) ?_
  refine tr_putI (pc := 2) (x := nI 0) dX7_cut_2 (hS.1 10 (10, 5) rfl) fi_X7_22 rfl rfl rfl ?_
  refine tr_aload_n (pc := 5) 0 dX7_cut_5 rfl rfl ?_
  refine tr_iconst (pc := 6) (v := nI 0) dX7_cut_6 (by decide) ?_
  refine tr_putI (pc := 7) (x := nI 0) dX7_cut_7 (hS.1 10 (10, 5) rfl) fi_X7_18 rfl rfl rfl ?_
  refine tr_aload_n (pc := 10) 0 dX7_cut_10 rfl rfl ?_
  refine tr_aload_n (pc := 11) 1 dX7_cut_11 rfl rfl ?_
  have hT0 : TX (hs (hs h 10 (upd (h 10) 2 (nI 0))) 10 (upd (hs h 10 (upd (h 10) 2 (nI 0)) 10) 3 (nI 0))) tx := hT.fr (L := [10]) ((Fr.rf.hs (by decide)).hs (by decide)) (by decide) (by decide)
  refine tr_callV (pc := 12) (rest := [rv a 10]) (ci := 6) dX7_cut_12 ml_X7_28 cv_X6_length rfl rfl (Nat.le_of_ble_eq_true rfl) (hS.1 1 (9, 2) rfl) rfl (by decide) (c_length hS hT0 hv) ?_
  rintro _ _ _ ⟨rfl, rfl, rfl⟩
  show T a 6 mX7_cut 15 [(0, rv a 10), (1, rv a 1)] [.int (nI tx.length), rv a 10] S (hs (hs h 10 (upd (h 10) 2 (nI 0))) 10 (upd ((hs h 10 (upd (h 10) 2 (nI 0))) 10) 3 (nI 0))) _
  refine tr_putI (pc := 15) (x := nI tx.length) dX7_cut_15 (hS.1 10 (10, 5) rfl) fi_X7_25 rfl rfl rfl ?_
  refine tr_iconst (pc := 18) (v := nI 0) dX7_cut_18 (by decide) ?_
  refine tr_istore_n (pc := 19) (lv' := [(2, .int (nI 0)), (0, rv a 10), (1, rv a 1)]) dX7_cut_19 rfl (by decide) rfl ?_
  refine tr_sub (pc := 20) (lv' := [(0, rv a 10), (1, rv a 1), (2, .int (nI 0))]) [1, 2, 0] rfl ?_
  have L20 : ∀ (fu : Nat) (q n : Nat) (h1 : Hp), tx.length - q < fu → q ≤ tx.length → n ≤ q → pl tx n = skp tx q → CU h tx n h1 → T a 6 mX7_cut 20 [(0, rv a 10), (1, rv a 1), (2, .int (nI q))] [] S h1 (fun v S' h' => v = none ∧ S = S' ∧ h' 10 3 = nI 0 ∧ (∃ n, TK h' tx n) ∧ Fr [10, 11, 12] h h') := by
    intro fu
    induction fu with
    | zero => intro q n h1 hu hq hn hpl hC; omega
    | succ fu ih =>
      intro q n h1 hu hq hn hpl hC
      have h128 := tv_lt hv (p := q)
      obtain ⟨hv1, hv2⟩ := id hv
      have hT1 : TX h1 tx := hT.fr hC.1 (by decide) (by decide)
      have hge : q ≤ lend tx q := gon_ge
      have hle : lend tx q ≤ tx.length := gon_le hq
      refine tr_iload_n (pc := 20) 2 dX7_cut_20 rfl rfl ?_
      refine tr_aload_n (pc := 21) 0 dX7_cut_21 rfl rfl ?_
      refine tr_getI (pc := 22) (x := nI tx.length) dX7_cut_22 (hS.1 10 (10, 5) rfl) fi_X7_25 rfl hC.2.2.2.1 ?_
      refine tr_icmp_ge (pc := 25) (tgt := 79) dX7_cut_25 (by decide) (nI_leI (by omega) (by omega)) (fun hb25 => ?_) (fun hb25 => ?_)
      · skip
        exact tr_vret (pc := 79) dX7_cut_79 rfl (⟨rfl, rfl, hC.2.2.1, ⟨n, hC.2.1, hC.2.2.2.1, by rw [hpl, skp_stop (by omega)]; omega, by omega, hC.2.2.2.2⟩, hC.1⟩)
      · skip
        have hNx : Nx tx q = skp tx (q + max 1 (lend tx q - q)) := by
          unfold Nx aft
          rw [if_neg (by omega)]
          congr 1
          omega
        refine tr_iconst (pc := 28) (v := nI 1) dX7_cut_28 (by decide) ?_
        refine tr_aload_n (pc := 29) 1 dX7_cut_29 rfl rfl ?_
        refine tr_iload_n (pc := 30) 2 dX7_cut_30 rfl rfl ?_
        refine tr_callS (pc := 31) (rest := [.int (nI 1)]) dX7_cut_31 ml_X7_34 cs_X7_lettersFrom rfl rfl (Nat.le_of_ble_eq_true rfl) (by decide) (c_letters hS hT1 hv hq) ?_
        rintro _ _ _ ⟨rfl, rfl, rfl⟩
        show T a 6 mX7_cut 34 [(0, rv a 10), (1, rv a 1), (2, .int (nI q))] [.int (nI (lend tx q - q)), .int (nI 1)] S h1 _
        refine tr_max (pc := 34) (v := nI (max 1 (lend tx q - q))) dX7_cut_34 ml_X7_38 (Nat.le_of_ble_eq_true rfl) (by omega) (max_I (by omega)) ?_
        refine tr_istore_n (pc := 37) (lv' := [(3, .int (nI (max 1 (lend tx q - q)))), (0, rv a 10), (1, rv a 1), (2, .int (nI q))]) dX7_cut_37 rfl (by decide) rfl ?_
        refine tr_aload_n (pc := 38) 2 dX7_cut_38 rfl rfl ?_
        refine tr_iload_n (pc := 39) 3 dX7_cut_39 rfl rfl ?_
        refine tr_callV (pc := 40) (rest := []) (ci := 6) dX7_cut_40 ml_X7_44 cv_X6_at rfl rfl (Nat.le_of_ble_eq_true rfl) (hS.1 1 (9, 2) rfl) rfl (by decide) (c_at_in hS hT1 hv (by omega)) ?_
        rintro _ _ _ ⟨rfl, rfl, rfl⟩
        show T a 6 mX7_cut 43 [(3, .int (nI (max 1 (lend tx q - q)))), (0, rv a 10), (1, rv a 1), (2, .int (nI q))] [.int (nI (tx.getD q 0))] S h1 _
        refine tr_bipush (pc := 43) (v := nI 32) dX7_cut_43 (by decide) ?_
        refine tr_icmp_eq (pc := 45) (tgt := 72) dX7_cut_45 (by decide) (nI_eq (by omega) (by omega)) (fun hb45 => ?_) (fun hb45 => ?_)
        · skip
          refine tr_iload_n (pc := 72) 3 dX7_cut_72 rfl rfl ?_
          refine tr_iload_n (pc := 73) 0 dX7_cut_73 rfl rfl ?_
          refine tr_iadd (pc := 74) (v := nI (q + max 1 (lend tx q - q))) dX7_cut_74 (nI_add _ _) ?_
          refine tr_istore_n (pc := 75) (lv' := [(2, .int (nI (q + max 1 (lend tx q - q)))), (3, .int (nI (max 1 (lend tx q - q)))), (0, rv a 10), (1, rv a 1)]) dX7_cut_75 rfl (by decide) rfl ?_
          refine tr_goto (pc := 76) (tgt := 20) dX7_cut_76 (by decide) ?_
          refine tr_sub (pc := 20) (lv' := [(0, rv a 10), (1, rv a 1), (2, .int (nI (q + max 1 (lend tx q - q))))]) [2, 3, 0] rfl ?_
          exact ih (q + max 1 (lend tx q - q)) n h1 (by omega) (by omega) (by omega) (by
            have hlq : lend tx q = q := lend_stop (by omega)
            rw [hpl, skp_step (by omega) hb45, hlq, Nat.sub_self]
            rfl) hC
        · skip
          have hpq : pl tx n = q := by rw [hpl]; exact skp_stop (by omega)
          refine tr_aload_n (pc := 48) 1 dX7_cut_48 rfl rfl ?_
          refine tr_iload_n (pc := 49) 0 dX7_cut_49 rfl rfl ?_
          refine tr_iconst (pc := 50) (v := nI 1) dX7_cut_50 (by decide) ?_
          refine tr_icmp_ne (pc := 51) (tgt := 62) dX7_cut_51 (by decide) (nI_eq (by omega) (by omega)) (fun hb51 => ?_) (fun hb51 => ?_)
          · skip
            have hkk : wkd tx q (max 1 (lend tx q - q)) = kd tx q := by
              unfold kd
              rw [if_neg (by omega), if_neg (by omega), show max 1 (lend tx q - q) = lend tx q - q by omega]
            refine tr_aload_n (pc := 62) 2 dX7_cut_62 rfl rfl ?_
            refine tr_iload_n (pc := 63) 3 dX7_cut_63 rfl rfl ?_
            refine tr_iload_n (pc := 64) 0 dX7_cut_64 rfl rfl ?_
            refine tr_callS (pc := 65) (rest := [rv a 10]) dX7_cut_65 ml_X7_48 cs_X7_wordKind rfl rfl (Nat.le_of_ble_eq_true rfl) (by decide) (c_wordKind hS hT1 hv (by omega)) ?_
            rintro _ _ _ ⟨rfl, rfl, rfl⟩
            show T a 6 mX7_cut 68 [(3, .int (nI (max 1 (lend tx q - q)))), (0, rv a 10), (1, rv a 1), (2, .int (nI q))] [.int (nI (wkd tx q (max 1 (lend tx q - q)))), rv a 10] S h1 _
            refine tr_iload_n (pc := 68) 3 dX7_cut_68 rfl rfl ?_
            refine tr_callV (pc := 69) (rest := []) (ci := 7) dX7_cut_69 ml_X7_52 cv_X7_add rfl rfl (Nat.le_of_ble_eq_true rfl) (hS.1 10 (10, 5) rfl) rfl (by decide) (c_tadd hS (n := n) hC.2.1 (by omega)) ?_
            rintro _ _ _ ⟨rfl, rfl, rfl⟩
            show T a 6 mX7_cut 72 [(3, .int (nI (max 1 (lend tx q - q)))), (0, rv a 10), (1, rv a 1), (2, .int (nI q))] [] S (hs (hs (hs h1 11 (upd (h1 11) n (nI (wkd tx q (max 1 (lend tx q - q)))))) 12 (upd (h1 12) n (nI q))) 10 (upd (h1 10) 2 (nI (n + 1)))) _
            refine tr_iload_n (pc := 72) 3 dX7_cut_72 rfl rfl ?_
            refine tr_iload_n (pc := 73) 0 dX7_cut_73 rfl rfl ?_
            refine tr_iadd (pc := 74) (v := nI (q + max 1 (lend tx q - q))) dX7_cut_74 (nI_add _ _) ?_
            refine tr_istore_n (pc := 75) (lv' := [(2, .int (nI (q + max 1 (lend tx q - q)))), (3, .int (nI (max 1 (lend tx q - q)))), (0, rv a 10), (1, rv a 1)]) dX7_cut_75 rfl (by decide) rfl ?_
            refine tr_goto (pc := 76) (tgt := 20) dX7_cut_76 (by decide) ?_
            refine tr_sub (pc := 20) (lv' := [(0, rv a 10), (1, rv a 1), (2, .int (nI (q + max 1 (lend tx q - q))))]) [2, 3, 0] rfl ?_
            exact ih (q + max 1 (lend tx q - q)) (n + 1) _ (by omega) (by omega) (by omega) (by show Nx tx (pl tx n) = _; rw [hpq, hNx]) (cu_add hC hpq (by omega) hkk)
          · skip
            have hkk : tx.getD q 0 = kd tx q := by
              unfold kd
              rw [if_neg (by omega), if_pos (by omega)]
            refine tr_aload_n (pc := 54) 2 dX7_cut_54 rfl rfl ?_
            refine tr_iload_n (pc := 55) 3 dX7_cut_55 rfl rfl ?_
            refine tr_callV (pc := 56) (rest := [rv a 10]) (ci := 6) dX7_cut_56 ml_X7_44 cv_X6_at rfl rfl (Nat.le_of_ble_eq_true rfl) (hS.1 1 (9, 2) rfl) rfl (by decide) (c_at_in hS hT1 hv (by omega)) ?_
            rintro _ _ _ ⟨rfl, rfl, rfl⟩
            show T a 6 mX7_cut 59 [(3, .int (nI (max 1 (lend tx q - q)))), (0, rv a 10), (1, rv a 1), (2, .int (nI q))] [.int (nI (tx.getD q 0)), rv a 10] S h1 _
            refine tr_goto (pc := 59) (tgt := 68) dX7_cut_59 (by decide) ?_
            refine tr_iload_n (pc := 68) 3 dX7_cut_68 rfl rfl ?_
            refine tr_callV (pc := 69) (rest := []) (ci := 7) dX7_cut_69 ml_X7_52 cv_X7_add rfl rfl (Nat.le_of_ble_eq_true rfl) (hS.1 10 (10, 5) rfl) rfl (by decide) (c_tadd hS (n := n) hC.2.1 (by omega)) ?_
            rintro _ _ _ ⟨rfl, rfl, rfl⟩
            show T a 6 mX7_cut 72 [(3, .int (nI (max 1 (lend tx q - q)))), (0, rv a 10), (1, rv a 1), (2, .int (nI q))] [] S (hs (hs (hs h1 11 (upd (h1 11) n (nI (tx.getD q 0)))) 12 (upd (h1 12) n (nI q))) 10 (upd (h1 10) 2 (nI (n + 1)))) _
            refine tr_iload_n (pc := 72) 3 dX7_cut_72 rfl rfl ?_
            refine tr_iload_n (pc := 73) 0 dX7_cut_73 rfl rfl ?_
            refine tr_iadd (pc := 74) (v := nI (q + max 1 (lend tx q - q))) dX7_cut_74 (nI_add _ _) ?_
            refine tr_istore_n (pc := 75) (lv' := [(2, .int (nI (q + max 1 (lend tx q - q)))), (3, .int (nI (max 1 (lend tx q - q)))), (0, rv a 10), (1, rv a 1)]) dX7_cut_75 rfl (by decide) rfl ?_
            refine tr_goto (pc := 76) (tgt := 20) dX7_cut_76 (by decide) ?_
            refine tr_sub (pc := 20) (lv' := [(0, rv a 10), (1, rv a 1), (2, .int (nI (q + max 1 (lend tx q - q))))]) [2, 3, 0] rfl ?_
            exact ih (q + max 1 (lend tx q - q)) (n + 1) _ (by omega) (by omega) (by omega) (by show Nx tx (pl tx n) = _; rw [hpq, hNx]) (cu_add hC hpq (by omega) hkk)
  exact L20 (tx.length + 1) 0 0 _ (by omega) (by omega) (by omega) rfl ⟨((Fr.rf.hs (by decide)).hs (by decide)).hs (by decide), rfl, rfl, rfl, fun j hj => absurd hj (by omega)⟩

set_option maxHeartbeats 4000000 in
set_option maxRecDepth 100000 in
theorem c_ahead {a : Am} {S : St} {h : Hp} (hS : IsSt S) {tx : List Nat} (hv : TV tx) {n i : Nat} (hK : TK h tx n) (hi : i ≤ n) (hn : h 10 3 = nI i) : CT a 0 mX7_ahead [rv a 10] S h (Rt (ck (kd tx (pl tx i))) S h) := by
  have hn2 := hK.2.2.2.1
  refine met_of (by decide +kernel) (Nat.le_of_ble_eq_true rfl) ?_
  show T a 0 mX7_ahead 0 [(0, rv a 10)] [] S h _
  refine tr_aload_n (pc := 0) 0 dX7_ahead_0 rfl rfl ?_
  refine tr_getI (pc := 1) (x := nI i) dX7_ahead_1 (hS.1 10 (10, 5) rfl) fi_X7_18 rfl hn ?_
  refine tr_aload_n (pc := 4) 0 dX7_ahead_4 rfl rfl ?_
  refine tr_getI (pc := 5) (x := nI n) dX7_ahead_5 (hS.1 10 (10, 5) rfl) fi_X7_22 rfl hK.1 ?_
  refine tr_icmp_ge (pc := 8) (tgt := 23) dX7_ahead_8 (by decide) (nI_leI (by omega) (by omega)) (fun hb8 => ?_) (fun hb8 => ?_)
  · skip
    have hie : i = n := by omega
    have hip : pl tx i = tx.length := by rw [hie]; exact hK.2.2.1
    refine tr_iconst (pc := 23) (v := -1) dX7_ahead_23 (by decide) ?_
    exact tr_iret (pc := 24) dX7_ahead_24 rfl rfl (⟨by rw [hip, kd_end (Nat.le_refl _)]; rfl, rfl, rfl⟩)
  · skip
    refine tr_aload_n (pc := 11) 0 dX7_ahead_11 rfl rfl ?_
    refine tr_getR (pc := 12) (q := 11) dX7_ahead_12 (hS.1 10 (10, 5) rfl) fi_X7_9 rfl (hS.2 10 0 11 rfl) ?_
    refine tr_aload_n (pc := 15) 0 dX7_ahead_15 rfl rfl ?_
    refine tr_getI (pc := 16) (x := nI i) dX7_ahead_16 (hS.1 10 (10, 5) rfl) fi_X7_18 rfl hn ?_
    refine tr_iald (pc := 19) (v := nI (kd tx (pl tx i))) i dX7_ahead_19 (hS.1 11 (0, 200) rfl) rfl (by omega) (by decide) (hK.2.2.2.2 i (by omega)).2.1 ?_
    refine tr_goto (pc := 20) (tgt := 24) dX7_ahead_20 (by decide) ?_
    exact tr_iret (pc := 24) dX7_ahead_24 rfl rfl (⟨by rw [ck_n (by have := kd_in hv (hK.2.2.2.2 i (by omega)).1; omega)], rfl, rfl⟩)

set_option maxHeartbeats 4000000 in
set_option maxRecDepth 100000 in
theorem c_place {a : Am} {S : St} {h : Hp} (hS : IsSt S) {tx : List Nat} (hv : TV tx) {n i : Nat} (hK : TK h tx n) (hi : i ≤ n) (hn : h 10 3 = nI i) : CT a 0 mX7_place [rv a 10] S h (Rt (nI (pl tx i)) S h) := by
  have hn2 := hK.2.2.2.1
  refine met_of (by decide +kernel) (Nat.le_of_ble_eq_true rfl) ?_
  show T a 0 mX7_place 0 [(0, rv a 10)] [] S h _
  refine tr_aload_n (pc := 0) 0 dX7_place_0 rfl rfl ?_
  refine tr_getI (pc := 1) (x := nI i) dX7_place_1 (hS.1 10 (10, 5) rfl) fi_X7_18 rfl hn ?_
  refine tr_aload_n (pc := 4) 0 dX7_place_4 rfl rfl ?_
  refine tr_getI (pc := 5) (x := nI n) dX7_place_5 (hS.1 10 (10, 5) rfl) fi_X7_22 rfl hK.1 ?_
  refine tr_icmp_ge (pc := 8) (tgt := 23) dX7_place_8 (by decide) (nI_leI (by omega) (by omega)) (fun hb8 => ?_) (fun hb8 => ?_)
  · skip
    have hie : i = n := by omega
    have hip : pl tx i = tx.length := by rw [hie]; exact hK.2.2.1
    refine tr_aload_n (pc := 23) 0 dX7_place_23 rfl rfl ?_
    refine tr_getI (pc := 24) (x := nI tx.length) dX7_place_24 (hS.1 10 (10, 5) rfl) fi_X7_25 rfl hK.2.1 ?_
    exact tr_iret (pc := 27) dX7_place_27 rfl rfl (⟨by rw [hip], rfl, rfl⟩)
  · skip
    refine tr_aload_n (pc := 11) 0 dX7_place_11 rfl rfl ?_
    refine tr_getR (pc := 12) (q := 12) dX7_place_12 (hS.1 10 (10, 5) rfl) fi_X7_15 rfl (hS.2 10 1 12 rfl) ?_
    refine tr_aload_n (pc := 15) 0 dX7_place_15 rfl rfl ?_
    refine tr_getI (pc := 16) (x := nI i) dX7_place_16 (hS.1 10 (10, 5) rfl) fi_X7_18 rfl hn ?_
    refine tr_iald (pc := 19) (v := nI (pl tx i)) i dX7_place_19 (hS.1 12 (0, 200) rfl) rfl (by omega) (by decide) (hK.2.2.2.2 i (by omega)).2.2 ?_
    refine tr_goto (pc := 20) (tgt := 27) dX7_place_20 (by decide) ?_
    exact tr_iret (pc := 27) dX7_place_27 rfl rfl (⟨rfl, rfl, rfl⟩)

theorem TK.fr {L : List Nat} {h h' : Hp} {tx : List Nat} {n : Nat} (hT : TK h tx n) (k : Fr L h h') (h1 : 10 ∉ L) (h2 : 11 ∉ L) (h3 : 12 ∉ L) : TK h' tx n := by
  unfold TK
  rw [k 10 h1, k 11 h2, k 12 h3]
  exact hT
theorem tk_step {h : Hp} {tx : List Nat} {n : Nat} {x : Int32} (hT : TK h tx n) : TK (hs h 10 (upd (h 10) 3 x)) tx n := by
  unfold TK
  rw [hs_same, hs_ne (show 11 ≠ 10 by decide), hs_ne (show 12 ≠ 10 by decide), upd_n (by decide), upd_n (by decide)]
  exact hT
set_option maxHeartbeats 4000000 in
set_option maxRecDepth 100000 in
theorem c_step {a : Am} {S : St} {h : Hp} (hS : IsSt S) {tx : List Nat} (hv : TV tx) {n i : Nat} (hK : TK h tx n) (hi : i ≤ n) (hn : h 10 3 = nI i) : CT a 0 mX7_step [rv a 10] S h (fun v S' h' => v = none ∧ S = S' ∧ ∃ i', i' ≤ n ∧ TK h' tx n ∧ h' 10 3 = nI i' ∧ pl tx i' = Nx tx (pl tx i) ∧ Fr [10] h h') := by
  have hn2 := hK.2.2.2.1
  refine met_of (by decide +kernel) (Nat.le_of_ble_eq_true rfl) ?_
  show T a 0 mX7_step 0 [(0, rv a 10)] [] S h _
  refine tr_aload_n (pc := 0) 0 dX7_step_0 rfl rfl ?_
  refine tr_getI (pc := 1) (x := nI i) dX7_step_1 (hS.1 10 (10, 5) rfl) fi_X7_18 rfl hn ?_
  refine tr_aload_n (pc := 4) 0 dX7_step_4 rfl rfl ?_
  refine tr_getI (pc := 5) (x := nI n) dX7_step_5 (hS.1 10 (10, 5) rfl) fi_X7_22 rfl hK.1 ?_
  refine tr_icmp_ge (pc := 8) (tgt := 21) dX7_step_8 (by decide) (nI_leI (by omega) (by omega)) (fun hb8 => ?_) (fun hb8 => ?_)
  · skip
    have hie : i = n := by omega
    have hip : pl tx i = tx.length := by rw [hie]; exact hK.2.2.1
    exact tr_vret (pc := 21) dX7_step_21 rfl (⟨rfl, rfl, i, hi, hK, hn, by rw [hip, Nx_end rfl], Fr.rf⟩)
  · skip
    refine tr_aload_n (pc := 11) 0 dX7_step_11 rfl rfl ?_
    refine tr_dup (pc := 12) dX7_step_12 rfl ?_
    refine tr_getI (pc := 13) (x := nI i) dX7_step_13 (hS.1 10 (10, 5) rfl) fi_X7_18 rfl hn ?_
    refine tr_iconst (pc := 16) (v := nI 1) dX7_step_16 (by decide) ?_
    refine tr_iadd (pc := 17) (v := nI (i + 1)) dX7_step_17 (nI_add _ _) ?_
    refine tr_putI (pc := 18) (x := nI (i + 1)) dX7_step_18 (hS.1 10 (10, 5) rfl) fi_X7_18 rfl rfl rfl ?_
    exact tr_vret (pc := 21) dX7_step_21 rfl (⟨rfl, rfl, i + 1, by omega, tk_step hK, by rw [hs_same, upd_s], rfl, Fr.rf.hs (by decide)⟩)
