/-! ===== the reference: the text ===== -/
theorem rMeth_inv {tx : List Nat} {P : Prog} {C : Cls} {p : Nat} {z : List Ln × Cls × Nat} (hI : INV tx P C p) (hP : P.length < 4) (hr : rMeth tx P.length p C = .ok z) : INV tx (P ++ [z.1]) z.2.1 z.2.2 := by
  unfold rMeth at hr
  split at hr
  · exact rBody_inv hP 8 _ [] C z (inv_new hI hP) (by simp) hr
  · cases hr
theorem rmO_0 {tx : List Nat} {p b : Nat} {P : Prog} {C : Cls} {h' : Hp} (k : rmO tx p P C b h') (hb : b = 0) : ∃ e, rMeth tx P.length p C = .error e ∧ h' 50 9 = nI e := by
  unfold rmO at k
  cases hr : rMeth tx P.length p C with
  | error e => rw [hr] at k; exact ⟨e, rfl, k.2⟩
  | ok z => rw [hr] at k; have := k.1; omega
theorem rmO_1 {tx : List Nat} {p b : Nat} {P : Prog} {C : Cls} {h' : Hp} (k : rmO tx p P C b h') (hb : ¬ b = 0) : ∃ z q s l r c, rMeth tx P.length p C = .ok z ∧ MR h' tx q z.2.1 s l r c ∧ Nx tx q = z.2.2 ∧ RW (h' 52) 0 (P ++ [z.1]) ∧ z.2.1.length ≤ C.length + 8 := by
  unfold rmO at k
  cases hr : rMeth tx P.length p C with
  | error e => rw [hr] at k; exact absurd k.1 hb
  | ok z =>
    rw [hr] at k
    obtain ⟨_, q, s, l, r, c, k1, k2, k3, k4⟩ := k
    exact ⟨z, q, s, l, r, c, rfl, k1, k2, k3, k4⟩
theorem drop_g {C : Cls} {k : Nat} (hk : k < C.length) : C.drop k = C.getD k (0, 0) :: C.drop (k + 1) := by
  rw [List.drop_eq_getElem_cons hk, List.getD_eq_getElem?_getD, List.getElem?_eq_getElem hk]
  rfl
theorem mem_g {C : Cls} {k : Nat} (hk : k < C.length) : C.getD k (0, 0) ∈ C := by
  rw [List.getD_eq_getElem?_getD, List.getElem?_eq_getElem hk]
  exact List.getElem_mem hk
set_option maxHeartbeats 4000000 in
set_option maxRecDepth 100000 in
theorem c_readText {a : Am} {S : St} {h : Hp} (hS : IsSt S) {tx : List Nat} (hX : MTx h tx) (hv : TV tx) : CT a 7 mX10_readText [rv a 50] S h (fun v S' h' => v = some (.int (rAns (rdA tx))) ∧ S = S' ∧ FRd h h' ∧ ∀ P, rdA tx = .ok P → RW (h' 52) 0 P) := by
  refine met_of (by decide +kernel) (Nat.le_of_ble_eq_true rfl) ?_
  show T a 7 mX10_readText 0 [(0, rv a 50)] [] S h _
  refine tr_iconst (pc := 0) (v := nI 0) dX10_readText_0 (by decide) ?_
  refine tr_istore_n (pc := 1) (lv' := [(1, .int (nI 0)), (0, rv a 50)]) dX10_readText_1 rfl (by decide) rfl ?_
  refine tr_sub (pc := 2) (lv' := [(0, rv a 50), (1, .int (nI 0))]) [1, 0] rfl ?_
  have L2 : ∀ (fu : Nat) (k : Nat) (h1 : Hp), 133 - k < fu → k ≤ 133 → FRd h h1 → (0 < k → h1 52 0 = nI 0) → T a 7 mX10_readText 2 [(0, rv a 50), (1, .int (nI k))] [] S h1 (fun v S' h' => v = some (.int (rAns (rdA tx))) ∧ S = S' ∧ FRd h h' ∧ ∀ P, rdA tx = .ok P → RW (h' 52) 0 P) := by
    intro fu
    induction fu with
    | zero => intro k h1 hu hk hF1 hz; omega
    | succ fu ih =>
      intro k h1 hu hk hF1 hz
      refine tr_iload_n (pc := 2) 1 dX10_readText_2 rfl rfl ?_
      refine tr_sipush (pc := 3) (v := nI 133) dX10_readText_3 (by decide) ?_
      refine tr_icmp_ge (pc := 6) (tgt := 22) dX10_readText_6 (by decide) (nI_leI (by omega) (by omega)) (fun hb6 => ?_) (fun hb6 => ?_)
      · skip
        refine tr_aload_n (pc := 22) 0 dX10_readText_22 rfl rfl ?_
        refine tr_iconst (pc := 23) (v := nI 0) dX10_readText_23 (by decide) ?_
        refine tr_putI (pc := 24) (x := nI 0) dX10_readText_24 (hS.1 50 (13, 45) rfl) fi_X10_133 rfl rfl rfl ?_
        have hF2 : FRd h (hs h1 50 (upd (h1 50) 12 (nI 0))) := Fm.put hF1 (by decide)
        have hc2 : (hs h1 50 (upd (h1 50) 12 (nI 0))) 50 12 = nI 0 := f50_s
        have hz2 : (hs h1 50 (upd (h1 50) 12 (nI 0))) 52 0 = nI 0 := by rw [hs_ne (by decide)]; exact hz (by omega)
        generalize hs h1 50 (upd (h1 50) 12 (nI 0)) = h2 at hF2 hc2 hz2 ⊢
        refine tr_aload_n (pc := 27) 0 dX10_readText_27 rfl rfl ?_
        refine tr_iconst (pc := 28) (v := nI 0) dX10_readText_28 (by decide) ?_
        refine tr_putI (pc := 29) (x := nI 0) dX10_readText_29 (hS.1 50 (13, 45) rfl) fi_X10_93 rfl rfl rfl ?_
        have hF3 : FRd h (hs h2 50 (upd (h2 50) 7 (nI 0))) := Fm.put hF2 (by decide)
        have hc3 : (hs h2 50 (upd (h2 50) 7 (nI 0))) 50 12 = nI 0 := (f50_n (by decide)).trans hc2
        have ha3 : (hs h2 50 (upd (h2 50) 7 (nI 0))) 50 7 = nI 0 := f50_s
        have hz3 : (hs h2 50 (upd (h2 50) 7 (nI 0))) 52 0 = nI 0 := by rw [hs_ne (by decide)]; exact hz2
        generalize hs h2 50 (upd (h2 50) 7 (nI 0)) = h3 at hF3 hc3 ha3 hz3 ⊢
        refine tr_aload_n (pc := 32) 0 dX10_readText_32 rfl rfl ?_
        refine tr_callV (pc := 33) (rest := []) (ci := 10) dX10_readText_33 ml_X10_117 cv_X10_next rfl rfl (Nat.le_of_ble_eq_true rfl) (hS.1 50 (13, 45) rfl) rfl (by decide) (c_mnext hS (hX.fm hF3 (by decide) (by decide)) hv ha3 (Nat.zero_le _)) ?_
        rintro _ _ h4 ⟨rfl, rfl, hT4, hX4, hM4⟩
        show T a 7 mX10_readText 36 [(0, rv a 50), (1, .int (nI k))] [] S h4 _
        refine tr_sub (pc := 36) (lv' := [(0, rv a 50)]) [0] rfl ?_
        have L36 : ∀ (fu : Nat) (P : Prog) (p : Nat) (C : Cls) (s l r c : Int32) (h5 : Hp), 4 - P.length < fu → P.length ≤ 4 → MR h5 tx p C s l r c → RW (h5 52) 0 P → INV tx P C p → FRd h h5 → C.length ≤ 8 * P.length → rProg tx 4 (skp tx 0) [] [] = rProg tx (4 - P.length) p P C → T a 7 mX10_readText 36 [(0, rv a 50)] [] S h5 (fun v S' h' => v = some (.int (rAns (rdA tx))) ∧ S = S' ∧ FRd h h' ∧ ∀ P, rdA tx = .ok P → RW (h' 52) 0 P) := by
          intro fu
          induction fu with
          | zero => intro P p C s l r c h5 hu2 hP4 hR5 hW5 hI hF5 hC8 hE; omega
          | succ fu ih2 =>
            intro P p C s l r c h5 hu2 hP4 hR5 hW5 hI hF5 hC8 hE
            have hmk := mkd_lt (k := kd tx p)
            refine tr_aload_n (pc := 36) 0 dX10_readText_36 rfl rfl ?_
            refine tr_getI (pc := 37) (x := nI (mkd (kd tx p))) dX10_readText_37 (hS.1 50 (13, 45) rfl) fi_X10_106 rfl hR5.2.1.1 ?_
            refine tr_sipush (pc := 40) (v := nI 1000) dX10_readText_40 (by decide) ?_
            refine tr_icmp_eq (pc := 43) (tgt := 65) dX10_readText_43 (by decide) (nI_eq (by omega) (by omega)) (fun hb43 => ?_) (fun hb43 => ?_)
            · skip
              have h131 : kd tx p = 131 := (mkd_w _ (kd_le hv)).2.2.1 hb43
              have hEE : rProg tx 4 (skp tx 0) [] [] = .ok (P, C) := by rw [hE, rp_end h131]
              refine tr_iconst (pc := 65) (v := nI 0) dX10_readText_65 (by decide) ?_
              refine tr_istore_n (pc := 66) (lv' := [(1, .int (nI 0)), (0, rv a 50)]) dX10_readText_66 rfl (by decide) rfl ?_
              refine tr_sub (pc := 67) (lv' := [(0, rv a 50), (1, .int (nI 0))]) [1, 0] rfl ?_
              have L67 : ∀ (fu : Nat) (k : Nat), C.length - k < fu → k ≤ C.length → miss P.length C = miss P.length (C.drop k) → T a 7 mX10_readText 67 [(0, rv a 50), (1, .int (nI k))] [] S h5 (fun v S' h' => v = some (.int (rAns (rdA tx))) ∧ S = S' ∧ FRd h h' ∧ ∀ P, rdA tx = .ok P → RW (h' 52) 0 P) := by
                intro fu
                induction fu with
                | zero => intro k hu3 hk3 hmi; omega
                | succ fu ih3 =>
                  intro k hu3 hk3 hmi
                  have hgz : k < C.length → (C.getD k (0, 0)).1 < 4 ∧ (C.getD k (0, 0)).2 ≤ 200 := fun z => by
                    have q := hI.2.2.1 _ (mem_g z)
                    have q2 := hI.1
                    have q3 := hv.1
                    exact ⟨q.2, by omega⟩
                  have hC31 : C.length ≤ 32 := by omega
                  refine tr_iload_n (pc := 67) 1 dX10_readText_67 rfl rfl ?_
                  refine tr_aload_n (pc := 68) 0 dX10_readText_68 rfl rfl ?_
                  refine tr_getI (pc := 69) (x := nI C.length) dX10_readText_69 (hS.1 50 (13, 45) rfl) fi_X10_133 rfl hR5.2.2.1.1 ?_
                  refine tr_icmp_ge (pc := 72) (tgt := 103) dX10_readText_72 (by decide) (nI_leI (by omega) (by omega)) (fun hb72 => ?_) (fun hb72 => ?_)
                  · skip
                    refine tr_iconst (pc := 103) (v := -1) dX10_readText_103 (by decide) ?_
                    exact tr_iret (pc := 104) dX10_readText_104 rfl rfl (⟨by
                        rw [(rd_ok hEE).1, hmi, List.drop_eq_nil_of_le (by omega)]
                        rfl, rfl, hF5, fun P1 z => by rw [(rd_ok hEE).2 P1 z]; exact hW5⟩)
                  · skip
                    have hg := hgz (by omega)
                    refine tr_aload_n (pc := 75) 0 dX10_readText_75 rfl rfl ?_
                    refine tr_getR (pc := 76) (q := 56) dX10_readText_76 (hS.1 50 (13, 45) rfl) fi_X10_25 rfl (hS.2 50 10 56 rfl) ?_
                    refine tr_iload_n (pc := 79) 1 dX10_readText_79 rfl rfl ?_
                    refine tr_iald (pc := 80) (v := nI ((C.getD k (0, 0)).1)) k dX10_readText_80 (hS.1 56 (0, 32) rfl) rfl (by omega) (by decide) (hR5.2.2.1.2 k (by omega)).1 ?_
                    refine tr_aload_n (pc := 81) 0 dX10_readText_81 rfl rfl ?_
                    refine tr_getR (pc := 82) (q := 52) dX10_readText_82 (hS.1 50 (13, 45) rfl) fi_X10_13 rfl (hS.2 50 1 52 rfl) ?_
                    refine tr_iconst (pc := 85) (v := nI 0) dX10_readText_85 (by decide) ?_
                    refine tr_iald (pc := 86) (v := nI P.length) 0 dX10_readText_86 (hS.1 52 (0, 133) rfl) rfl (by omega) (by decide) hW5.1 ?_
                    refine tr_icmp_lt (pc := 87) (tgt := 97) dX10_readText_87 (by decide) (nI_ltI (by omega) (by omega)) (fun hb87 => ?_) (fun hb87 => ?_)
                    · skip
                      refine tr_iinc (pc := 97) (v := nI (k + 1)) (lv' := [(1, .int (nI (k + 1))), (0, rv a 50)]) 1 dX10_readText_97 rfl (by rw [show Int32.ofInt 1 = nI 1 from by decide, nI_add]) (by decide) rfl ?_
                      refine tr_goto (pc := 100) (tgt := 67) dX10_readText_100 (by decide) ?_
                      refine tr_sub (pc := 67) (lv' := [(0, rv a 50), (1, .int (nI (k + 1)))]) [1, 0] rfl ?_
                      exact ih3 (k + 1) (by omega) (by omega) (by
                        rw [hmi, drop_g (by omega)]
                        show (if P.length ≤ (C.getD k (0, 0)).1 then some _ else miss P.length (C.drop (k + 1))) = _
                        rw [if_neg (by omega)])
                    · skip
                      refine tr_aload_n (pc := 90) 0 dX10_readText_90 rfl rfl ?_
                      refine tr_getR (pc := 91) (q := 57) dX10_readText_91 (hS.1 50 (13, 45) rfl) fi_X10_28 rfl (hS.2 50 11 57 rfl) ?_
                      refine tr_iload_n (pc := 94) 1 dX10_readText_94 rfl rfl ?_
                      refine tr_iald (pc := 95) (v := nI ((C.getD k (0, 0)).2)) k dX10_readText_95 (hS.1 57 (0, 32) rfl) rfl (by omega) (by decide) (hR5.2.2.1.2 k (by omega)).2 ?_
                      exact tr_iret (pc := 96) dX10_readText_96 rfl rfl (⟨by
                          rw [(rd_ok hEE).1, hmi, drop_g (by omega)]
                          show _ = some (Value.int (oI (if P.length ≤ (C.getD k (0, 0)).1 then some (C.getD k (0, 0)).2 else miss P.length (C.drop (k + 1)))))
                          rw [if_pos (by omega)]
                          rfl, rfl, hF5, fun P1 z => by rw [(rd_ok hEE).2 P1 z]; exact hW5⟩)
              exact L67 (C.length + 1) 0 (by omega) (by omega) rfl
            · skip
              have h131 : ¬ kd tx p = 131 := fun z => hb43 ((mkd_w _ (kd_le hv)).2.2.2 z)
              by_cases hp4 : P.length = 4
              · skip
                refine tr_aload_n (pc := 46) 0 dX10_readText_46 rfl rfl ?_
                refine tr_callV (pc := 47) (rest := []) (ci := 10) dX10_readText_47 ml_X10_153 cv_X10_readMethod rfl rfl (Nat.le_of_ble_eq_true rfl) (hS.1 50 (13, 45) rfl) rfl (by decide) (c_mreadM4 hS hv hR5 hW5 hp4) ?_
                rintro _ _ _ ⟨rfl, rfl, rfl⟩
                show T a 7 mX10_readText 50 [(0, rv a 50)] [.int (nI 0)] S h5 _
                refine tr_if_ne (pc := 50) (tgt := 58) dX10_readText_50 (by decide) (nI_z_eq (by omega)) (fun hcc => absurd (by decide) hcc) (fun _ => ?_)
                refine tr_aload_n (pc := 53) 0 dX10_readText_53 rfl rfl ?_
                refine tr_getI (pc := 54) (x := nI p) dX10_readText_54 (hS.1 50 (13, 45) rfl) fi_X10_103 rfl hR5.2.1.2.1 ?_
                exact tr_iret (pc := 57) dX10_readText_57 rfl rfl (⟨by rw [rd_er (e := p) (by rw [hE, hp4, Nat.sub_self, rp_0 h131])]; rfl, rfl, hF5, fun P1 z => by
                    rw [rd_er (e := p) (by rw [hE, hp4, Nat.sub_self, rp_0 h131])] at z
                    cases z⟩)
              · skip
                refine tr_aload_n (pc := 46) 0 dX10_readText_46 rfl rfl ?_
                refine tr_callV (pc := 47) (rest := []) (ci := 10) dX10_readText_47 ml_X10_153 cv_X10_readMethod rfl rfl (Nat.le_of_ble_eq_true rfl) (hS.1 50 (13, 45) rfl) rfl (by decide) (c_mreadMethod hS hv hR5 hW5 hI.2.2.2.1 (by omega) hC8) ?_
                rintro _ _ h6 ⟨b, rfl, hb1, rfl, hG6, hO⟩
                have hF6 : FRd h h6 := hF5.trans hG6
                show T a 7 mX10_readText 50 [(0, rv a 50)] [.int (nI b)] S h6 _
                refine tr_if_ne (pc := 50) (tgt := 58) dX10_readText_50 (by decide) (nI_z_eq (by omega)) (fun hb50 => ?_) (fun hb50 => ?_)
                · skip
                  obtain ⟨z, q, s6, l6, r6, c6, hr, hR6, hnx, hW6, hl6⟩ := rmO_1 hO hb50
                  refine tr_aload_n (pc := 58) 0 dX10_readText_58 rfl rfl ?_
                  refine tr_callV (pc := 59) (rest := []) (ci := 10) dX10_readText_59 ml_X10_117 cv_X10_next rfl rfl (Nat.le_of_ble_eq_true rfl) (hS.1 50 (13, 45) rfl) rfl (by decide) (c_nx hS hv hR6) ?_
                  rintro _ _ h7 ⟨rfl, rfl, hR7, hG7⟩
                  show T a 7 mX10_readText 62 [(0, rv a 50)] [] S h7 _
                  refine tr_goto (pc := 62) (tgt := 36) dX10_readText_62 (by decide) ?_
                  exact ih2 (P ++ [z.1]) z.2.2 z.2.1 _ _ _ _ h7 (by simp; omega) (by simp; omega) (by rw [← hnx]; exact hR7) (by rw [FR.r52 hG7]; exact hW6) (rMeth_inv hI (by omega) hr) (hF6.trans (FR.d hG7)) (by simp; omega) (by
                    obtain ⟨f, hf⟩ : ∃ f, 4 - P.length = f + 1 := ⟨4 - P.length - 1, by omega⟩
                    rw [hE, hf, rp_s h131, hr]
                    show rProg _ f _ _ _ = _
                    rw [show 4 - (P ++ [z.1]).length = f by simp; omega])
                · skip
                  obtain ⟨e, hr, h9⟩ := rmO_0 hO hb50
                  have hrd := rd_er (e := e) (by
                      obtain ⟨f, hf⟩ : ∃ f, 4 - P.length = f + 1 := ⟨4 - P.length - 1, by omega⟩
                      rw [hE, hf, rp_s h131, hr])
                  refine tr_aload_n (pc := 53) 0 dX10_readText_53 rfl rfl ?_
                  refine tr_getI (pc := 54) (x := nI e) dX10_readText_54 (hS.1 50 (13, 45) rfl) fi_X10_103 rfl h9 ?_
                  exact tr_iret (pc := 57) dX10_readText_57 rfl rfl (⟨by rw [hrd]; rfl, rfl, hF6, fun P1 z => by
                      rw [hrd] at z
                      cases z⟩)
        exact L36 5 [] (skp tx 0) [] _ _ _ _ h4 (by simp) (by simp) ⟨hX4, hT4, ⟨by rw [hM4.2 12 (by decide)]; exact hc3, fun j hj => absurd hj (by simp)⟩, rfl, rfl, rfl, rfl⟩ ⟨by rw [hM4.1 52 (by decide) (by decide)]; exact hz3, fun m hm => absurd hm (by simp), fun m i w hm => absurd hm (by simp)⟩ inv_0 (hF3.trans (Fm.mono hM4 (by decide) (by decide))) (by simp) rfl
      · skip
        refine tr_aload_n (pc := 9) 0 dX10_readText_9 rfl rfl ?_
        refine tr_getR (pc := 10) (q := 52) dX10_readText_10 (hS.1 50 (13, 45) rfl) fi_X10_13 rfl (hS.2 50 1 52 rfl) ?_
        refine tr_iload_n (pc := 13) 1 dX10_readText_13 rfl rfl ?_
        refine tr_iconst (pc := 14) (v := nI 0) dX10_readText_14 (by decide) ?_
        refine tr_iast (pc := 15) k dX10_readText_15 (hS.1 52 (0, 133) rfl) rfl (by omega) (by decide) ?_
        refine tr_iinc (pc := 16) (v := nI (k + 1)) (lv' := [(1, .int (nI (k + 1))), (0, rv a 50)]) 1 dX10_readText_16 rfl (by rw [show Int32.ofInt 1 = nI 1 from by decide, nI_add]) (by decide) rfl ?_
        refine tr_goto (pc := 19) (tgt := 2) dX10_readText_19 (by decide) ?_
        refine tr_sub (pc := 2) (lv' := [(0, rv a 50), (1, .int (nI (k + 1)))]) [1, 0] rfl ?_
        exact ih (k + 1) _ (by omega) (by omega) (Fm.set hF1 (by decide) (by decide)) (fun _ => by
          rw [hs_same]
          by_cases e : k = 0
          · subst e; exact upd_s
          · rw [upd_n (Ne.symm e)]; exact hz (by omega))
  exact L2 134 0 h (by omega) (by omega) Fm.rf (by omega)
