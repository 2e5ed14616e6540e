/-! ===== methods, and all ===== -/
def mOu (tx : List Nat) (m p : Nat) (C : Cls) (L : List Ln) (σ' : Except Nat Nat) (h' : Hp) : Prop := match rMeth tx m p C with
  | .error e => σ' = .error e
  | .ok z => σ' = .ok z.2.2 ∧ L = z.1 ∧ FCl h' z.2.1
def BI (tx : List Nat) (m p : Nat) (C : Cls) (h1 : Hp) (L : List Ln) (σ1 : Except Nat Nat) : Prop := match σ1 with
  | .error e => rMeth tx m p C = .error e
  | .ok q => ∃ C1, FCl h1 C1 ∧ rMeth tx m p C = rBody tx m (8 - L.length) q L C1
theorem bi_0 {tx : List Nat} {m p : Nat} {C : Cls} {h1 : Hp} (hC : FCl h1 C) : BI tx m p C h1 [] (tkS tx 123 (.ok p)) := by
  by_cases k : kd tx p = 123
  · rw [tkS_y k]
    exact ⟨C, hC, by unfold rMeth; rw [if_pos k]; rfl⟩
  · rw [tkS_n k]
    show rMeth tx m p C = .error p
    unfold rMeth
    rw [if_neg k]
theorem rb_end {tx : List Nat} {m q : Nat} {L : List Ln} {C : Cls} (k : kd tx q = 125) : ∀ f, rBody tx m f q L C = .ok (L, C, Nx tx q)
  | 0 => if_pos k
  | _ + 1 => if_pos k
theorem rb_0 {tx : List Nat} {m q : Nat} {L : List Ln} {C : Cls} (k : ¬ kd tx q = 125) : rBody tx m 0 q L C = .error q := if_neg k
theorem rb_s {tx : List Nat} {m q f : Nat} {L : List Ln} {C : Cls} (k : ¬ kd tx q = 125) : rBody tx m (f + 1) q L C = match rSemi tx (rLine tx m q) with | .error e => .error e | .ok z => rBody tx m f z.2 (L ++ [z.1]) (addC tx z.1 q C) := if_neg k
theorem mo_end {tx : List Nat} {m p : Nat} {C : Cls} {h3 h4 : Hp} {L : List Ln} {σ3 : Except Nat Nat} (hB : BI tx m p C h3 L σ3) (hex : ∀ q, σ3 = .ok q → L.length = 8 ∨ kd tx q = 125) (he : h4 13 = h3 13) : mOu tx m p C L (tkS tx 125 σ3) h4 := by
  unfold mOu
  cases σ3 with
  | error e =>
    have hB : rMeth tx m p C = .error e := hB
    rw [hB, tkS_e]
  | ok q =>
    obtain ⟨C1, hC1, e⟩ := hB
    by_cases k : kd tx q = 125
    · rw [e, rb_end k, tkS_y k]
      exact ⟨rfl, rfl, hC1.c he⟩
    · have h8 : 8 - L.length = 0 := by
        rcases hex q rfl with z | z
        · omega
        · exact absurd z k
      rw [e, h8, rb_0 k, tkS_n k]
theorem bi_step {tx : List Nat} {m p q : Nat} {C : Cls} {h3 h4 h6 : Hp} {L : List Ln} {l : Ln} {σ4 : Except Nat Nat} (hB : BI tx m p C h3 L (.ok q)) (hne : ¬ kd tx q = 125) (h8 : L.length < 8) (hO : lO tx m q l σ4 h3 h4) (he : h6 13 = h4 13) : BI tx m p C h6 (L ++ [l]) (tkS tx 59 σ4) := by
  obtain ⟨C1, hC1, e⟩ := hB
  obtain ⟨f, hf⟩ : ∃ f, 8 - L.length = f + 1 := ⟨8 - L.length - 1, by omega⟩
  rw [hf, rb_s hne] at e
  unfold lO at hO
  cases hr : rLine tx m q with
  | error x =>
    rw [hr] at hO e
    have hO : σ4 = .error x := hO
    rw [hO, tkS_e]
    exact e
  | ok z =>
    rw [hr] at hO e
    obtain ⟨z1, z2⟩ := z
    obtain ⟨h1, h2, hC⟩ := hO
    have h1 : σ4 = .ok z2 := h1
    have h2 : l = z1 := h2
    subst h1
    subst h2
    by_cases k : kd tx z2 = 59
    · rw [tkS_y k]
      have e3 : rSemi tx (.ok (l, z2)) = .ok (l, Nx tx z2) := if_pos k
      rw [e3] at e
      refine ⟨_, (hC C1 hC1).c he, ?_⟩
      rw [e, show 8 - (L ++ [l]).length = f by simp; omega]
    · rw [tkS_n k]
      have e3 : rSemi tx (.ok (l, z2)) = .error z2 := if_neg k
      rw [e3] at e
      exact e
theorem addL_app {P : Prog} {L : List Ln} {l : Ln} : addL (P ++ [L]) l = P ++ [L ++ [l]] := by
  unfold addL
  have e : (P ++ [L]).length - 1 = P.length := by simp
  rw [e, app_D, if_pos rfl, List.set_append, if_neg (by omega), Nat.sub_self]
  rfl
theorem lnN_last {P : Prog} {L : List Ln} : lnN (P ++ [L]) ((P ++ [L]).length - 1) = L.length := by
  rw [show (P ++ [L]).length - 1 = P.length by simp, lnN_app, if_pos rfl]
set_option maxHeartbeats 4000000 in
set_option maxRecDepth 100000 in
theorem c_readMethod {a : Am} {S : St} {h : Hp} (hS : IsSt S) {tx : List Nat} (hv : TV tx) {n i0 : Nat} {p m : Nat} (hQ0 : CQ h tx n i0 (.ok p)) {P : Prog} (hM : MP h 6 P) (hV : VB P) (hm : P.length = m) (hm4 : m < 4) {C : Cls} (hC : FCl h C) : CT a 5 mX3_readMethod [rv a 9, .int (nI m)] S h (fun v S' h' => v = none ∧ S = S' ∧ ∃ L i' σ', CQ h' tx n i' σ' ∧ MP h' 6 (P ++ [L]) ∧ VB (P ++ [L]) ∧ Fr [6, 7, 8, 9, 10, 13] h h' ∧ mOu tx m p C L σ' h') := by
  refine met_of (by decide +kernel) (Nat.le_of_ble_eq_true rfl) ?_
  show T a 5 mX3_readMethod 0 [(0, rv a 9), (1, .int (nI m))] [] S h _
  refine tr_aload_n (pc := 0) 0 dX3_readMethod_0 rfl rfl ?_
  refine tr_getR (pc := 1) (q := 6) dX3_readMethod_1 (hS.1 9 (6, 9) rfl) fi_X3_26 rfl (hS.2 9 1 6 rfl) ?_
  refine tr_callV (pc := 4) (rest := []) (ci := 2) dX3_readMethod_4 ml_X3_66 cv_X2_addMethod rfl rfl (Nat.le_of_ble_eq_true rfl) (hS.1 6 (5, 3) rfl) rfl (by decide) (c_addMethod hS hM hV (by omega)) ?_
  rintro _ _ h1 ⟨rfl, rfl, hM1, hF1⟩
  have hQ1 := cq_13 hQ0 (hF1.mono (by decide))
  show T a 5 mX3_readMethod 7 [(0, rv a 9), (1, .int (nI m))] [] S h1 _
  refine tr_aload_n (pc := 7) 0 dX3_readMethod_7 rfl rfl ?_
  refine tr_bipush (pc := 8) (v := nI 123) dX3_readMethod_8 (by decide) ?_
  refine tr_callV (pc := 10) (rest := []) (ci := 3) dX3_readMethod_10 ml_X3_57 cv_X3_take rfl rfl (Nat.le_of_ble_eq_true rfl) (hS.1 9 (6, 9) rfl) rfl (by decide) (c_take hS hv hQ1 (w := 123) (by decide) rfl) ?_
  rintro _ _ h2 ⟨rfl, rfl, ⟨i2, hQ2⟩, hG2⟩
  show T a 5 mX3_readMethod 13 [(0, rv a 9), (1, .int (nI m))] [] S h2 _
  refine tr_iconst (pc := 13) (v := nI 0) dX3_readMethod_13 (by decide) ?_
  refine tr_istore_n (pc := 14) (lv' := [(2, .int (nI 0)), (0, rv a 9), (1, .int (nI m))]) dX3_readMethod_14 rfl (by decide) rfl ?_
  refine tr_sub (pc := 15) (lv' := [(0, rv a 9), (1, .int (nI m)), (2, .int (nI 0))]) [1, 2, 0] rfl ?_
  have L15 : ∀ (fu : Nat) (k : Nat) (L : List Ln) (i3 : Nat) (σ3 : Except Nat Nat) (h3 : Hp), 8 - k < fu → L.length = k → k ≤ 8 → CQ h3 tx n i3 σ3 → MP h3 6 (P ++ [L]) → VB (P ++ [L]) → Fr [6, 7, 8, 9, 10, 13] h h3 → BI tx m p C h3 L σ3 → T a 5 mX3_readMethod 15 [(0, rv a 9), (1, .int (nI m)), (2, .int (nI k))] [] S h3 (fun v S' h' => v = none ∧ S = S' ∧ ∃ L i' σ', CQ h' tx n i' σ' ∧ MP h' 6 (P ++ [L]) ∧ VB (P ++ [L]) ∧ Fr [6, 7, 8, 9, 10, 13] h h' ∧ mOu tx m p C L σ' h') := by
    intro fu
    induction fu with
    | zero => intro k L i3 σ3 h3 hu hk hk8 hQ3 hM3 hV3 hF3 hB; omega
    | succ fu ih =>
      intro k L i3 σ3 h3 hu hk hk8 hQ3 hM3 hV3 hF3 hB
      refine tr_iload_n (pc := 15) 2 dX3_readMethod_15 rfl rfl ?_
      refine tr_bipush (pc := 16) (v := nI 8) dX3_readMethod_16 (by decide) ?_
      refine tr_icmp_ge (pc := 18) (tgt := 81) dX3_readMethod_18 (by decide) (nI_leI (by omega) (by omega)) (fun hb18 => ?_) (fun hb18 => ?_)
      · skip
        have hex : ∀ q, σ3 = .ok q → L.length = 8 ∨ kd tx q = 125 := fun q _ => Or.inl (by omega)
        refine tr_aload_n (pc := 81) 0 dX3_readMethod_81 rfl rfl ?_
        refine tr_bipush (pc := 82) (v := nI 125) dX3_readMethod_82 (by decide) ?_
        refine tr_callV (pc := 84) (rest := []) (ci := 3) dX3_readMethod_84 ml_X3_57 cv_X3_take rfl rfl (Nat.le_of_ble_eq_true rfl) (hS.1 9 (6, 9) rfl) rfl (by decide) (c_take hS hv hQ3 (w := 125) (by decide) rfl) ?_
        rintro _ _ h4 ⟨rfl, rfl, ⟨i4, hQ4⟩, hG4⟩
        show T a 5 mX3_readMethod 87 [(0, rv a 9), (1, .int (nI m)), (2, .int (nI k))] [] S h4 _
        exact tr_vret (pc := 87) dX3_readMethod_87 rfl (⟨rfl, rfl, L, i4, _, hQ4, hM3.fr hG4.1 (by decide) (by decide) (by decide), hV3, hF3.trans (hG4.1.mono (by decide)), mo_end hB hex (hG4.1 13 (by decide))⟩)
      · skip
        refine tr_aload_n (pc := 21) 0 dX3_readMethod_21 rfl rfl ?_
        refine tr_getI (pc := 22) (x := h3 9 3) dX3_readMethod_22 (hS.1 9 (6, 9) rfl) fi_X3_30 rfl rfl ?_
        refine tr_iconst (pc := 25) (v := -1) dX3_readMethod_25 (by decide) ?_
        refine tr_icmp_ne (pc := 26) (tgt := 81) dX3_readMethod_26 (by decide) Iff.rfl (fun hb26 => ?_) (fun hb26 => ?_)
        · skip
          have hex : ∀ q, σ3 = .ok q → L.length = 8 ∨ kd tx q = 125 := fun q hq => by
            subst hq
            exact absurd hQ3.2.2.2.1 hb26
          refine tr_aload_n (pc := 81) 0 dX3_readMethod_81 rfl rfl ?_
          refine tr_bipush (pc := 82) (v := nI 125) dX3_readMethod_82 (by decide) ?_
          refine tr_callV (pc := 84) (rest := []) (ci := 3) dX3_readMethod_84 ml_X3_57 cv_X3_take rfl rfl (Nat.le_of_ble_eq_true rfl) (hS.1 9 (6, 9) rfl) rfl (by decide) (c_take hS hv hQ3 (w := 125) (by decide) rfl) ?_
          rintro _ _ h4 ⟨rfl, rfl, ⟨i4, hQ4⟩, hG4⟩
          show T a 5 mX3_readMethod 87 [(0, rv a 9), (1, .int (nI m)), (2, .int (nI k))] [] S h4 _
          exact tr_vret (pc := 87) dX3_readMethod_87 rfl (⟨rfl, rfl, L, i4, _, hQ4, hM3.fr hG4.1 (by decide) (by decide) (by decide), hV3, hF3.trans (hG4.1.mono (by decide)), mo_end hB hex (hG4.1 13 (by decide))⟩)
        · skip
          obtain ⟨q, rfl⟩ : ∃ q, σ3 = .ok q := by
            cases σ3 with
            | ok q => exact ⟨q, rfl⟩
            | error f => exact absurd (hQ3.2.2.2.1.symm.trans hb26) (nI_nm (by have := hQ3.2.2.2.2; omega))
          refine tr_aload_n (pc := 29) 0 dX3_readMethod_29 rfl rfl ?_
          refine tr_getR (pc := 30) (q := 10) dX3_readMethod_30 (hS.1 9 (6, 9) rfl) fi_X3_12 rfl (hS.2 9 2 10 rfl) ?_
          refine tr_callV (pc := 33) (rest := []) (ci := 7) dX3_readMethod_33 ml_X3_49 cv_X7_ahead rfl rfl (Nat.le_of_ble_eq_true rfl) (hS.1 10 (10, 5) rfl) rfl (by decide) (c_ahead hS hv hQ3.1 hQ3.2.1 hQ3.2.2.1) ?_
          rintro _ _ _ ⟨rfl, rfl, rfl⟩
          show T a 5 mX3_readMethod 36 [(0, rv a 9), (1, .int (nI m)), (2, .int (nI k))] [.int (ck (kd tx (pl tx i3)))] S h3 _
          refine tr_bipush (pc := 36) (v := nI 125) dX3_readMethod_36 (by decide) ?_
          refine tr_icmp_eq (pc := 38) (tgt := 81) dX3_readMethod_38 (by decide) (ck_eq (kd_le hv) (by decide : 125 < 131)) (fun hb38 => ?_) (fun hb38 => ?_)
          · skip
            have hex : ∀ q', (Except.ok q : Except Nat Nat) = .ok q' → L.length = 8 ∨ kd tx q' = 125 := fun q' hq => by
              injection hq with hq
              rw [← hq, cq_pos hQ3]
              exact Or.inr hb38
            refine tr_aload_n (pc := 81) 0 dX3_readMethod_81 rfl rfl ?_
            refine tr_bipush (pc := 82) (v := nI 125) dX3_readMethod_82 (by decide) ?_
            refine tr_callV (pc := 84) (rest := []) (ci := 3) dX3_readMethod_84 ml_X3_57 cv_X3_take rfl rfl (Nat.le_of_ble_eq_true rfl) (hS.1 9 (6, 9) rfl) rfl (by decide) (c_take hS hv hQ3 (w := 125) (by decide) rfl) ?_
            rintro _ _ h4 ⟨rfl, rfl, ⟨i4, hQ4⟩, hG4⟩
            show T a 5 mX3_readMethod 87 [(0, rv a 9), (1, .int (nI m)), (2, .int (nI k))] [] S h4 _
            exact tr_vret (pc := 87) dX3_readMethod_87 rfl (⟨rfl, rfl, L, i4, _, hQ4, hM3.fr hG4.1 (by decide) (by decide) (by decide), hV3, hF3.trans (hG4.1.mono (by decide)), mo_end hB hex (hG4.1 13 (by decide))⟩)
          · skip
            refine tr_aload_n (pc := 41) 0 dX3_readMethod_41 rfl rfl ?_
            refine tr_iload_n (pc := 42) 1 dX3_readMethod_42 rfl rfl ?_
            refine tr_callV (pc := 43) (rest := []) (ci := 3) dX3_readMethod_43 ml_X3_69 cv_X3_readLine rfl rfl (Nat.le_of_ble_eq_true rfl) (hS.1 9 (6, 9) rfl) rfl (by decide) (c_readLine hS hv hQ3 hm4) ?_
            rintro _ _ h4 ⟨rfl, rfl, l, i4, σ4, hl, hD4, hQ4, hF34, hlO⟩
            show T a 5 mX3_readMethod 46 [(0, rv a 9), (1, .int (nI m)), (2, .int (nI k))] [] S h4 _
            refine tr_aload_n (pc := 46) 0 dX3_readMethod_46 rfl rfl ?_
            refine tr_bipush (pc := 47) (v := nI 59) dX3_readMethod_47 (by decide) ?_
            refine tr_callV (pc := 49) (rest := []) (ci := 3) dX3_readMethod_49 ml_X3_57 cv_X3_take rfl rfl (Nat.le_of_ble_eq_true rfl) (hS.1 9 (6, 9) rfl) rfl (by decide) (c_take hS hv hQ4 (w := 59) (by decide) rfl) ?_
            rintro _ _ h5 ⟨rfl, rfl, ⟨i5, hQ5⟩, hG5⟩
            have hD5 := hD4.rg hG5
            have hM5 : MP h5 6 (P ++ [L]) := (hM3.fr hF34 (by decide) (by decide) (by decide)).fr hG5.1 (by decide) (by decide) (by decide)
            show T a 5 mX3_readMethod 52 [(0, rv a 9), (1, .int (nI m)), (2, .int (nI k))] [] S h5 _
            refine tr_aload_n (pc := 52) 0 dX3_readMethod_52 rfl rfl ?_
            refine tr_getR (pc := 53) (q := 6) dX3_readMethod_53 (hS.1 9 (6, 9) rfl) fi_X3_26 rfl (hS.2 9 1 6 rfl) ?_
            refine tr_aload_n (pc := 56) 0 dX3_readMethod_56 rfl rfl ?_
            refine tr_getI (pc := 57) (x := nI l.1) dX3_readMethod_57 (hS.1 9 (6, 9) rfl) fi_X3_72 rfl hD5.1 ?_
            refine tr_aload_n (pc := 60) 0 dX3_readMethod_60 rfl rfl ?_
            refine tr_getI (pc := 61) (x := nI l.2.1) dX3_readMethod_61 (hS.1 9 (6, 9) rfl) fi_X3_75 rfl hD5.2.1 ?_
            refine tr_aload_n (pc := 64) 0 dX3_readMethod_64 rfl rfl ?_
            refine tr_getI (pc := 65) (x := nI l.2.2.1) dX3_readMethod_65 (hS.1 9 (6, 9) rfl) fi_X3_78 rfl hD5.2.2.1 ?_
            refine tr_aload_n (pc := 68) 0 dX3_readMethod_68 rfl rfl ?_
            refine tr_getI (pc := 69) (x := nI l.2.2.2) dX3_readMethod_69 (hS.1 9 (6, 9) rfl) fi_X3_81 rfl hD5.2.2.2 ?_
            refine tr_callV (pc := 72) (rest := []) (ci := 2) dX3_readMethod_72 ml_X3_84 cv_X2_addLine rfl rfl (Nat.le_of_ble_eq_true rfl) (hS.1 6 (5, 3) rfl) rfl (by decide) (c_addLine hS hM5 hV3 hl (by simp) (by rw [lnN_last]; omega)) ?_
            rintro _ _ h6 ⟨rfl, rfl, hM6, hF56⟩
            rw [addL_app] at hM6
            show T a 5 mX3_readMethod 75 [(0, rv a 9), (1, .int (nI m)), (2, .int (nI k))] [] S h6 _
            refine tr_iinc (pc := 75) (v := nI (k + 1)) (lv' := [(2, .int (nI (k + 1))), (0, rv a 9), (1, .int (nI m))]) 2 dX3_readMethod_75 rfl (by rw [show Int32.ofInt 1 = nI 1 from by decide, nI_add]) (by decide) rfl ?_
            refine tr_goto (pc := 78) (tgt := 15) dX3_readMethod_78 (by decide) ?_
            refine tr_sub (pc := 15) (lv' := [(0, rv a 9), (1, .int (nI m)), (2, .int (nI (k + 1)))]) [1, 2, 0] rfl ?_
            exact ih (k + 1) (L ++ [l]) i5 _ h6 (by omega) (by simp; omega) (by omega) (cq_13 hQ5 (hF56.mono (by decide))) hM6 (vb_line hV3 hl (by omega)) (hF3.trans ((hF34.mono (by decide)).trans ((hG5.1.mono (by decide)).trans (hF56.mono (by decide))))) (bi_step hB (by rw [cq_pos hQ3]; exact hb38) (by omega) hlO ((hF56 13 (by decide)).trans (hG5.1 13 (by decide))))
  exact L15 9 0 [] i2 _ h2 (by omega) rfl (by omega) hQ2 (hM1.fr hG2.1 (by decide) (by decide) (by decide)) (vb_new hV (by omega)) ((hF1.mono (by decide)).trans (hG2.1.mono (by decide))) (bi_0 (hC.c ((hG2.1 13 (by decide)).trans (hF1 13 (by decide)))))

def PI (tx : List Nat) (h3 : Hp) (P : Prog) (σ3 : Except Nat Nat) : Prop := match σ3 with
  | .error e => rProg tx 4 (skp tx 0) [] [] = .error e
  | .ok q => ∃ C, FCl h3 C ∧ rProg tx 4 (skp tx 0) [] [] = rProg tx (4 - P.length) q P C
theorem rp_end {tx : List Nat} {p : Nat} {P : Prog} {C : Cls} (k : kd tx p = 131) : ∀ f, rProg tx f p P C = .ok (P, C)
  | 0 => if_pos k
  | _ + 1 => if_pos k
theorem rp_0 {tx : List Nat} {p : Nat} {P : Prog} {C : Cls} (k : ¬ kd tx p = 131) : rProg tx 0 p P C = .error p := if_neg k
theorem rp_s {tx : List Nat} {p f : Nat} {P : Prog} {C : Cls} (k : ¬ kd tx p = 131) : rProg tx (f + 1) p P C = match rMeth tx P.length p C with | .error e => .error e | .ok z => rProg tx f z.2.2 (P ++ [z.1]) z.2.1 := if_neg k
theorem pi_step {tx : List Nat} {q : Nat} {C : Cls} {h4 : Hp} {P : Prog} {L : List Ln} {σ4 : Except Nat Nat} (e : rProg tx 4 (skp tx 0) [] [] = rProg tx (4 - P.length) q P C) (hne : ¬ kd tx q = 131) (h4' : P.length < 4) (hO : mOu tx P.length q C L σ4 h4) : PI tx h4 (P ++ [L]) σ4 := by
  obtain ⟨f, hf⟩ : ∃ f, 4 - P.length = f + 1 := ⟨4 - P.length - 1, by omega⟩
  rw [hf, rp_s hne] at e
  unfold mOu at hO
  cases hr : rMeth tx P.length q C with
  | error x =>
    rw [hr] at hO e
    have hO : σ4 = .error x := hO
    rw [hO]
    exact e
  | ok z =>
    rw [hr] at hO e
    obtain ⟨rfl, rfl, hC⟩ := hO
    refine ⟨_, hC, ?_⟩
    rw [e, show 4 - (P ++ [z.1]).length = f by simp; omega]
theorem rd_er {tx : List Nat} {e : Nat} (h : rProg tx 4 (skp tx 0) [] [] = .error e) : rdA tx = .error e := by
  unfold rdA
  rw [h]
theorem rd_ok {tx : List Nat} {P : Prog} {C : Cls} (h : rProg tx 4 (skp tx 0) [] [] = .ok (P, C)) : rAns (rdA tx) = oI (miss P.length C) ∧ ∀ P', rdA tx = .ok P' → P' = P := by
  unfold rdA
  rw [h]
  cases hm : miss P.length C with
  | none =>
    simp only [hm]
    exact ⟨rfl, fun P' e => by injection e with e; exact e.symm⟩
  | some q =>
    simp only [hm]
    exact ⟨rfl, fun P' e => by cases e⟩
theorem pi_end {tx : List Nat} {h3 : Hp} {P : Prog} {σ3 : Except Nat Nat} (hB : PI tx h3 P σ3) (hex : ∀ q, σ3 = .ok q → P.length = 4 ∨ kd tx q = 131) : (∀ f, tkS tx 131 σ3 = .error f → rdA tx = .error f) ∧ ∀ q, tkS tx 131 σ3 = .ok q → ∃ C, FCl h3 C ∧ rProg tx 4 (skp tx 0) [] [] = .ok (P, C) := by
  cases σ3 with
  | error e =>
    refine ⟨fun f hf => ?_, fun q hq => by cases hq⟩
    injection hf with hf
    rw [← hf]
    exact rd_er hB
  | ok q =>
    obtain ⟨C, hC, e⟩ := hB
    by_cases k : kd tx q = 131
    · rw [tkS_y k]
      refine ⟨fun f hf => by (cases hf), fun q' hq => ⟨C, hC, by rw [e, rp_end k]⟩⟩
    · have h8 : 4 - P.length = 0 := by
        rcases hex q rfl with z | z
        · omega
        · exact absurd z k
      rw [h8, rp_0 k] at e
      rw [tkS_n k]
      refine ⟨fun f hf => ?_, fun q' hq => by (cases hq)⟩
      injection hf with hf
      rw [← hf]
      exact rd_er e
theorem pi_end2 {tx : List Nat} {h3 h4 : Hp} {n i4 : Nat} {P : Prog} {σ3 : Except Nat Nat} (hB : PI tx h3 P σ3) (hex : ∀ q, σ3 = .ok q → P.length = 4 ∨ kd tx q = 131) (hQ : CQ h4 tx n i4 (tkS tx 131 σ3)) : ∃ σ4, CQ h4 tx n i4 σ4 ∧ (∀ f, σ4 = .error f → rdA tx = .error f) ∧ ∀ q, σ4 = .ok q → ∃ C, FCl h3 C ∧ rProg tx 4 (skp tx 0) [] [] = .ok (P, C) := ⟨_, hQ, pi_end hB hex⟩
set_option maxHeartbeats 4000000 in
set_option maxRecDepth 100000 in
theorem c_readAll {a : Am} {S : St} {h : Hp} (hS : IsSt S) {tx : List Nat} (hT : TX h tx) (hv : TV tx) : CT a 7 mX3_readAll [rv a 9] S h (fun v S' h' => v = some (.int (rAns (rdA tx))) ∧ S = S' ∧ Fr [6, 7, 8, 9, 10, 11, 12, 13] h h' ∧ ∀ P, rdA tx = .ok P → MP h' 6 P) := by
  refine met_of (by decide +kernel) (Nat.le_of_ble_eq_true rfl) ?_
  show T a 7 mX3_readAll 0 [(0, rv a 9)] [] S h _
  refine tr_aload_n (pc := 0) 0 dX3_readAll_0 rfl rfl ?_
  refine tr_iconst (pc := 1) (v := -1) dX3_readAll_1 (by decide) ?_
  refine tr_putI (pc := 2) (x := -1) dX3_readAll_2 (hS.1 9 (6, 9) rfl) fi_X3_30 rfl rfl rfl ?_
  have hF1 : Fr [9] h (hs h 9 (upd (h 9) 3 (-1))) := Fr.rf.hs (by decide)
  have hf1 : hs h 9 (upd (h 9) 3 (-1)) 9 3 = -1 := by rw [hs_same, upd_s]
  generalize hs h 9 (upd (h 9) 3 (-1)) = h1 at hF1 hf1 ⊢
  refine tr_aload_n (pc := 5) 0 dX3_readAll_5 rfl rfl ?_
  refine tr_getR (pc := 6) (q := 10) dX3_readAll_6 (hS.1 9 (6, 9) rfl) fi_X3_12 rfl (hS.2 9 2 10 rfl) ?_
  refine tr_aload_n (pc := 9) 0 dX3_readAll_9 rfl rfl ?_
  refine tr_getR (pc := 10) (q := 1) dX3_readAll_10 (hS.1 9 (6, 9) rfl) fi_X3_22 rfl (hS.2 9 0 1 rfl) ?_
  refine tr_callV (pc := 13) (rest := []) (ci := 7) dX3_readAll_13 ml_X3_34 cv_X7_cut rfl rfl (Nat.le_of_ble_eq_true rfl) (hS.1 10 (10, 5) rfl) rfl (by decide) (c_cut hS (hT.fr hF1 (by decide) (by decide)) hv) ?_
  rintro _ _ h2 ⟨rfl, rfl, hn2, ⟨n, hK2⟩, hF2⟩
  show T a 7 mX3_readAll 16 [(0, rv a 9)] [] S h2 _
  refine tr_aload_n (pc := 16) 0 dX3_readAll_16 rfl rfl ?_
  refine tr_getR (pc := 17) (q := 6) dX3_readAll_17 (hS.1 9 (6, 9) rfl) fi_X3_26 rfl (hS.2 9 1 6 rfl) ?_
  refine tr_callV (pc := 20) (rest := []) (ci := 2) dX3_readAll_20 ml_X3_38 cv_X2_becomeNone rfl rfl (Nat.le_of_ble_eq_true rfl) (hS.1 6 (5, 3) rfl) rfl (by decide) (c_becomeNone hS) ?_
  rintro _ _ h3 ⟨rfl, rfl, hM3, hF3⟩
  show T a 7 mX3_readAll 23 [(0, rv a 9)] [] S h3 _
  refine tr_aload_n (pc := 23) 0 dX3_readAll_23 rfl rfl ?_
  refine tr_getR (pc := 24) (q := 13) dX3_readAll_24 (hS.1 9 (6, 9) rfl) fi_X3_18 rfl (hS.2 9 4 13 rfl) ?_
  refine tr_iconst (pc := 27) (v := -1) dX3_readAll_27 (by decide) ?_
  refine tr_callS (pc := 28) (rest := []) dX3_readAll_28 ml_X3_43 cs_J7_fill_53178 rfl rfl (Nat.le_of_ble_eq_true rfl) (by decide) (c_fill (o := 13) (n := 4) (hS.1 13 _ rfl) (by decide)) ?_
  rintro _ _ _ ⟨rfl, rfl, f, hf, rfl⟩
  have hFs : Fr [6, 7, 8, 9, 10, 11, 12, 13] h (hs h3 13 f) := (hF1.mono (by decide)).trans ((hF2.mono (by decide)).trans ((hF3.mono (by decide)).hs (by decide)))
  have hQs : CQ (hs h3 13 f) tx n 0 (.ok (pl tx 0)) := by
    refine ⟨(hK2.fr hF3 (by decide) (by decide) (by decide)).fr (L := [13]) (Fr.rf.hs (by decide)) (by decide) (by decide) (by decide), Nat.zero_le _, ?_, ?_, rfl⟩
    · rw [hs_ne (by decide), hF3 10 (by decide)]; exact hn2
    · rw [hs_ne (by decide), hF3 9 (by decide), hF2 9 (by decide)]; exact hf1
  show T a 7 mX3_readAll 31 [(0, rv a 9)] [] S (hs h3 13 f) _
  refine tr_iconst (pc := 31) (v := nI 0) dX3_readAll_31 (by decide) ?_
  refine tr_istore_n (pc := 32) (lv' := [(1, .int (nI 0)), (0, rv a 9)]) dX3_readAll_32 rfl (by decide) rfl ?_
  refine tr_sub (pc := 33) (lv' := [(0, rv a 9), (1, .int (nI 0))]) [1, 0] rfl ?_
  have L33 : ∀ (fu : Nat) (k : Nat) (P : Prog) (i3 : Nat) (σ3 : Except Nat Nat) (h3 : Hp), 4 - k < fu → P.length = k → k ≤ 4 → CQ h3 tx n i3 σ3 → MP h3 6 P → VB P → Fr [6, 7, 8, 9, 10, 11, 12, 13] h h3 → PI tx h3 P σ3 → T a 7 mX3_readAll 33 [(0, rv a 9), (1, .int (nI k))] [] S h3 (fun v S' h' => v = some (.int (rAns (rdA tx))) ∧ S = S' ∧ Fr [6, 7, 8, 9, 10, 11, 12, 13] h h' ∧ ∀ P, rdA tx = .ok P → MP h' 6 P) := by
    intro fu
    induction fu with
    | zero => intro k P i3 σ3 h3 hu hk hk8 hQ3 hM3 hV3 hF3 hB; omega
    | succ fu ih =>
      intro k P i3 σ3 h3 hu hk hk8 hQ3 hM3 hV3 hF3 hB
      refine tr_iload_n (pc := 33) 1 dX3_readAll_33 rfl rfl ?_
      refine tr_iconst (pc := 34) (v := nI 4) dX3_readAll_34 (by decide) ?_
      refine tr_icmp_ge (pc := 35) (tgt := 68) dX3_readAll_35 (by decide) (nI_leI (by omega) (by omega)) (fun hb35 => ?_) (fun hb35 => ?_)
      · skip
        have hex : ∀ q, σ3 = .ok q → P.length = 4 ∨ kd tx q = 131 := fun q _ => Or.inl (by omega)
        refine tr_aload_n (pc := 68) 0 dX3_readAll_68 rfl rfl ?_
        refine tr_iconst (pc := 69) (v := -1) dX3_readAll_69 (by decide) ?_
        refine tr_callV (pc := 70) (rest := []) (ci := 3) dX3_readAll_70 ml_X3_57 cv_X3_take rfl rfl (Nat.le_of_ble_eq_true rfl) (hS.1 9 (6, 9) rfl) rfl (by decide) (c_take hS hv hQ3 (w := 131) (by decide) rfl) ?_
        rintro _ _ h4 ⟨rfl, rfl, ⟨i4, hQ4⟩, hG4⟩
        obtain ⟨σ4, hQ4, hE⟩ := pi_end2 hB hex hQ4
        have hM4 : MP h4 6 P := hM3.fr hG4.1 (by decide) (by decide) (by decide)
        have hF4 : Fr [6, 7, 8, 9, 10, 11, 12, 13] h h4 := hF3.trans (hG4.1.mono (by decide))
        have h13 := hG4.1 13 (by decide)
        have hV4 := hV3
        show T a 7 mX3_readAll 73 [(0, rv a 9), (1, .int (nI k))] [] S h4 _
        refine tr_aload_n (pc := 73) 0 dX3_readAll_73 rfl rfl ?_
        refine tr_getI (pc := 74) (x := h4 9 3) dX3_readAll_74 (hS.1 9 (6, 9) rfl) fi_X3_30 rfl rfl ?_
        refine tr_iconst (pc := 77) (v := -1) dX3_readAll_77 (by decide) ?_
        refine tr_icmp_ne (pc := 78) (tgt := 88) dX3_readAll_78 (by decide) Iff.rfl (fun hb78 => ?_) (fun hb78 => ?_)
        · skip
          obtain ⟨f, rfl⟩ : ∃ f, σ4 = .error f := by
            cases σ4 with
            | error f => exact ⟨f, rfl⟩
            | ok q => exact absurd hQ4.2.2.2.1 hb78
          have hr := hE.1 f rfl
          refine tr_aload_n (pc := 88) 0 dX3_readAll_88 rfl rfl ?_
          refine tr_getI (pc := 89) (x := h4 9 3) dX3_readAll_89 (hS.1 9 (6, 9) rfl) fi_X3_30 rfl rfl ?_
          exact tr_iret (pc := 92) dX3_readAll_92 rfl rfl (⟨by rw [hr, hQ4.2.2.2.1]; rfl, rfl, hF4, fun P' hP => by rw [hr] at hP; cases hP⟩)
        · skip
          obtain ⟨q4, rfl⟩ : ∃ q, σ4 = .ok q := by
            cases σ4 with
            | ok q => exact ⟨q, rfl⟩
            | error f => exact absurd (hQ4.2.2.2.1.symm.trans hb78) (nI_nm (by have := hQ4.2.2.2.2; omega))
          obtain ⟨C4, hC4, e4⟩ := hE.2 q4 rfl
          obtain ⟨q5, j1, j2, j3, j4, j5⟩ := rProg_inv _ _ _ _ _ inv_0 (by simp) e4
          refine tr_aload_n (pc := 81) 0 dX3_readAll_81 rfl rfl ?_
          refine tr_callV (pc := 82) (rest := []) (ci := 3) dX3_readAll_82 ml_X3_60 cv_X3_firstMissingCall rfl rfl (Nat.le_of_ble_eq_true rfl) (hS.1 9 (6, 9) rfl) rfl (by decide) (c_firstMissing hS hM4 hV4 (hC4.c h13) j2 (fun z hz => (j3 z hz).2)) ?_
          rintro _ _ _ ⟨rfl, rfl, rfl⟩
          show T a 7 mX3_readAll 85 [(0, rv a 9), (1, .int (nI k))] [.int (oI (miss P.length C4))] S h4 _
          refine tr_goto (pc := 85) (tgt := 92) dX3_readAll_85 (by decide) ?_
          exact tr_iret (pc := 92) dX3_readAll_92 rfl rfl (⟨by rw [(rd_ok e4).1], rfl, hF4, fun P' hP => by rw [(rd_ok e4).2 P' hP]; exact hM4⟩)
      · skip
        refine tr_aload_n (pc := 38) 0 dX3_readAll_38 rfl rfl ?_
        refine tr_getI (pc := 39) (x := h3 9 3) dX3_readAll_39 (hS.1 9 (6, 9) rfl) fi_X3_30 rfl rfl ?_
        refine tr_iconst (pc := 42) (v := -1) dX3_readAll_42 (by decide) ?_
        refine tr_icmp_ne (pc := 43) (tgt := 68) dX3_readAll_43 (by decide) Iff.rfl (fun hb43 => ?_) (fun hb43 => ?_)
        · skip
          have hex : ∀ q, σ3 = .ok q → P.length = 4 ∨ kd tx q = 131 := fun q hq => by
            subst hq
            exact absurd hQ3.2.2.2.1 hb43
          refine tr_aload_n (pc := 68) 0 dX3_readAll_68 rfl rfl ?_
          refine tr_iconst (pc := 69) (v := -1) dX3_readAll_69 (by decide) ?_
          refine tr_callV (pc := 70) (rest := []) (ci := 3) dX3_readAll_70 ml_X3_57 cv_X3_take rfl rfl (Nat.le_of_ble_eq_true rfl) (hS.1 9 (6, 9) rfl) rfl (by decide) (c_take hS hv hQ3 (w := 131) (by decide) rfl) ?_
          rintro _ _ h4 ⟨rfl, rfl, ⟨i4, hQ4⟩, hG4⟩
          obtain ⟨σ4, hQ4, hE⟩ := pi_end2 hB hex hQ4
          have hM4 : MP h4 6 P := hM3.fr hG4.1 (by decide) (by decide) (by decide)
          have hF4 : Fr [6, 7, 8, 9, 10, 11, 12, 13] h h4 := hF3.trans (hG4.1.mono (by decide))
          have h13 := hG4.1 13 (by decide)
          have hV4 := hV3
          show T a 7 mX3_readAll 73 [(0, rv a 9), (1, .int (nI k))] [] S h4 _
          refine tr_aload_n (pc := 73) 0 dX3_readAll_73 rfl rfl ?_
          refine tr_getI (pc := 74) (x := h4 9 3) dX3_readAll_74 (hS.1 9 (6, 9) rfl) fi_X3_30 rfl rfl ?_
          refine tr_iconst (pc := 77) (v := -1) dX3_readAll_77 (by decide) ?_
          refine tr_icmp_ne (pc := 78) (tgt := 88) dX3_readAll_78 (by decide) Iff.rfl (fun hb78 => ?_) (fun hb78 => ?_)
          · skip
            obtain ⟨f, rfl⟩ : ∃ f, σ4 = .error f := by
              cases σ4 with
              | error f => exact ⟨f, rfl⟩
              | ok q => exact absurd hQ4.2.2.2.1 hb78
            have hr := hE.1 f rfl
            refine tr_aload_n (pc := 88) 0 dX3_readAll_88 rfl rfl ?_
            refine tr_getI (pc := 89) (x := h4 9 3) dX3_readAll_89 (hS.1 9 (6, 9) rfl) fi_X3_30 rfl rfl ?_
            exact tr_iret (pc := 92) dX3_readAll_92 rfl rfl (⟨by rw [hr, hQ4.2.2.2.1]; rfl, rfl, hF4, fun P' hP => by rw [hr] at hP; cases hP⟩)
          · skip
            obtain ⟨q4, rfl⟩ : ∃ q, σ4 = .ok q := by
              cases σ4 with
              | ok q => exact ⟨q, rfl⟩
              | error f => exact absurd (hQ4.2.2.2.1.symm.trans hb78) (nI_nm (by have := hQ4.2.2.2.2; omega))
            obtain ⟨C4, hC4, e4⟩ := hE.2 q4 rfl
            obtain ⟨q5, j1, j2, j3, j4, j5⟩ := rProg_inv _ _ _ _ _ inv_0 (by simp) e4
            refine tr_aload_n (pc := 81) 0 dX3_readAll_81 rfl rfl ?_
            refine tr_callV (pc := 82) (rest := []) (ci := 3) dX3_readAll_82 ml_X3_60 cv_X3_firstMissingCall rfl rfl (Nat.le_of_ble_eq_true rfl) (hS.1 9 (6, 9) rfl) rfl (by decide) (c_firstMissing hS hM4 hV4 (hC4.c h13) j2 (fun z hz => (j3 z hz).2)) ?_
            rintro _ _ _ ⟨rfl, rfl, rfl⟩
            show T a 7 mX3_readAll 85 [(0, rv a 9), (1, .int (nI k))] [.int (oI (miss P.length C4))] S h4 _
            refine tr_goto (pc := 85) (tgt := 92) dX3_readAll_85 (by decide) ?_
            exact tr_iret (pc := 92) dX3_readAll_92 rfl rfl (⟨by rw [(rd_ok e4).1], rfl, hF4, fun P' hP => by rw [(rd_ok e4).2 P' hP]; exact hM4⟩)
        · skip
          obtain ⟨q, rfl⟩ : ∃ q, σ3 = .ok q := by
            cases σ3 with
            | ok q => exact ⟨q, rfl⟩
            | error f => exact absurd (hQ3.2.2.2.1.symm.trans hb43) (nI_nm (by have := hQ3.2.2.2.2; omega))
          refine tr_aload_n (pc := 46) 0 dX3_readAll_46 rfl rfl ?_
          refine tr_getR (pc := 47) (q := 10) dX3_readAll_47 (hS.1 9 (6, 9) rfl) fi_X3_12 rfl (hS.2 9 2 10 rfl) ?_
          refine tr_callV (pc := 50) (rest := []) (ci := 7) dX3_readAll_50 ml_X3_49 cv_X7_ahead rfl rfl (Nat.le_of_ble_eq_true rfl) (hS.1 10 (10, 5) rfl) rfl (by decide) (c_ahead hS hv hQ3.1 hQ3.2.1 hQ3.2.2.1) ?_
          rintro _ _ _ ⟨rfl, rfl, rfl⟩
          show T a 7 mX3_readAll 53 [(0, rv a 9), (1, .int (nI k))] [.int (ck (kd tx (pl tx i3)))] S h3 _
          refine tr_iconst (pc := 53) (v := -1) dX3_readAll_53 (by decide) ?_
          refine tr_icmp_eq (pc := 54) (tgt := 68) dX3_readAll_54 (by decide) (ck_end (kd_le hv)) (fun hb54 => ?_) (fun hb54 => ?_)
          · skip
            have hex : ∀ q', (Except.ok q : Except Nat Nat) = .ok q' → P.length = 4 ∨ kd tx q' = 131 := fun q' hq => by
              injection hq with hq
              rw [← hq, cq_pos hQ3]
              exact Or.inr hb54
            refine tr_aload_n (pc := 68) 0 dX3_readAll_68 rfl rfl ?_
            refine tr_iconst (pc := 69) (v := -1) dX3_readAll_69 (by decide) ?_
            refine tr_callV (pc := 70) (rest := []) (ci := 3) dX3_readAll_70 ml_X3_57 cv_X3_take rfl rfl (Nat.le_of_ble_eq_true rfl) (hS.1 9 (6, 9) rfl) rfl (by decide) (c_take hS hv hQ3 (w := 131) (by decide) rfl) ?_
            rintro _ _ h4 ⟨rfl, rfl, ⟨i4, hQ4⟩, hG4⟩
            obtain ⟨σ4, hQ4, hE⟩ := pi_end2 hB hex hQ4
            have hM4 : MP h4 6 P := hM3.fr hG4.1 (by decide) (by decide) (by decide)
            have hF4 : Fr [6, 7, 8, 9, 10, 11, 12, 13] h h4 := hF3.trans (hG4.1.mono (by decide))
            have h13 := hG4.1 13 (by decide)
            have hV4 := hV3
            show T a 7 mX3_readAll 73 [(0, rv a 9), (1, .int (nI k))] [] S h4 _
            refine tr_aload_n (pc := 73) 0 dX3_readAll_73 rfl rfl ?_
            refine tr_getI (pc := 74) (x := h4 9 3) dX3_readAll_74 (hS.1 9 (6, 9) rfl) fi_X3_30 rfl rfl ?_
            refine tr_iconst (pc := 77) (v := -1) dX3_readAll_77 (by decide) ?_
            refine tr_icmp_ne (pc := 78) (tgt := 88) dX3_readAll_78 (by decide) Iff.rfl (fun hb78 => ?_) (fun hb78 => ?_)
            · skip
              obtain ⟨f, rfl⟩ : ∃ f, σ4 = .error f := by
                cases σ4 with
                | error f => exact ⟨f, rfl⟩
                | ok q => exact absurd hQ4.2.2.2.1 hb78
              have hr := hE.1 f rfl
              refine tr_aload_n (pc := 88) 0 dX3_readAll_88 rfl rfl ?_
              refine tr_getI (pc := 89) (x := h4 9 3) dX3_readAll_89 (hS.1 9 (6, 9) rfl) fi_X3_30 rfl rfl ?_
              exact tr_iret (pc := 92) dX3_readAll_92 rfl rfl (⟨by rw [hr, hQ4.2.2.2.1]; rfl, rfl, hF4, fun P' hP => by rw [hr] at hP; cases hP⟩)
            · skip
              obtain ⟨q4, rfl⟩ : ∃ q, σ4 = .ok q := by
                cases σ4 with
                | ok q => exact ⟨q, rfl⟩
                | error f => exact absurd (hQ4.2.2.2.1.symm.trans hb78) (nI_nm (by have := hQ4.2.2.2.2; omega))
              obtain ⟨C4, hC4, e4⟩ := hE.2 q4 rfl
              obtain ⟨q5, j1, j2, j3, j4, j5⟩ := rProg_inv _ _ _ _ _ inv_0 (by simp) e4
              refine tr_aload_n (pc := 81) 0 dX3_readAll_81 rfl rfl ?_
              refine tr_callV (pc := 82) (rest := []) (ci := 3) dX3_readAll_82 ml_X3_60 cv_X3_firstMissingCall rfl rfl (Nat.le_of_ble_eq_true rfl) (hS.1 9 (6, 9) rfl) rfl (by decide) (c_firstMissing hS hM4 hV4 (hC4.c h13) j2 (fun z hz => (j3 z hz).2)) ?_
              rintro _ _ _ ⟨rfl, rfl, rfl⟩
              show T a 7 mX3_readAll 85 [(0, rv a 9), (1, .int (nI k))] [.int (oI (miss P.length C4))] S h4 _
              refine tr_goto (pc := 85) (tgt := 92) dX3_readAll_85 (by decide) ?_
              exact tr_iret (pc := 92) dX3_readAll_92 rfl rfl (⟨by rw [(rd_ok e4).1], rfl, hF4, fun P' hP => by rw [(rd_ok e4).2 P' hP]; exact hM4⟩)
          · skip
            obtain ⟨C, hC, e⟩ := hB
            refine tr_aload_n (pc := 57) 0 dX3_readAll_57 rfl rfl ?_
            refine tr_iload_n (pc := 58) 1 dX3_readAll_58 rfl rfl ?_
            refine tr_callV (pc := 59) (rest := []) (ci := 3) dX3_readAll_59 ml_X3_53 cv_X3_readMethod rfl rfl (Nat.le_of_ble_eq_true rfl) (hS.1 9 (6, 9) rfl) rfl (by decide) (c_readMethod hS hv hQ3 hM3 hV3 hk (by omega) hC) ?_
            rintro _ _ h4 ⟨rfl, rfl, L, i4, σ4, hQ4, hM4, hV4, hF34, hO⟩
            show T a 7 mX3_readAll 62 [(0, rv a 9), (1, .int (nI k))] [] S h4 _
            refine tr_iinc (pc := 62) (v := nI (k + 1)) (lv' := [(1, .int (nI (k + 1))), (0, rv a 9)]) 1 dX3_readAll_62 rfl (by rw [show Int32.ofInt 1 = nI 1 from by decide, nI_add]) (by decide) rfl ?_
            refine tr_goto (pc := 65) (tgt := 33) dX3_readAll_65 (by decide) ?_
            refine tr_sub (pc := 33) (lv' := [(0, rv a 9), (1, .int (nI (k + 1)))]) [1, 0] rfl ?_
            exact ih (k + 1) (P ++ [L]) i4 _ h4 (by omega) (by simp; omega) (by omega) hQ4 hM4 hV4 (hF3.trans (hF34.mono (by decide))) (pi_step e (by rw [cq_pos hQ3]; exact hb54) (by omega) (by rw [hk]; exact hO))
  exact L33 5 0 [] 0 (.ok (pl tx 0)) _ (by omega) rfl (by omega) hQs (hM3.fr (L := [13]) (Fr.rf.hs (by decide)) (by decide) (by decide) (by decide)) (inv_0 (tx := tx)).2.2.2.1 hFs ⟨[], ⟨fun z hz => absurd hz (by simp), fun c hc => by rw [hs_same]; exact hf c hc⟩, rfl⟩
