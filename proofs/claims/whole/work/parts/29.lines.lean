/-! ===== lines ===== -/
def vO (tx : List Nat) (m x p : Nat) (l : Ln) (σ' : Except Nat Nat) (h h' : Hp) : Prop := match rVal tx m x p with
  | .error e => σ' = .error e
  | .ok z => σ' = .ok z.2 ∧ l = z.1 ∧ ∀ C, FCl h C → FCl h' (if z.1.1 = 7 then C ++ [(z.1.2.2.2, p)] else C)
theorem vo_G {tx : List Nat} {m x p : Nat} {h h' : Hp} (hk : kd tx p = 71) (hC : ∀ C, FCl h C → FCl h' C) : vO tx m x p (5, x, 0, 0) (tkS tx 71 (.ok p)) h h' := by
  unfold vO rVal
  rw [if_pos hk, tkS_y hk]
  exact ⟨rfl, rfl, hC⟩
theorem vo_N {tx : List Nat} {m x p : Nat} {h h' : Hp} (hk : kd tx p = 128) (hC : ∀ C, FCl h C → FCl h' C) : vO tx m x p (0, x, 0, 0) (tkS tx 128 (.ok p)) h h' := by
  unfold vO rVal
  rw [if_neg (by omega), if_pos hk, tkS_y hk]
  exact ⟨rfl, rfl, hC⟩
theorem vo_C {tx : List Nat} {m x p y : Nat} {h h' : Hp} (hk : 48 + m < kd tx p ∧ kd tx p < 52) (hy : ∀ q, tkS tx 40 (tkS tx (kd tx p) (.ok p)) = .ok q → nm (kd tx q) < 4 → y = nm (kd tx q)) (hC : ∀ C, FCl h C → FCl h' (C ++ [(kd tx p - 48, p)])) : vO tx m x p (7, x, y, kd tx p - 48) (tkS tx 41 (nmS tx (tkS tx 40 (tkS tx (kd tx p) (.ok p))))) h h' := by
  unfold vO rVal
  rw [if_neg (by omega), if_neg (by omega), if_pos hk]
  rw [tkS_y rfl] at hy ⊢
  by_cases h1 : kd tx (Nx tx p) = 40
  · rw [if_pos h1]
    rw [tkS_y h1] at hy ⊢
    by_cases h2 : nm (kd tx (Nx tx (Nx tx p))) < 4
    · rw [if_pos h2, nmS_y h2]
      have e := hy _ rfl h2
      by_cases h3 : kd tx (Nx tx (Nx tx (Nx tx p))) = 41
      · rw [if_pos h3, tkS_y h3]
        exact ⟨rfl, by rw [e], hC⟩
      · rw [if_neg h3, tkS_n h3]
    · rw [if_neg h2, nmS_n h2, tkS_e]
  · rw [if_neg h1, tkS_n h1, nmS_e, tkS_e]
theorem vo_1 {tx : List Nat} {m x p y r : Nat} {h h' : Hp} (h1 : kd tx p ≠ 71) (h2 : kd tx p ≠ 128) (h3 : ¬ (48 + m < kd tx p ∧ kd tx p < 52)) (hr : ∀ q, nmS tx (.ok p) = .ok q → q = r) (h4 : kd tx r ≠ 46) (hy : nm (kd tx p) < 4 → y = nm (kd tx p)) (hC : ∀ C, FCl h C → FCl h' C) : vO tx m x p (1, x, y, 0) (nmS tx (.ok p)) h h' := by
  unfold vO rVal
  rw [if_neg h1, if_neg h2, if_neg h3]
  by_cases k : nm (kd tx p) < 4
  · rw [nmS_y k] at hr ⊢
    have e := hr _ rfl
    rw [← e] at h4
    rw [if_pos k, if_neg h4]
    exact ⟨rfl, by rw [hy k], hC⟩
  · rw [if_neg k, nmS_n k]
theorem vo_3 {tx : List Nat} {m x p y r : Nat} {h h' : Hp} (h1 : kd tx p ≠ 71) (h2 : kd tx p ≠ 128) (h3 : ¬ (48 + m < kd tx p ∧ kd tx p < 52)) (hr : ∀ q, nmS tx (.ok p) = .ok q → q = r) (h4 : kd tx r = 46) (hy : nm (kd tx p) < 4 → y = nm (kd tx p)) (hC : ∀ C, FCl h C → FCl h' C) : vO tx m x p (3, x, y, 0) (tkS tx 102 (tkS tx 46 (nmS tx (.ok p)))) h h' := by
  unfold vO rVal
  rw [if_neg h1, if_neg h2, if_neg h3]
  by_cases k : nm (kd tx p) < 4
  · rw [nmS_y k] at hr ⊢
    have e := hr _ rfl
    rw [← e] at h4
    rw [if_pos k, if_pos h4, tkS_y h4]
    by_cases h5 : kd tx (Nx tx (Nx tx p)) = 102
    · rw [if_pos h5, tkS_y h5]
      exact ⟨rfl, by rw [hy k], hC⟩
    · rw [if_neg h5, tkS_n h5]
  · rw [if_neg k, nmS_n k, tkS_e, tkS_e]
theorem okl {s x y c : Nat} (h1 : s < 8) (h2 : x < 4) (h3 : y < 4) (h4 : c < 4) : okL (s, x, y, c) := ⟨h1, h2, h3, h4⟩
theorem S_er {tx : List Nat} {f : Nat} {σ : Except Nat Nat} (h : σ = .error f) : (∀ w, tkS tx w σ = .error f) ∧ nmS tx σ = .error f := by
  subst h
  exact ⟨fun _ => rfl, rfl⟩
set_option maxHeartbeats 4000000 in
set_option maxRecDepth 100000 in
theorem c_readValue {a : Am} {S : St} {h : Hp} (hS : IsSt S) {tx : List Nat} (hv : TV tx) {n i0 : Nat} {σ : Except Nat Nat} (hQ0 : CQ h tx n i0 σ) {m x : Nat} {s : Int32} (hx : x < 4) (hm : m < 4) (hD0 : FD h s (nI x) (nI 0) (nI 0)) : CT a 3 mX3_readValue [rv a 9, .int (nI m)] S h (fun v S' h' => v = none ∧ S = S' ∧ ∃ l i' σ', okL l ∧ FD h' (nI l.1) (nI l.2.1) (nI l.2.2.1) (nI l.2.2.2) ∧ CQ h' tx n i' σ' ∧ Fr [9, 10, 13] h h' ∧ (∀ f, σ = .error f → σ' = .error f) ∧ ∀ p, σ = .ok p → vO tx m x p l σ' h h') := by
  have hF0 : Fr [9, 10, 13] h h := Fr.rf
  have hE0 : h 13 = h 13 := rfl
  refine met_of (by decide +kernel) (Nat.le_of_ble_eq_true rfl) ?_
  show T a 3 mX3_readValue 0 [(0, rv a 9), (1, .int (nI m))] [] S h _
  refine tr_aload_n (pc := 0) 0 dX3_readValue_0 rfl rfl ?_
  refine tr_getR (pc := 1) (q := 10) dX3_readValue_1 (hS.1 9 (6, 9) rfl) fi_X3_12 rfl (hS.2 9 2 10 rfl) ?_
  refine tr_callV (pc := 4) (rest := []) (ci := 7) dX3_readValue_4 ml_X3_49 cv_X7_ahead rfl rfl (Nat.le_of_ble_eq_true rfl) (hS.1 10 (10, 5) rfl) rfl (by decide) (c_ahead hS hv hQ0.1 hQ0.2.1 hQ0.2.2.1) ?_
  rintro _ _ _ ⟨rfl, rfl, rfl⟩
  show T a 3 mX3_readValue 7 [(0, rv a 9), (1, .int (nI m))] [.int (ck (kd tx (pl tx i0)))] S h _
  refine tr_istore_n (pc := 7) (lv' := [(2, .int (ck (kd tx (pl tx i0)))), (0, rv a 9), (1, .int (nI m))]) dX3_readValue_7 rfl (by decide) rfl ?_
  refine tr_iload_n (pc := 8) 0 dX3_readValue_8 rfl rfl ?_
  refine tr_bipush (pc := 9) (v := nI 71) dX3_readValue_9 (by decide) ?_
  refine tr_icmp_ne (pc := 11) (tgt := 28) dX3_readValue_11 (by decide) (ck_eq (kd_le hv) (by decide : 71 < 131)) (fun hb11 => ?_) (fun hb11 => ?_)
  · skip
    refine tr_iload_n (pc := 28) 0 dX3_readValue_28 rfl rfl ?_
    refine tr_sipush (pc := 29) (v := nI 128) dX3_readValue_29 (by decide) ?_
    refine tr_icmp_ne (pc := 32) (tgt := 50) dX3_readValue_32 (by decide) (ck_eq (kd_le hv) (by decide : 128 < 131)) (fun hb32 => ?_) (fun hb32 => ?_)
    · skip
      refine tr_iload_n (pc := 50) 0 dX3_readValue_50 rfl rfl ?_
      refine tr_bipush (pc := 51) (v := nI 48) dX3_readValue_51 (by decide) ?_
      refine tr_iload_n (pc := 53) 2 dX3_readValue_53 rfl rfl ?_
      refine tr_iadd (pc := 54) (v := nI (48 + m)) dX3_readValue_54 (nI_add _ _) ?_
      refine tr_icmp_le (pc := 55) (tgt := 110) dX3_readValue_55 (by decide) (ck_le (kd_le hv) (by omega)) (fun hb55 => ?_) (fun hb55 => ?_)
      · skip
        have hnn : ¬ (48 + m < kd tx (pl tx i0) ∧ kd tx (pl tx i0) < 52) := by omega
        refine tr_aload_n (pc := 110) 1 dX3_readValue_110 rfl rfl ?_
        refine tr_iconst (pc := 111) (v := nI 1) dX3_readValue_111 (by decide) ?_
        refine tr_putI (pc := 112) (x := nI 1) dX3_readValue_112 (hS.1 9 (6, 9) rfl) fi_X3_72 rfl rfl rfl ?_
        have hQ1 := cq_put (k := 5) (x := nI 1) hQ0 (by decide)
        have hD1 := hD0.p5 (z := nI 1)
        have hF1 := hF0.hs (o := 9) (f := upd (h 9) 5 (nI 1)) (by decide)
        have hE1 := (hs_ne (h := h) (f := upd (h 9) 5 (nI 1)) (show 13 ≠ 9 by decide)).trans hE0
        generalize hs h 9 (upd (h 9) 5 (nI 1)) = h1 at hQ1 hD1 hF1 hE1 ⊢
        refine tr_aload_n (pc := 115) 1 dX3_readValue_115 rfl rfl ?_
        refine tr_aload_n (pc := 116) 1 dX3_readValue_116 rfl rfl ?_
        refine tr_callV (pc := 117) (rest := [rv a 9]) (ci := 3) dX3_readValue_117 ml_X3_88 cv_X3_takeName rfl rfl (Nat.le_of_ble_eq_true rfl) (hS.1 9 (6, 9) rfl) rfl (by decide) (c_takeName hS hv hQ1) ?_
        rintro _ _ h2 ⟨y2, i2, rfl, hy2, rfl, hQ2, hG2, hY2⟩
        have hD2 := hD1.rg hG2
        have hF2 : Fr [9, 10, 13] h  h2 := hF1.trans (hG2.1.mono (by decide))
        have hE2 := (hG2.1 13 (by decide)).trans hE1
        show T a 3 mX3_readValue 120 [(2, .int (ck (kd tx (pl tx i0)))), (0, rv a 9), (1, .int (nI m))] [.int (nI y2), rv a 9] S h2 _
        refine tr_putI (pc := 120) (x := nI y2) dX3_readValue_120 (hS.1 9 (6, 9) rfl) fi_X3_78 rfl rfl rfl ?_
        have hQ3 := cq_put (k := 7) (x := nI y2) hQ2 (by decide)
        have hD3 := hD2.p7 (z := nI y2)
        have hF3 := hF2.hs (o := 9) (f := upd (h2 9) 7 (nI y2)) (by decide)
        have hE3 := (hs_ne (h := h2) (f := upd (h2 9) 7 (nI y2)) (show 13 ≠ 9 by decide)).trans hE2
        generalize hs h2 9 (upd (h2 9) 7 (nI y2)) = h3 at hQ3 hD3 hF3 hE3 ⊢
        refine tr_aload_n (pc := 123) 1 dX3_readValue_123 rfl rfl ?_
        refine tr_getR (pc := 124) (q := 10) dX3_readValue_124 (hS.1 9 (6, 9) rfl) fi_X3_12 rfl (hS.2 9 2 10 rfl) ?_
        refine tr_callV (pc := 127) (rest := []) (ci := 7) dX3_readValue_127 ml_X3_49 cv_X7_ahead rfl rfl (Nat.le_of_ble_eq_true rfl) (hS.1 10 (10, 5) rfl) rfl (by decide) (c_ahead hS hv hQ3.1 hQ3.2.1 hQ3.2.2.1) ?_
        rintro _ _ _ ⟨rfl, rfl, rfl⟩
        show T a 3 mX3_readValue 130 [(2, .int (ck (kd tx (pl tx i0)))), (0, rv a 9), (1, .int (nI m))] [.int (ck (kd tx (pl tx i2)))] S h3 _
        refine tr_bipush (pc := 130) (v := nI 46) dX3_readValue_130 (by decide) ?_
        refine tr_icmp_ne (pc := 132) (tgt := 152) dX3_readValue_132 (by decide) (ck_eq (kd_le hv) (by decide : 46 < 131)) (fun hb132 => ?_) (fun hb132 => ?_)
        · skip
          exact tr_vret (pc := 152) dX3_readValue_152 rfl (⟨rfl, rfl, (1, x, y2, 0), _, _, okl (by decide) (hx) (hy2) (by decide), hD3, hQ3, hF3, fun f hf => (S_er hf).2, by
              intro p hp
              subst hp
              have e := cq_pos hQ0
              subst e
              exact vo_1 hb11 hb32 hnn (fun q hq => by rw [hq] at hQ3; exact cq_pos hQ3) hb132 (hY2 _ rfl) (fun C hC => hC.c hE3)⟩)
        · skip
          refine tr_aload_n (pc := 135) 1 dX3_readValue_135 rfl rfl ?_
          refine tr_iconst (pc := 136) (v := nI 3) dX3_readValue_136 (by decide) ?_
          refine tr_putI (pc := 137) (x := nI 3) dX3_readValue_137 (hS.1 9 (6, 9) rfl) fi_X3_72 rfl rfl rfl ?_
          have hQ4 := cq_put (k := 5) (x := nI 3) hQ3 (by decide)
          have hD4 := hD3.p5 (z := nI 3)
          have hF4 := hF3.hs (o := 9) (f := upd (h3 9) 5 (nI 3)) (by decide)
          have hE4 := (hs_ne (h := h3) (f := upd (h3 9) 5 (nI 3)) (show 13 ≠ 9 by decide)).trans hE3
          generalize hs h3 9 (upd (h3 9) 5 (nI 3)) = h4 at hQ4 hD4 hF4 hE4 ⊢
          refine tr_aload_n (pc := 140) 1 dX3_readValue_140 rfl rfl ?_
          refine tr_bipush (pc := 141) (v := nI 46) dX3_readValue_141 (by decide) ?_
          refine tr_callV (pc := 143) (rest := []) (ci := 3) dX3_readValue_143 ml_X3_57 cv_X3_take rfl rfl (Nat.le_of_ble_eq_true rfl) (hS.1 9 (6, 9) rfl) rfl (by decide) (c_take hS hv hQ4 (w := 46) (by decide) rfl) ?_
          rintro _ _ h5 ⟨rfl, rfl, ⟨i5, hQ5⟩, hG5⟩
          have hD5 := hD4.rg hG5
          have hF5 : Fr [9, 10, 13] h  h5 := hF4.trans (hG5.1.mono (by decide))
          have hE5 := (hG5.1 13 (by decide)).trans hE4
          show T a 3 mX3_readValue 146 [(2, .int (ck (kd tx (pl tx i0)))), (0, rv a 9), (1, .int (nI m))] [] S h5 _
          refine tr_aload_n (pc := 146) 1 dX3_readValue_146 rfl rfl ?_
          refine tr_bipush (pc := 147) (v := nI 102) dX3_readValue_147 (by decide) ?_
          refine tr_callV (pc := 149) (rest := []) (ci := 3) dX3_readValue_149 ml_X3_57 cv_X3_take rfl rfl (Nat.le_of_ble_eq_true rfl) (hS.1 9 (6, 9) rfl) rfl (by decide) (c_take hS hv hQ5 (w := 102) (by decide) rfl) ?_
          rintro _ _ h6 ⟨rfl, rfl, ⟨i6, hQ6⟩, hG6⟩
          have hD6 := hD5.rg hG6
          have hF6 : Fr [9, 10, 13] h  h6 := hF5.trans (hG6.1.mono (by decide))
          have hE6 := (hG6.1 13 (by decide)).trans hE5
          show T a 3 mX3_readValue 152 [(2, .int (ck (kd tx (pl tx i0)))), (0, rv a 9), (1, .int (nI m))] [] S h6 _
          exact tr_vret (pc := 152) dX3_readValue_152 rfl (⟨rfl, rfl, (3, x, y2, 0), _, _, okl (by decide) (hx) (hy2) (by decide), hD6, hQ6, hF6, fun f hf => by rw [hf]; rfl, by
              intro p hp
              subst hp
              have e := cq_pos hQ0
              subst e
              exact vo_3 hb11 hb32 hnn (fun q hq => by rw [hq] at hQ3; exact cq_pos hQ3) hb132 (hY2 _ rfl) (fun C hC => hC.c hE6)⟩)
      · skip
        refine tr_iload_n (pc := 58) 0 dX3_readValue_58 rfl rfl ?_
        refine tr_bipush (pc := 59) (v := nI 52) dX3_readValue_59 (by decide) ?_
        refine tr_icmp_ge (pc := 61) (tgt := 110) dX3_readValue_61 (by decide) (ck_ge (kd_le hv) (by decide)) (fun hb61 => ?_) (fun hb61 => ?_)
        · skip
          have hnn : ¬ (48 + m < kd tx (pl tx i0) ∧ kd tx (pl tx i0) < 52) := by omega
          refine tr_aload_n (pc := 110) 1 dX3_readValue_110 rfl rfl ?_
          refine tr_iconst (pc := 111) (v := nI 1) dX3_readValue_111 (by decide) ?_
          refine tr_putI (pc := 112) (x := nI 1) dX3_readValue_112 (hS.1 9 (6, 9) rfl) fi_X3_72 rfl rfl rfl ?_
          have hQ1 := cq_put (k := 5) (x := nI 1) hQ0 (by decide)
          have hD1 := hD0.p5 (z := nI 1)
          have hF1 := hF0.hs (o := 9) (f := upd (h 9) 5 (nI 1)) (by decide)
          have hE1 := (hs_ne (h := h) (f := upd (h 9) 5 (nI 1)) (show 13 ≠ 9 by decide)).trans hE0
          generalize hs h 9 (upd (h 9) 5 (nI 1)) = h1 at hQ1 hD1 hF1 hE1 ⊢
          refine tr_aload_n (pc := 115) 1 dX3_readValue_115 rfl rfl ?_
          refine tr_aload_n (pc := 116) 1 dX3_readValue_116 rfl rfl ?_
          refine tr_callV (pc := 117) (rest := [rv a 9]) (ci := 3) dX3_readValue_117 ml_X3_88 cv_X3_takeName rfl rfl (Nat.le_of_ble_eq_true rfl) (hS.1 9 (6, 9) rfl) rfl (by decide) (c_takeName hS hv hQ1) ?_
          rintro _ _ h2 ⟨y2, i2, rfl, hy2, rfl, hQ2, hG2, hY2⟩
          have hD2 := hD1.rg hG2
          have hF2 : Fr [9, 10, 13] h  h2 := hF1.trans (hG2.1.mono (by decide))
          have hE2 := (hG2.1 13 (by decide)).trans hE1
          show T a 3 mX3_readValue 120 [(2, .int (ck (kd tx (pl tx i0)))), (0, rv a 9), (1, .int (nI m))] [.int (nI y2), rv a 9] S h2 _
          refine tr_putI (pc := 120) (x := nI y2) dX3_readValue_120 (hS.1 9 (6, 9) rfl) fi_X3_78 rfl rfl rfl ?_
          have hQ3 := cq_put (k := 7) (x := nI y2) hQ2 (by decide)
          have hD3 := hD2.p7 (z := nI y2)
          have hF3 := hF2.hs (o := 9) (f := upd (h2 9) 7 (nI y2)) (by decide)
          have hE3 := (hs_ne (h := h2) (f := upd (h2 9) 7 (nI y2)) (show 13 ≠ 9 by decide)).trans hE2
          generalize hs h2 9 (upd (h2 9) 7 (nI y2)) = h3 at hQ3 hD3 hF3 hE3 ⊢
          refine tr_aload_n (pc := 123) 1 dX3_readValue_123 rfl rfl ?_
          refine tr_getR (pc := 124) (q := 10) dX3_readValue_124 (hS.1 9 (6, 9) rfl) fi_X3_12 rfl (hS.2 9 2 10 rfl) ?_
          refine tr_callV (pc := 127) (rest := []) (ci := 7) dX3_readValue_127 ml_X3_49 cv_X7_ahead rfl rfl (Nat.le_of_ble_eq_true rfl) (hS.1 10 (10, 5) rfl) rfl (by decide) (c_ahead hS hv hQ3.1 hQ3.2.1 hQ3.2.2.1) ?_
          rintro _ _ _ ⟨rfl, rfl, rfl⟩
          show T a 3 mX3_readValue 130 [(2, .int (ck (kd tx (pl tx i0)))), (0, rv a 9), (1, .int (nI m))] [.int (ck (kd tx (pl tx i2)))] S h3 _
          refine tr_bipush (pc := 130) (v := nI 46) dX3_readValue_130 (by decide) ?_
          refine tr_icmp_ne (pc := 132) (tgt := 152) dX3_readValue_132 (by decide) (ck_eq (kd_le hv) (by decide : 46 < 131)) (fun hb132 => ?_) (fun hb132 => ?_)
          · skip
            exact tr_vret (pc := 152) dX3_readValue_152 rfl (⟨rfl, rfl, (1, x, y2, 0), _, _, okl (by decide) (hx) (hy2) (by decide), hD3, hQ3, hF3, fun f hf => (S_er hf).2, by
                intro p hp
                subst hp
                have e := cq_pos hQ0
                subst e
                exact vo_1 hb11 hb32 hnn (fun q hq => by rw [hq] at hQ3; exact cq_pos hQ3) hb132 (hY2 _ rfl) (fun C hC => hC.c hE3)⟩)
          · skip
            refine tr_aload_n (pc := 135) 1 dX3_readValue_135 rfl rfl ?_
            refine tr_iconst (pc := 136) (v := nI 3) dX3_readValue_136 (by decide) ?_
            refine tr_putI (pc := 137) (x := nI 3) dX3_readValue_137 (hS.1 9 (6, 9) rfl) fi_X3_72 rfl rfl rfl ?_
            have hQ4 := cq_put (k := 5) (x := nI 3) hQ3 (by decide)
            have hD4 := hD3.p5 (z := nI 3)
            have hF4 := hF3.hs (o := 9) (f := upd (h3 9) 5 (nI 3)) (by decide)
            have hE4 := (hs_ne (h := h3) (f := upd (h3 9) 5 (nI 3)) (show 13 ≠ 9 by decide)).trans hE3
            generalize hs h3 9 (upd (h3 9) 5 (nI 3)) = h4 at hQ4 hD4 hF4 hE4 ⊢
            refine tr_aload_n (pc := 140) 1 dX3_readValue_140 rfl rfl ?_
            refine tr_bipush (pc := 141) (v := nI 46) dX3_readValue_141 (by decide) ?_
            refine tr_callV (pc := 143) (rest := []) (ci := 3) dX3_readValue_143 ml_X3_57 cv_X3_take rfl rfl (Nat.le_of_ble_eq_true rfl) (hS.1 9 (6, 9) rfl) rfl (by decide) (c_take hS hv hQ4 (w := 46) (by decide) rfl) ?_
            rintro _ _ h5 ⟨rfl, rfl, ⟨i5, hQ5⟩, hG5⟩
            have hD5 := hD4.rg hG5
            have hF5 : Fr [9, 10, 13] h  h5 := hF4.trans (hG5.1.mono (by decide))
            have hE5 := (hG5.1 13 (by decide)).trans hE4
            show T a 3 mX3_readValue 146 [(2, .int (ck (kd tx (pl tx i0)))), (0, rv a 9), (1, .int (nI m))] [] S h5 _
            refine tr_aload_n (pc := 146) 1 dX3_readValue_146 rfl rfl ?_
            refine tr_bipush (pc := 147) (v := nI 102) dX3_readValue_147 (by decide) ?_
            refine tr_callV (pc := 149) (rest := []) (ci := 3) dX3_readValue_149 ml_X3_57 cv_X3_take rfl rfl (Nat.le_of_ble_eq_true rfl) (hS.1 9 (6, 9) rfl) rfl (by decide) (c_take hS hv hQ5 (w := 102) (by decide) rfl) ?_
            rintro _ _ h6 ⟨rfl, rfl, ⟨i6, hQ6⟩, hG6⟩
            have hD6 := hD5.rg hG6
            have hF6 : Fr [9, 10, 13] h  h6 := hF5.trans (hG6.1.mono (by decide))
            have hE6 := (hG6.1 13 (by decide)).trans hE5
            show T a 3 mX3_readValue 152 [(2, .int (ck (kd tx (pl tx i0)))), (0, rv a 9), (1, .int (nI m))] [] S h6 _
            exact tr_vret (pc := 152) dX3_readValue_152 rfl (⟨rfl, rfl, (3, x, y2, 0), _, _, okl (by decide) (hx) (hy2) (by decide), hD6, hQ6, hF6, fun f hf => by rw [hf]; rfl, by
                intro p hp
                subst hp
                have e := cq_pos hQ0
                subst e
                exact vo_3 hb11 hb32 hnn (fun q hq => by rw [hq] at hQ3; exact cq_pos hQ3) hb132 (hY2 _ rfl) (fun C hC => hC.c hE6)⟩)
        · skip
          have hck : ck (kd tx (pl tx i0)) = nI (kd tx (pl tx i0)) := ck_n (by omega)
          have hk1 : kd tx (pl tx i0) - 48 < 4 := by omega
          refine tr_aload_n (pc := 64) 1 dX3_readValue_64 rfl rfl ?_
          refine tr_bipush (pc := 65) (v := nI 7) dX3_readValue_65 (by decide) ?_
          refine tr_putI (pc := 67) (x := nI 7) dX3_readValue_67 (hS.1 9 (6, 9) rfl) fi_X3_72 rfl rfl rfl ?_
          have hQ1 := cq_put (k := 5) (x := nI 7) hQ0 (by decide)
          have hD1 := hD0.p5 (z := nI 7)
          have hF1 := hF0.hs (o := 9) (f := upd (h 9) 5 (nI 7)) (by decide)
          have hE1 := (hs_ne (h := h) (f := upd (h 9) 5 (nI 7)) (show 13 ≠ 9 by decide)).trans hE0
          generalize hs h 9 (upd (h 9) 5 (nI 7)) = h1 at hQ1 hD1 hF1 hE1 ⊢
          refine tr_aload_n (pc := 70) 1 dX3_readValue_70 rfl rfl ?_
          refine tr_iload_n (pc := 71) 0 dX3_readValue_71 rfl rfl ?_
          refine tr_bipush (pc := 72) (v := nI 48) dX3_readValue_72 (by decide) ?_
          refine tr_isub (pc := 74) (v := nI (kd tx (pl tx i0) - 48)) dX3_readValue_74 (by rw [hck]; exact pk_sub (by omega)) ?_
          refine tr_putI (pc := 75) (x := nI (kd tx (pl tx i0) - 48)) dX3_readValue_75 (hS.1 9 (6, 9) rfl) fi_X3_81 rfl rfl rfl ?_
          have hQ2 := cq_put (k := 8) (x := nI (kd tx (pl tx i0) - 48)) hQ1 (by decide)
          have hD2 := hD1.p8 (z := nI (kd tx (pl tx i0) - 48))
          have hF2 := hF1.hs (o := 9) (f := upd (h1 9) 8 (nI (kd tx (pl tx i0) - 48))) (by decide)
          have hE2 := (hs_ne (h := h1) (f := upd (h1 9) 8 (nI (kd tx (pl tx i0) - 48))) (show 13 ≠ 9 by decide)).trans hE1
          generalize hs h1 9 (upd (h1 9) 8 (nI (kd tx (pl tx i0) - 48))) = h2 at hQ2 hD2 hF2 hE2 ⊢
          refine tr_aload_n (pc := 78) 1 dX3_readValue_78 rfl rfl ?_
          refine tr_callV (pc := 79) (rest := []) (ci := 3) dX3_readValue_79 ml_X3_97 cv_X3_noteCall rfl rfl (Nat.le_of_ble_eq_true rfl) (hS.1 9 (6, 9) rfl) rfl (by decide) (c_noteCall hS hv hQ2 hk1 hD2.2.2.2) ?_
          rintro _ _ h3 ⟨rfl, rfl, hF23, hC3⟩
          have hQ3 := cq_13 hQ2 (hF23.mono (by decide))
          have hD3 := hD2.f13 (hF23.mono (by decide))
          have hF3 : Fr [9, 10, 13] h h3 := hF2.trans (hF23.mono (by decide))
          have hE3 : h3 13 = h3 13 := rfl
          show T a 3 mX3_readValue 82 [(2, .int (ck (kd tx (pl tx i0)))), (0, rv a 9), (1, .int (nI m))] [] S h3 _
          refine tr_aload_n (pc := 82) 1 dX3_readValue_82 rfl rfl ?_
          refine tr_iload_n (pc := 83) 0 dX3_readValue_83 rfl rfl ?_
          refine tr_callV (pc := 84) (rest := []) (ci := 3) dX3_readValue_84 ml_X3_57 cv_X3_take rfl rfl (Nat.le_of_ble_eq_true rfl) (hS.1 9 (6, 9) rfl) rfl (by decide) (c_take hS hv hQ3 (w := kd tx (pl tx i0)) (kd_le hv) rfl) ?_
          rintro _ _ h4 ⟨rfl, rfl, ⟨i4, hQ4⟩, hG4⟩
          have hD4 := hD3.rg hG4
          have hF4 : Fr [9, 10, 13] h  h4 := hF3.trans (hG4.1.mono (by decide))
          have hE4 := (hG4.1 13 (by decide)).trans hE3
          show T a 3 mX3_readValue 87 [(2, .int (ck (kd tx (pl tx i0)))), (0, rv a 9), (1, .int (nI m))] [] S h4 _
          refine tr_aload_n (pc := 87) 1 dX3_readValue_87 rfl rfl ?_
          refine tr_bipush (pc := 88) (v := nI 40) dX3_readValue_88 (by decide) ?_
          refine tr_callV (pc := 90) (rest := []) (ci := 3) dX3_readValue_90 ml_X3_57 cv_X3_take rfl rfl (Nat.le_of_ble_eq_true rfl) (hS.1 9 (6, 9) rfl) rfl (by decide) (c_take hS hv hQ4 (w := 40) (by decide) rfl) ?_
          rintro _ _ h5 ⟨rfl, rfl, ⟨i5, hQ5⟩, hG5⟩
          have hD5 := hD4.rg hG5
          have hF5 : Fr [9, 10, 13] h  h5 := hF4.trans (hG5.1.mono (by decide))
          have hE5 := (hG5.1 13 (by decide)).trans hE4
          show T a 3 mX3_readValue 93 [(2, .int (ck (kd tx (pl tx i0)))), (0, rv a 9), (1, .int (nI m))] [] S h5 _
          refine tr_aload_n (pc := 93) 1 dX3_readValue_93 rfl rfl ?_
          refine tr_aload_n (pc := 94) 1 dX3_readValue_94 rfl rfl ?_
          refine tr_callV (pc := 95) (rest := [rv a 9]) (ci := 3) dX3_readValue_95 ml_X3_88 cv_X3_takeName rfl rfl (Nat.le_of_ble_eq_true rfl) (hS.1 9 (6, 9) rfl) rfl (by decide) (c_takeName hS hv hQ5) ?_
          rintro _ _ h6 ⟨y6, i6, rfl, hy6, rfl, hQ6, hG6, hY6⟩
          have hD6 := hD5.rg hG6
          have hF6 : Fr [9, 10, 13] h  h6 := hF5.trans (hG6.1.mono (by decide))
          have hE6 := (hG6.1 13 (by decide)).trans hE5
          show T a 3 mX3_readValue 98 [(2, .int (ck (kd tx (pl tx i0)))), (0, rv a 9), (1, .int (nI m))] [.int (nI y6), rv a 9] S h6 _
          refine tr_putI (pc := 98) (x := nI y6) dX3_readValue_98 (hS.1 9 (6, 9) rfl) fi_X3_78 rfl rfl rfl ?_
          have hQ7 := cq_put (k := 7) (x := nI y6) hQ6 (by decide)
          have hD7 := hD6.p7 (z := nI y6)
          have hF7 := hF6.hs (o := 9) (f := upd (h6 9) 7 (nI y6)) (by decide)
          have hE7 := (hs_ne (h := h6) (f := upd (h6 9) 7 (nI y6)) (show 13 ≠ 9 by decide)).trans hE6
          generalize hs h6 9 (upd (h6 9) 7 (nI y6)) = h7 at hQ7 hD7 hF7 hE7 ⊢
          refine tr_aload_n (pc := 101) 1 dX3_readValue_101 rfl rfl ?_
          refine tr_bipush (pc := 102) (v := nI 41) dX3_readValue_102 (by decide) ?_
          refine tr_callV (pc := 104) (rest := []) (ci := 3) dX3_readValue_104 ml_X3_57 cv_X3_take rfl rfl (Nat.le_of_ble_eq_true rfl) (hS.1 9 (6, 9) rfl) rfl (by decide) (c_take hS hv hQ7 (w := 41) (by decide) rfl) ?_
          rintro _ _ h8 ⟨rfl, rfl, ⟨i8, hQ8⟩, hG8⟩
          have hD8 := hD7.rg hG8
          have hF8 : Fr [9, 10, 13] h  h8 := hF7.trans (hG8.1.mono (by decide))
          have hE8 := (hG8.1 13 (by decide)).trans hE7
          show T a 3 mX3_readValue 107 [(2, .int (ck (kd tx (pl tx i0)))), (0, rv a 9), (1, .int (nI m))] [] S h8 _
          refine tr_goto (pc := 107) (tgt := 152) dX3_readValue_107 (by decide) ?_
          exact tr_vret (pc := 152) dX3_readValue_152 rfl (⟨rfl, rfl, (7, x, y6, kd tx (pl tx i0) - 48), _, _, okl (by decide) (hx) (hy6) (hk1), hD8, hQ8, hF8, fun f hf => by rw [hf]; rfl, by
              intro p hp
              subst hp
              have e := cq_pos hQ0
              subst e
              exact vo_C ⟨by omega, by omega⟩ hY6 (fun C hC => (hC3 C (hC.c hE2)).c hE8)⟩)
    · skip
      refine tr_aload_n (pc := 35) 1 dX3_readValue_35 rfl rfl ?_
      refine tr_iconst (pc := 36) (v := nI 0) dX3_readValue_36 (by decide) ?_
      refine tr_putI (pc := 37) (x := nI 0) dX3_readValue_37 (hS.1 9 (6, 9) rfl) fi_X3_72 rfl rfl rfl ?_
      have hQ1 := cq_put (k := 5) (x := nI 0) hQ0 (by decide)
      have hD1 := hD0.p5 (z := nI 0)
      have hF1 := hF0.hs (o := 9) (f := upd (h 9) 5 (nI 0)) (by decide)
      have hE1 := (hs_ne (h := h) (f := upd (h 9) 5 (nI 0)) (show 13 ≠ 9 by decide)).trans hE0
      generalize hs h 9 (upd (h 9) 5 (nI 0)) = h1 at hQ1 hD1 hF1 hE1 ⊢
      refine tr_aload_n (pc := 40) 1 dX3_readValue_40 rfl rfl ?_
      refine tr_sipush (pc := 41) (v := nI 128) dX3_readValue_41 (by decide) ?_
      refine tr_callV (pc := 44) (rest := []) (ci := 3) dX3_readValue_44 ml_X3_57 cv_X3_take rfl rfl (Nat.le_of_ble_eq_true rfl) (hS.1 9 (6, 9) rfl) rfl (by decide) (c_take hS hv hQ1 (w := 128) (by decide) rfl) ?_
      rintro _ _ h2 ⟨rfl, rfl, ⟨i2, hQ2⟩, hG2⟩
      have hD2 := hD1.rg hG2
      have hF2 : Fr [9, 10, 13] h  h2 := hF1.trans (hG2.1.mono (by decide))
      have hE2 := (hG2.1 13 (by decide)).trans hE1
      show T a 3 mX3_readValue 47 [(2, .int (ck (kd tx (pl tx i0)))), (0, rv a 9), (1, .int (nI m))] [] S h2 _
      refine tr_goto (pc := 47) (tgt := 152) dX3_readValue_47 (by decide) ?_
      exact tr_vret (pc := 152) dX3_readValue_152 rfl (⟨rfl, rfl, (0, x, 0, 0), _, _, okl (by decide) (hx) (by decide) (by decide), hD2, hQ2, hF2, fun f hf => (S_er hf).1 _, by
          intro p hp
          subst hp
          have e := cq_pos hQ0
          subst e
          exact vo_N hb32 (fun C hC => hC.c hE2)⟩)
  · skip
    refine tr_aload_n (pc := 14) 1 dX3_readValue_14 rfl rfl ?_
    refine tr_iconst (pc := 15) (v := nI 5) dX3_readValue_15 (by decide) ?_
    refine tr_putI (pc := 16) (x := nI 5) dX3_readValue_16 (hS.1 9 (6, 9) rfl) fi_X3_72 rfl rfl rfl ?_
    have hQ1 := cq_put (k := 5) (x := nI 5) hQ0 (by decide)
    have hD1 := hD0.p5 (z := nI 5)
    have hF1 := hF0.hs (o := 9) (f := upd (h 9) 5 (nI 5)) (by decide)
    have hE1 := (hs_ne (h := h) (f := upd (h 9) 5 (nI 5)) (show 13 ≠ 9 by decide)).trans hE0
    generalize hs h 9 (upd (h 9) 5 (nI 5)) = h1 at hQ1 hD1 hF1 hE1 ⊢
    refine tr_aload_n (pc := 19) 1 dX3_readValue_19 rfl rfl ?_
    refine tr_bipush (pc := 20) (v := nI 71) dX3_readValue_20 (by decide) ?_
    refine tr_callV (pc := 22) (rest := []) (ci := 3) dX3_readValue_22 ml_X3_57 cv_X3_take rfl rfl (Nat.le_of_ble_eq_true rfl) (hS.1 9 (6, 9) rfl) rfl (by decide) (c_take hS hv hQ1 (w := 71) (by decide) rfl) ?_
    rintro _ _ h2 ⟨rfl, rfl, ⟨i2, hQ2⟩, hG2⟩
    have hD2 := hD1.rg hG2
    have hF2 : Fr [9, 10, 13] h  h2 := hF1.trans (hG2.1.mono (by decide))
    have hE2 := (hG2.1 13 (by decide)).trans hE1
    show T a 3 mX3_readValue 25 [(2, .int (ck (kd tx (pl tx i0)))), (0, rv a 9), (1, .int (nI m))] [] S h2 _
    refine tr_goto (pc := 25) (tgt := 152) dX3_readValue_25 (by decide) ?_
    exact tr_vret (pc := 152) dX3_readValue_152 rfl (⟨rfl, rfl, (5, x, 0, 0), _, _, okl (by decide) (hx) (by decide) (by decide), hD2, hQ2, hF2, fun f hf => (S_er hf).1 _, by
        intro p hp
        subst hp
        have e := cq_pos hQ0
        subst e
        exact vo_G hb11 (fun C hC => hC.c hE2)⟩)

def lO (tx : List Nat) (m p : Nat) (l : Ln) (σ' : Except Nat Nat) (h h' : Hp) : Prop := match rLine tx m p with
  | .error e => σ' = .error e
  | .ok z => σ' = .ok z.2 ∧ l = z.1 ∧ ∀ C, FCl h C → FCl h' (addC tx z.1 p C)
theorem lo_G {tx : List Nat} {m p x : Nat} {h h' : Hp} (hk : kd tx p = 71) (hx : ∀ q, tkS tx 61 (tkS tx 71 (.ok p)) = .ok q → nm (kd tx q) < 4 → x = nm (kd tx q)) (hC : ∀ C, FCl h C → FCl h' C) : lO tx m p (4, x, 0, 0) (nmS tx (tkS tx 61 (tkS tx 71 (.ok p)))) h h' := by
  unfold lO rLine
  rw [if_pos hk]
  rw [tkS_y hk] at hx ⊢
  by_cases h1 : kd tx (Nx tx p) = 61
  · rw [if_pos h1]
    rw [tkS_y h1] at hx ⊢
    by_cases h2 : nm (kd tx (Nx tx (Nx tx p))) < 4
    · rw [if_pos h2, nmS_y h2]
      exact ⟨rfl, by rw [hx _ rfl h2], hC⟩
    · rw [if_neg h2, nmS_n h2]
  · rw [if_neg h1, tkS_n h1, nmS_e]
theorem lo_L {tx : List Nat} {m p x : Nat} {h h' : Hp} (hk : kd tx p = 129) (hx : ∀ q, tkS tx 129 (.ok p) = .ok q → nm (kd tx q) < 4 → x = nm (kd tx q)) (hC : ∀ C, FCl h C → FCl h' C) : lO tx m p (6, x, 0, 0) (nmS tx (tkS tx 129 (.ok p))) h h' := by
  unfold lO rLine
  rw [if_neg (by omega), if_pos hk]
  rw [tkS_y hk] at hx ⊢
  by_cases h2 : nm (kd tx (Nx tx p)) < 4
  · rw [if_pos h2, nmS_y h2]
    exact ⟨rfl, by rw [hx _ rfl h2], hC⟩
  · rw [if_neg h2, nmS_n h2]
theorem lo_P {tx : List Nat} {m p x y r : Nat} {h h' : Hp} (h1 : kd tx p ≠ 71) (h2 : kd tx p ≠ 129) (hr : ∀ q, nmS tx (.ok p) = .ok q → q = r) (h4 : kd tx r = 46) (hx : nm (kd tx p) < 4 → x = nm (kd tx p)) (hy : ∀ q, tkS tx 61 (tkS tx 102 (tkS tx 46 (nmS tx (.ok p)))) = .ok q → nm (kd tx q) < 4 → y = nm (kd tx q)) (hC : ∀ C, FCl h C → FCl h' C) : lO tx m p (2, x, y, 0) (nmS tx (tkS tx 61 (tkS tx 102 (tkS tx 46 (nmS tx (.ok p)))))) h h' := by
  unfold lO rLine
  rw [if_neg h1, if_neg h2]
  by_cases k : nm (kd tx p) < 4
  · rw [nmS_y k] at hr hy ⊢
    have e := hr _ rfl
    rw [← e] at h4
    rw [if_pos k, if_pos h4]
    rw [tkS_y h4] at hy ⊢
    by_cases h5 : kd tx (Nx tx (Nx tx p)) = 102
    · rw [if_pos h5]
      rw [tkS_y h5] at hy ⊢
      by_cases h6 : kd tx (Nx tx (Nx tx (Nx tx p))) = 61
      · rw [if_pos h6]
        rw [tkS_y h6] at hy ⊢
        by_cases h7 : nm (kd tx (Nx tx (Nx tx (Nx tx (Nx tx p))))) < 4
        · rw [if_pos h7, nmS_y h7]
          exact ⟨rfl, by rw [hx k, hy _ rfl h7], hC⟩
        · rw [if_neg h7, nmS_n h7]
      · rw [if_neg h6, tkS_n h6, nmS_e]
    · rw [if_neg h5, tkS_n h5, tkS_e, nmS_e]
  · rw [if_neg k, nmS_n k, tkS_e, tkS_e, tkS_e, nmS_e]
theorem lo_V {tx : List Nat} {m p x r : Nat} {l : Ln} {σ' : Except Nat Nat} {h h1 h' : Hp} (h1' : kd tx p ≠ 71) (h2 : kd tx p ≠ 129) (hr : ∀ q, nmS tx (.ok p) = .ok q → q = r) (h4 : kd tx r ≠ 46) (hx : nm (kd tx p) < 4 → x = nm (kd tx p)) (he : ∀ f, tkS tx 61 (nmS tx (.ok p)) = .error f → σ' = .error f) (hV : ∀ q, tkS tx 61 (nmS tx (.ok p)) = .ok q → vO tx m x q l σ' h1 h') (hC : ∀ C, FCl h C → FCl h1 C) : lO tx m p l σ' h h' := by
  unfold lO rLine
  rw [if_neg h1', if_neg h2]
  by_cases k : nm (kd tx p) < 4
  · rw [nmS_y k] at hr he hV
    have e := hr _ rfl
    rw [← e] at h4
    rw [if_pos k, if_neg h4]
    by_cases h5 : kd tx (Nx tx p) = 61
    · rw [if_pos h5]
      rw [tkS_y h5] at hV
      have q := hV _ rfl
      rw [hx k] at q
      unfold vO at q
      cases hz : rVal tx m (nm (kd tx p)) (Nx tx (Nx tx p)) with
      | error f => rw [hz] at q; exact q
      | ok z =>
        rw [hz] at q
        exact ⟨q.1, q.2.1, fun C c => q.2.2 C (hC C c)⟩
    · rw [if_neg h5]
      rw [tkS_n h5] at he
      exact he _ rfl
  · rw [if_neg k]
    rw [nmS_n k, tkS_e] at he
    exact he _ rfl
set_option maxHeartbeats 4000000 in
set_option maxRecDepth 100000 in
theorem c_readPut {a : Am} {S : St} {h : Hp} (hS : IsSt S) {tx : List Nat} (hv : TV tx) {n i0 : Nat} {σ : Except Nat Nat} (hQ0 : CQ h tx n i0 σ) {s x y c : Int32} (hD0 : FD h s x y c) : CT a 3 mX3_readPut [rv a 9] S h (fun v S' h' => v = none ∧ S = S' ∧ ∃ z i', z < 4 ∧ FD h' (nI 2) x (nI z) c ∧ CQ h' tx n i' (nmS tx (tkS tx 61 (tkS tx 102 (tkS tx 46 σ)))) ∧ Fr [9, 10, 13] h h' ∧ h' 13 = h 13 ∧ ∀ q, tkS tx 61 (tkS tx 102 (tkS tx 46 σ)) = .ok q → nm (kd tx q) < 4 → z = nm (kd tx q)) := by
  have hF0 : Fr [9, 10, 13] h h := Fr.rf
  have hE0 : h 13 = h 13 := rfl
  refine met_of (by decide +kernel) (Nat.le_of_ble_eq_true rfl) ?_
  show T a 3 mX3_readPut 0 [(0, rv a 9)] [] S h _
  refine tr_aload_n (pc := 0) 0 dX3_readPut_0 rfl rfl ?_
  refine tr_iconst (pc := 1) (v := nI 2) dX3_readPut_1 (by decide) ?_
  refine tr_putI (pc := 2) (x := nI 2) dX3_readPut_2 (hS.1 9 (6, 9) rfl) fi_X3_72 rfl rfl rfl ?_
  have hQ1 := cq_put (k := 5) (x := nI 2) hQ0 (by decide)
  have hD1 := hD0.p5 (z := nI 2)
  have hF1 := hF0.hs (o := 9) (f := upd (h 9) 5 (nI 2)) (by decide)
  have hE1 := (hs_ne (h := h) (f := upd (h 9) 5 (nI 2)) (show 13 ≠ 9 by decide)).trans hE0
  generalize hs h 9 (upd (h 9) 5 (nI 2)) = h1 at hQ1 hD1 hF1 hE1 ⊢
  refine tr_aload_n (pc := 5) 0 dX3_readPut_5 rfl rfl ?_
  refine tr_bipush (pc := 6) (v := nI 46) dX3_readPut_6 (by decide) ?_
  refine tr_callV (pc := 8) (rest := []) (ci := 3) dX3_readPut_8 ml_X3_57 cv_X3_take rfl rfl (Nat.le_of_ble_eq_true rfl) (hS.1 9 (6, 9) rfl) rfl (by decide) (c_take hS hv hQ1 (w := 46) (by decide) rfl) ?_
  rintro _ _ h2 ⟨rfl, rfl, ⟨i2, hQ2⟩, hG2⟩
  have hD2 := hD1.rg hG2
  have hF2 : Fr [9, 10, 13] h  h2 := hF1.trans (hG2.1.mono (by decide))
  have hE2 := (hG2.1 13 (by decide)).trans hE1
  show T a 3 mX3_readPut 11 [(0, rv a 9)] [] S h2 _
  refine tr_aload_n (pc := 11) 0 dX3_readPut_11 rfl rfl ?_
  refine tr_bipush (pc := 12) (v := nI 102) dX3_readPut_12 (by decide) ?_
  refine tr_callV (pc := 14) (rest := []) (ci := 3) dX3_readPut_14 ml_X3_57 cv_X3_take rfl rfl (Nat.le_of_ble_eq_true rfl) (hS.1 9 (6, 9) rfl) rfl (by decide) (c_take hS hv hQ2 (w := 102) (by decide) rfl) ?_
  rintro _ _ h3 ⟨rfl, rfl, ⟨i3, hQ3⟩, hG3⟩
  have hD3 := hD2.rg hG3
  have hF3 : Fr [9, 10, 13] h  h3 := hF2.trans (hG3.1.mono (by decide))
  have hE3 := (hG3.1 13 (by decide)).trans hE2
  show T a 3 mX3_readPut 17 [(0, rv a 9)] [] S h3 _
  refine tr_aload_n (pc := 17) 0 dX3_readPut_17 rfl rfl ?_
  refine tr_bipush (pc := 18) (v := nI 61) dX3_readPut_18 (by decide) ?_
  refine tr_callV (pc := 20) (rest := []) (ci := 3) dX3_readPut_20 ml_X3_57 cv_X3_take rfl rfl (Nat.le_of_ble_eq_true rfl) (hS.1 9 (6, 9) rfl) rfl (by decide) (c_take hS hv hQ3 (w := 61) (by decide) rfl) ?_
  rintro _ _ h4 ⟨rfl, rfl, ⟨i4, hQ4⟩, hG4⟩
  have hD4 := hD3.rg hG4
  have hF4 : Fr [9, 10, 13] h  h4 := hF3.trans (hG4.1.mono (by decide))
  have hE4 := (hG4.1 13 (by decide)).trans hE3
  show T a 3 mX3_readPut 23 [(0, rv a 9)] [] S h4 _
  refine tr_aload_n (pc := 23) 0 dX3_readPut_23 rfl rfl ?_
  refine tr_aload_n (pc := 24) 0 dX3_readPut_24 rfl rfl ?_
  refine tr_callV (pc := 25) (rest := [rv a 9]) (ci := 3) dX3_readPut_25 ml_X3_88 cv_X3_takeName rfl rfl (Nat.le_of_ble_eq_true rfl) (hS.1 9 (6, 9) rfl) rfl (by decide) (c_takeName hS hv hQ4) ?_
  rintro _ _ h5 ⟨y5, i5, rfl, hy5, rfl, hQ5, hG5, hY5⟩
  have hD5 := hD4.rg hG5
  have hF5 : Fr [9, 10, 13] h  h5 := hF4.trans (hG5.1.mono (by decide))
  have hE5 := (hG5.1 13 (by decide)).trans hE4
  show T a 3 mX3_readPut 28 [(0, rv a 9)] [.int (nI y5), rv a 9] S h5 _
  refine tr_putI (pc := 28) (x := nI y5) dX3_readPut_28 (hS.1 9 (6, 9) rfl) fi_X3_78 rfl rfl rfl ?_
  have hQ6 := cq_put (k := 7) (x := nI y5) hQ5 (by decide)
  have hD6 := hD5.p7 (z := nI y5)
  have hF6 := hF5.hs (o := 9) (f := upd (h5 9) 7 (nI y5)) (by decide)
  have hE6 := (hs_ne (h := h5) (f := upd (h5 9) 7 (nI y5)) (show 13 ≠ 9 by decide)).trans hE5
  generalize hs h5 9 (upd (h5 9) 7 (nI y5)) = h6 at hQ6 hD6 hF6 hE6 ⊢
  exact tr_vret (pc := 31) dX3_readPut_31 rfl (⟨rfl, rfl, y5, i5, hy5, hD6, hQ6, hF6, hE6, hY5⟩)

set_option maxHeartbeats 4000000 in
set_option maxRecDepth 100000 in
theorem c_readLine {a : Am} {S : St} {h : Hp} (hS : IsSt S) {tx : List Nat} (hv : TV tx) {n i0 : Nat} {p : Nat} (hQ0 : CQ h tx n i0 (.ok p)) {m : Nat} (hm : m < 4) : CT a 4 mX3_readLine [rv a 9, .int (nI m)] S h (fun v S' h' => v = none ∧ S = S' ∧ ∃ l i' σ', okL l ∧ FD h' (nI l.1) (nI l.2.1) (nI l.2.2.1) (nI l.2.2.2) ∧ CQ h' tx n i' σ' ∧ Fr [9, 10, 13] h h' ∧ lO tx m p l σ' h h') := by
  have hF0 : Fr [9, 10, 13] h h := Fr.rf
  have hE0 : h 13 = h 13 := rfl
  have hD0 : FD h (h 9 5) (h 9 6) (h 9 7) (h 9 8) := ⟨rfl, rfl, rfl, rfl⟩
  refine met_of (by decide +kernel) (Nat.le_of_ble_eq_true rfl) ?_
  show T a 4 mX3_readLine 0 [(0, rv a 9), (1, .int (nI m))] [] S h _
  refine tr_aload_n (pc := 0) 0 dX3_readLine_0 rfl rfl ?_
  refine tr_iconst (pc := 1) (v := nI 0) dX3_readLine_1 (by decide) ?_
  refine tr_putI (pc := 2) (x := nI 0) dX3_readLine_2 (hS.1 9 (6, 9) rfl) fi_X3_78 rfl rfl rfl ?_
  have hQ1 := cq_put (k := 7) (x := nI 0) hQ0 (by decide)
  have hD1 := hD0.p7 (z := nI 0)
  have hF1 := hF0.hs (o := 9) (f := upd (h 9) 7 (nI 0)) (by decide)
  have hE1 := (hs_ne (h := h) (f := upd (h 9) 7 (nI 0)) (show 13 ≠ 9 by decide)).trans hE0
  generalize hs h 9 (upd (h 9) 7 (nI 0)) = h1 at hQ1 hD1 hF1 hE1 ⊢
  refine tr_aload_n (pc := 5) 0 dX3_readLine_5 rfl rfl ?_
  refine tr_iconst (pc := 6) (v := nI 0) dX3_readLine_6 (by decide) ?_
  refine tr_putI (pc := 7) (x := nI 0) dX3_readLine_7 (hS.1 9 (6, 9) rfl) fi_X3_81 rfl rfl rfl ?_
  have hQ2 := cq_put (k := 8) (x := nI 0) hQ1 (by decide)
  have hD2 := hD1.p8 (z := nI 0)
  have hF2 := hF1.hs (o := 9) (f := upd (h1 9) 8 (nI 0)) (by decide)
  have hE2 := (hs_ne (h := h1) (f := upd (h1 9) 8 (nI 0)) (show 13 ≠ 9 by decide)).trans hE1
  generalize hs h1 9 (upd (h1 9) 8 (nI 0)) = h2 at hQ2 hD2 hF2 hE2 ⊢
  refine tr_aload_n (pc := 10) 0 dX3_readLine_10 rfl rfl ?_
  refine tr_getR (pc := 11) (q := 10) dX3_readLine_11 (hS.1 9 (6, 9) rfl) fi_X3_12 rfl (hS.2 9 2 10 rfl) ?_
  refine tr_callV (pc := 14) (rest := []) (ci := 7) dX3_readLine_14 ml_X3_49 cv_X7_ahead rfl rfl (Nat.le_of_ble_eq_true rfl) (hS.1 10 (10, 5) rfl) rfl (by decide) (c_ahead hS hv hQ2.1 hQ2.2.1 hQ2.2.2.1) ?_
  rintro _ _ _ ⟨rfl, rfl, rfl⟩
  show T a 4 mX3_readLine 17 [(0, rv a 9), (1, .int (nI m))] [.int (ck (kd tx (pl tx i0)))] S h2 _
  refine tr_bipush (pc := 17) (v := nI 71) dX3_readLine_17 (by decide) ?_
  refine tr_icmp_ne (pc := 19) (tgt := 50) dX3_readLine_19 (by decide) (ck_eq (kd_le hv) (by decide : 71 < 131)) (fun hb19 => ?_) (fun hb19 => ?_)
  · skip
    refine tr_aload_n (pc := 50) 0 dX3_readLine_50 rfl rfl ?_
    refine tr_getR (pc := 51) (q := 10) dX3_readLine_51 (hS.1 9 (6, 9) rfl) fi_X3_12 rfl (hS.2 9 2 10 rfl) ?_
    refine tr_callV (pc := 54) (rest := []) (ci := 7) dX3_readLine_54 ml_X3_49 cv_X7_ahead rfl rfl (Nat.le_of_ble_eq_true rfl) (hS.1 10 (10, 5) rfl) rfl (by decide) (c_ahead hS hv hQ2.1 hQ2.2.1 hQ2.2.2.1) ?_
    rintro _ _ _ ⟨rfl, rfl, rfl⟩
    show T a 4 mX3_readLine 57 [(0, rv a 9), (1, .int (nI m))] [.int (ck (kd tx (pl tx i0)))] S h2 _
    refine tr_sipush (pc := 57) (v := nI 129) dX3_readLine_57 (by decide) ?_
    refine tr_icmp_ne (pc := 60) (tgt := 87) dX3_readLine_60 (by decide) (ck_eq (kd_le hv) (by decide : 129 < 131)) (fun hb60 => ?_) (fun hb60 => ?_)
    · skip
      refine tr_aload_n (pc := 87) 0 dX3_readLine_87 rfl rfl ?_
      refine tr_aload_n (pc := 88) 0 dX3_readLine_88 rfl rfl ?_
      refine tr_callV (pc := 89) (rest := [rv a 9]) (ci := 3) dX3_readLine_89 ml_X3_88 cv_X3_takeName rfl rfl (Nat.le_of_ble_eq_true rfl) (hS.1 9 (6, 9) rfl) rfl (by decide) (c_takeName hS hv hQ2) ?_
      rintro _ _ h3 ⟨y3, i3, rfl, hy3, rfl, hQ3, hG3, hY3⟩
      have hD3 := hD2.rg hG3
      have hF3 : Fr [9, 10, 13] h  h3 := hF2.trans (hG3.1.mono (by decide))
      have hE3 := (hG3.1 13 (by decide)).trans hE2
      show T a 4 mX3_readLine 92 [(0, rv a 9), (1, .int (nI m))] [.int (nI y3), rv a 9] S h3 _
      refine tr_putI (pc := 92) (x := nI y3) dX3_readLine_92 (hS.1 9 (6, 9) rfl) fi_X3_75 rfl rfl rfl ?_
      have hQ4 := cq_put (k := 6) (x := nI y3) hQ3 (by decide)
      have hD4 := hD3.p6 (z := nI y3)
      have hF4 := hF3.hs (o := 9) (f := upd (h3 9) 6 (nI y3)) (by decide)
      have hE4 := (hs_ne (h := h3) (f := upd (h3 9) 6 (nI y3)) (show 13 ≠ 9 by decide)).trans hE3
      generalize hs h3 9 (upd (h3 9) 6 (nI y3)) = h4 at hQ4 hD4 hF4 hE4 ⊢
      refine tr_aload_n (pc := 95) 0 dX3_readLine_95 rfl rfl ?_
      refine tr_getR (pc := 96) (q := 10) dX3_readLine_96 (hS.1 9 (6, 9) rfl) fi_X3_12 rfl (hS.2 9 2 10 rfl) ?_
      refine tr_callV (pc := 99) (rest := []) (ci := 7) dX3_readLine_99 ml_X3_49 cv_X7_ahead rfl rfl (Nat.le_of_ble_eq_true rfl) (hS.1 10 (10, 5) rfl) rfl (by decide) (c_ahead hS hv hQ4.1 hQ4.2.1 hQ4.2.2.1) ?_
      rintro _ _ _ ⟨rfl, rfl, rfl⟩
      show T a 4 mX3_readLine 102 [(0, rv a 9), (1, .int (nI m))] [.int (ck (kd tx (pl tx i3)))] S h4 _
      refine tr_bipush (pc := 102) (v := nI 46) dX3_readLine_102 (by decide) ?_
      refine tr_icmp_ne (pc := 104) (tgt := 114) dX3_readLine_104 (by decide) (ck_eq (kd_le hv) (by decide : 46 < 131)) (fun hb104 => ?_) (fun hb104 => ?_)
      · skip
        refine tr_aload_n (pc := 114) 0 dX3_readLine_114 rfl rfl ?_
        refine tr_bipush (pc := 115) (v := nI 61) dX3_readLine_115 (by decide) ?_
        refine tr_callV (pc := 117) (rest := []) (ci := 3) dX3_readLine_117 ml_X3_57 cv_X3_take rfl rfl (Nat.le_of_ble_eq_true rfl) (hS.1 9 (6, 9) rfl) rfl (by decide) (c_take hS hv hQ4 (w := 61) (by decide) rfl) ?_
        rintro _ _ h5 ⟨rfl, rfl, ⟨i5, hQ5⟩, hG5⟩
        have hD5 := hD4.rg hG5
        have hF5 : Fr [9, 10, 13] h  h5 := hF4.trans (hG5.1.mono (by decide))
        have hE5 := (hG5.1 13 (by decide)).trans hE4
        show T a 4 mX3_readLine 120 [(0, rv a 9), (1, .int (nI m))] [] S h5 _
        refine tr_aload_n (pc := 120) 0 dX3_readLine_120 rfl rfl ?_
        refine tr_iload_n (pc := 121) 1 dX3_readLine_121 rfl rfl ?_
        refine tr_callV (pc := 122) (rest := []) (ci := 3) dX3_readLine_122 ml_X3_94 cv_X3_readValue rfl rfl (Nat.le_of_ble_eq_true rfl) (hS.1 9 (6, 9) rfl) rfl (by decide) (c_readValue hS hv hQ5 hy3 hm hD5) ?_
        rintro _ _ h6 ⟨rfl, rfl, l, i6, σ6, hl, hD6, hQ6, hF56, he6, hV6⟩
        have hF6 : Fr [9, 10, 13] h h6 := hF5.trans hF56
        show T a 4 mX3_readLine 125 [(0, rv a 9), (1, .int (nI m))] [] S h6 _
        exact tr_vret (pc := 125) dX3_readLine_125 rfl (⟨rfl, rfl, l, _, _, hl, hD6, hQ6, hF6, by
            have e := cq_pos hQ0
            subst e
            exact lo_V hb19 hb60 (fun q hq => by rw [hq] at hQ4; exact cq_pos hQ4) hb104 (hY3 _ rfl) he6 hV6 (fun C hC => hC.c hE5)⟩)
      · skip
        refine tr_aload_n (pc := 107) 0 dX3_readLine_107 rfl rfl ?_
        refine tr_callV (pc := 108) (rest := []) (ci := 3) dX3_readLine_108 ml_X3_91 cv_X3_readPut rfl rfl (Nat.le_of_ble_eq_true rfl) (hS.1 9 (6, 9) rfl) rfl (by decide) (c_readPut hS hv hQ4 hD4) ?_
        rintro _ _ h5 ⟨rfl, rfl, z, i5, hz, hD5, hQ5, hF45, hE45, hY5⟩
        have hF5 : Fr [9, 10, 13] h h5 := hF4.trans hF45
        have hE5 := hE45.trans hE4
        show T a 4 mX3_readLine 111 [(0, rv a 9), (1, .int (nI m))] [] S h5 _
        refine tr_goto (pc := 111) (tgt := 125) dX3_readLine_111 (by decide) ?_
        exact tr_vret (pc := 125) dX3_readLine_125 rfl (⟨rfl, rfl, (2, y3, z, 0), _, _, okl (by decide) (hy3) (hz) (by decide), hD5, hQ5, hF5, by
            have e := cq_pos hQ0
            subst e
            exact lo_P hb19 hb60 (fun q hq => by rw [hq] at hQ4; exact cq_pos hQ4) hb104 (hY3 _ rfl) hY5 (fun C hC => hC.c hE5)⟩)
    · skip
      refine tr_aload_n (pc := 63) 0 dX3_readLine_63 rfl rfl ?_
      refine tr_bipush (pc := 64) (v := nI 6) dX3_readLine_64 (by decide) ?_
      refine tr_putI (pc := 66) (x := nI 6) dX3_readLine_66 (hS.1 9 (6, 9) rfl) fi_X3_72 rfl rfl rfl ?_
      have hQ3 := cq_put (k := 5) (x := nI 6) hQ2 (by decide)
      have hD3 := hD2.p5 (z := nI 6)
      have hF3 := hF2.hs (o := 9) (f := upd (h2 9) 5 (nI 6)) (by decide)
      have hE3 := (hs_ne (h := h2) (f := upd (h2 9) 5 (nI 6)) (show 13 ≠ 9 by decide)).trans hE2
      generalize hs h2 9 (upd (h2 9) 5 (nI 6)) = h3 at hQ3 hD3 hF3 hE3 ⊢
      refine tr_aload_n (pc := 69) 0 dX3_readLine_69 rfl rfl ?_
      refine tr_sipush (pc := 70) (v := nI 129) dX3_readLine_70 (by decide) ?_
      refine tr_callV (pc := 73) (rest := []) (ci := 3) dX3_readLine_73 ml_X3_57 cv_X3_take rfl rfl (Nat.le_of_ble_eq_true rfl) (hS.1 9 (6, 9) rfl) rfl (by decide) (c_take hS hv hQ3 (w := 129) (by decide) rfl) ?_
      rintro _ _ h4 ⟨rfl, rfl, ⟨i4, hQ4⟩, hG4⟩
      have hD4 := hD3.rg hG4
      have hF4 : Fr [9, 10, 13] h  h4 := hF3.trans (hG4.1.mono (by decide))
      have hE4 := (hG4.1 13 (by decide)).trans hE3
      show T a 4 mX3_readLine 76 [(0, rv a 9), (1, .int (nI m))] [] S h4 _
      refine tr_aload_n (pc := 76) 0 dX3_readLine_76 rfl rfl ?_
      refine tr_aload_n (pc := 77) 0 dX3_readLine_77 rfl rfl ?_
      refine tr_callV (pc := 78) (rest := [rv a 9]) (ci := 3) dX3_readLine_78 ml_X3_88 cv_X3_takeName rfl rfl (Nat.le_of_ble_eq_true rfl) (hS.1 9 (6, 9) rfl) rfl (by decide) (c_takeName hS hv hQ4) ?_
      rintro _ _ h5 ⟨y5, i5, rfl, hy5, rfl, hQ5, hG5, hY5⟩
      have hD5 := hD4.rg hG5
      have hF5 : Fr [9, 10, 13] h  h5 := hF4.trans (hG5.1.mono (by decide))
      have hE5 := (hG5.1 13 (by decide)).trans hE4
      show T a 4 mX3_readLine 81 [(0, rv a 9), (1, .int (nI m))] [.int (nI y5), rv a 9] S h5 _
      refine tr_putI (pc := 81) (x := nI y5) dX3_readLine_81 (hS.1 9 (6, 9) rfl) fi_X3_75 rfl rfl rfl ?_
      have hQ6 := cq_put (k := 6) (x := nI y5) hQ5 (by decide)
      have hD6 := hD5.p6 (z := nI y5)
      have hF6 := hF5.hs (o := 9) (f := upd (h5 9) 6 (nI y5)) (by decide)
      have hE6 := (hs_ne (h := h5) (f := upd (h5 9) 6 (nI y5)) (show 13 ≠ 9 by decide)).trans hE5
      generalize hs h5 9 (upd (h5 9) 6 (nI y5)) = h6 at hQ6 hD6 hF6 hE6 ⊢
      refine tr_goto (pc := 84) (tgt := 125) dX3_readLine_84 (by decide) ?_
      exact tr_vret (pc := 125) dX3_readLine_125 rfl (⟨rfl, rfl, (6, y5, 0, 0), _, _, okl (by decide) (hy5) (by decide) (by decide), hD6, hQ6, hF6, by
          have e := cq_pos hQ0
          subst e
          exact lo_L hb60 hY5 (fun C hC => hC.c hE6)⟩)
  · skip
    refine tr_aload_n (pc := 22) 0 dX3_readLine_22 rfl rfl ?_
    refine tr_iconst (pc := 23) (v := nI 4) dX3_readLine_23 (by decide) ?_
    refine tr_putI (pc := 24) (x := nI 4) dX3_readLine_24 (hS.1 9 (6, 9) rfl) fi_X3_72 rfl rfl rfl ?_
    have hQ3 := cq_put (k := 5) (x := nI 4) hQ2 (by decide)
    have hD3 := hD2.p5 (z := nI 4)
    have hF3 := hF2.hs (o := 9) (f := upd (h2 9) 5 (nI 4)) (by decide)
    have hE3 := (hs_ne (h := h2) (f := upd (h2 9) 5 (nI 4)) (show 13 ≠ 9 by decide)).trans hE2
    generalize hs h2 9 (upd (h2 9) 5 (nI 4)) = h3 at hQ3 hD3 hF3 hE3 ⊢
    refine tr_aload_n (pc := 27) 0 dX3_readLine_27 rfl rfl ?_
    refine tr_bipush (pc := 28) (v := nI 71) dX3_readLine_28 (by decide) ?_
    refine tr_callV (pc := 30) (rest := []) (ci := 3) dX3_readLine_30 ml_X3_57 cv_X3_take rfl rfl (Nat.le_of_ble_eq_true rfl) (hS.1 9 (6, 9) rfl) rfl (by decide) (c_take hS hv hQ3 (w := 71) (by decide) rfl) ?_
    rintro _ _ h4 ⟨rfl, rfl, ⟨i4, hQ4⟩, hG4⟩
    have hD4 := hD3.rg hG4
    have hF4 : Fr [9, 10, 13] h  h4 := hF3.trans (hG4.1.mono (by decide))
    have hE4 := (hG4.1 13 (by decide)).trans hE3
    show T a 4 mX3_readLine 33 [(0, rv a 9), (1, .int (nI m))] [] S h4 _
    refine tr_aload_n (pc := 33) 0 dX3_readLine_33 rfl rfl ?_
    refine tr_bipush (pc := 34) (v := nI 61) dX3_readLine_34 (by decide) ?_
    refine tr_callV (pc := 36) (rest := []) (ci := 3) dX3_readLine_36 ml_X3_57 cv_X3_take rfl rfl (Nat.le_of_ble_eq_true rfl) (hS.1 9 (6, 9) rfl) rfl (by decide) (c_take hS hv hQ4 (w := 61) (by decide) rfl) ?_
    rintro _ _ h5 ⟨rfl, rfl, ⟨i5, hQ5⟩, hG5⟩
    have hD5 := hD4.rg hG5
    have hF5 : Fr [9, 10, 13] h  h5 := hF4.trans (hG5.1.mono (by decide))
    have hE5 := (hG5.1 13 (by decide)).trans hE4
    show T a 4 mX3_readLine 39 [(0, rv a 9), (1, .int (nI m))] [] S h5 _
    refine tr_aload_n (pc := 39) 0 dX3_readLine_39 rfl rfl ?_
    refine tr_aload_n (pc := 40) 0 dX3_readLine_40 rfl rfl ?_
    refine tr_callV (pc := 41) (rest := [rv a 9]) (ci := 3) dX3_readLine_41 ml_X3_88 cv_X3_takeName rfl rfl (Nat.le_of_ble_eq_true rfl) (hS.1 9 (6, 9) rfl) rfl (by decide) (c_takeName hS hv hQ5) ?_
    rintro _ _ h6 ⟨y6, i6, rfl, hy6, rfl, hQ6, hG6, hY6⟩
    have hD6 := hD5.rg hG6
    have hF6 : Fr [9, 10, 13] h  h6 := hF5.trans (hG6.1.mono (by decide))
    have hE6 := (hG6.1 13 (by decide)).trans hE5
    show T a 4 mX3_readLine 44 [(0, rv a 9), (1, .int (nI m))] [.int (nI y6), rv a 9] S h6 _
    refine tr_putI (pc := 44) (x := nI y6) dX3_readLine_44 (hS.1 9 (6, 9) rfl) fi_X3_75 rfl rfl rfl ?_
    have hQ7 := cq_put (k := 6) (x := nI y6) hQ6 (by decide)
    have hD7 := hD6.p6 (z := nI y6)
    have hF7 := hF6.hs (o := 9) (f := upd (h6 9) 6 (nI y6)) (by decide)
    have hE7 := (hs_ne (h := h6) (f := upd (h6 9) 6 (nI y6)) (show 13 ≠ 9 by decide)).trans hE6
    generalize hs h6 9 (upd (h6 9) 6 (nI y6)) = h7 at hQ7 hD7 hF7 hE7 ⊢
    refine tr_goto (pc := 47) (tgt := 125) dX3_readLine_47 (by decide) ?_
    exact tr_vret (pc := 125) dX3_readLine_125 rfl (⟨rfl, rfl, (4, y6, 0, 0), _, _, okl (by decide) (hy6) (by decide) (by decide), hD7, hQ7, hF7, by
        have e := cq_pos hQ0
        subst e
        exact lo_G hb19 hY6 (fun C hC => hC.c hE7)⟩)
