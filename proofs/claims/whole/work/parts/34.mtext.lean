/-! ===== the reference: lines, methods, the text ===== -/
def rlO (tx : List Nat) (m p : Nat) (C : Cls) (b : Nat) (h' : Hp) : Prop := match rLine tx m p with
  | .error e => b = 0 ∧ h' 50 9 = nI e
  | .ok z => if kd tx z.2 = 59 then b = 1 ∧ ∃ r', MR h' tx z.2 (addC tx z.1 p C) (nI z.1.1) (nI z.1.2.1) r' (cmp z.1 3) ∧ (z.1.1 ≠ 0 → z.1.1 ≠ 5 → r' = cmp z.1 2) else b = 0 ∧ h' 50 9 = nI z.2
theorem rl_e {tx : List Nat} {m p e : Nat} {C : Cls} {h' : Hp} (hr : rLine tx m p = .error e) (h9 : h' 50 9 = nI e) : rlO tx m p C 0 h' := by
  unfold rlO
  rw [hr]
  exact ⟨rfl, h9⟩
theorem rl_n {tx : List Nat} {m p e : Nat} {C : Cls} {h' : Hp} {z : Ln} (hr : rLine tx m p = .ok (z, e)) (hk : ¬ kd tx e = 59) (h9 : h' 50 9 = nI e) : rlO tx m p C 0 h' := by
  unfold rlO
  rw [hr]
  simp only [hk, if_false]
  exact ⟨trivial, h9⟩
theorem rl_o {tx : List Nat} {m p e : Nat} {C C' : Cls} {l r' : Int32} {h' : Hp} {z : Ln} (hr : rLine tx m p = .ok (z, e)) (hk : kd tx e = 59) (hC : C' = addC tx z p C) (hl : l = nI z.2.1) (hM : MR h' tx e C' (nI z.1) l r' (cmp z 3)) (h2 : z.1 ≠ 0 → z.1 ≠ 5 → r' = cmp z 2) : rlO tx m p C 1 h' := by
  unfold rlO
  rw [hr]
  simp only [hk, if_true]
  subst hC
  subst hl
  exact ⟨trivial, r', hM, h2⟩
theorem rrO_0 {tx : List Nat} {m x q : Nat} {C : Cls} {l : Int32} {b : Nat} {h' : Hp} (k : rrO tx m x q C l b h') (hb : b = 0) : ∃ e, rVal tx m x q = .error e ∧ h' 50 9 = nI e := by
  unfold rrO at k
  cases hr : rVal tx m x q with
  | error e => rw [hr] at k; exact ⟨e, rfl, k.2⟩
  | ok z => rw [hr] at k; have := k.1; omega
theorem rrO_1 {tx : List Nat} {m x q : Nat} {C : Cls} {l : Int32} {b : Nat} {h' : Hp} (k : rrO tx m x q C l b h') (hb : ¬ b = 0) : ∃ z e r', rVal tx m x q = .ok (z, e) ∧ MR h' tx e (if z.1 = 7 then C ++ [(z.2.2.2, q)] else C) (nI z.1) l r' (cmp z 3) ∧ (z.1 ≠ 0 → z.1 ≠ 5 → r' = cmp z 2) := by
  unfold rrO at k
  cases hr : rVal tx m x q with
  | error e => rw [hr] at k; exact absurd k.1 hb
  | ok z =>
    rw [hr] at k
    obtain ⟨z1, z2⟩ := z
    obtain ⟨_, r', k1, k2⟩ := k
    exact ⟨z1, z2, r', rfl, k1, k2⟩
theorem rVal_x {tx : List Nat} {m x p q : Nat} {l : Ln} (h : rVal tx m x p = .ok (l, q)) : l.2.1 = x := by
  unfold rVal at h
  repeat' split at h
  all_goals first
    | (injection h with h; injection h with h1 h2; rw [← h1])
    | cases h
set_option maxHeartbeats 4000000 in
set_option maxRecDepth 100000 in
theorem c_mreadLine {a : Am} {S : St} {h : Hp} (hS : IsSt S) {tx : List Nat} (hv : TV tx) {p : Nat} {C : Cls} {s l r c : Int32} (hR0 : MR h tx p C s l r c) {m : Nat} (hC32 : C.length < 32) (hm : m < 4) : CT a 5 mX10_readLine [rv a 50, .int (nI m)] S h (fun v S' h' => ∃ b, v = some (.int (nI b)) ∧ b ≤ 1 ∧ S = S' ∧ FR h h' ∧ rlO tx m p C b h') := by
  have hF0 : FR h h := Fm.rf
  have hmk := mkd_lt (k := kd tx p)
  refine met_of (by decide +kernel) (Nat.le_of_ble_eq_true rfl) ?_
  show T a 5 mX10_readLine 0 [(0, rv a 50), (1, .int (nI m))] [] S h _
  refine tr_aload_n (pc := 0) 0 dX10_readLine_0 rfl rfl ?_
  refine tr_iconst (pc := 1) (v := -1) dX10_readLine_1 (by decide) ?_
  refine tr_putI (pc := 2) (x := -1) dX10_readLine_2 (hS.1 50 (13, 45) rfl) fi_X10_124 rfl rfl rfl ?_
  have hR1 := hR0.p15 (z := -1)
  have hF1 : FR h (hs h 50 (upd (h 50) 15 (-1))) := Fm.put hF0 (by decide)
  generalize hs h 50 (upd (h 50) 15 (-1)) = h1 at hR1 hF1 ⊢
  refine tr_aload_n (pc := 5) 0 dX10_readLine_5 rfl rfl ?_
  refine tr_iconst (pc := 6) (v := -1) dX10_readLine_6 (by decide) ?_
  refine tr_putI (pc := 7) (x := -1) dX10_readLine_7 (hS.1 50 (13, 45) rfl) fi_X10_130 rfl rfl rfl ?_
  have hR2 := hR1.p16 (z := -1)
  have hF2 : FR h (hs h1 50 (upd (h1 50) 16 (-1))) := Fm.put hF1 (by decide)
  generalize hs h1 50 (upd (h1 50) 16 (-1)) = h2 at hR2 hF2 ⊢
  refine tr_aload_n (pc := 10) 0 dX10_readLine_10 rfl rfl ?_
  refine tr_aload_n (pc := 11) 0 dX10_readLine_11 rfl rfl ?_
  refine tr_getI (pc := 12) (x := nI (mkd (kd tx p))) dX10_readLine_12 (hS.1 50 (13, 45) rfl) fi_X10_106 rfl hR2.2.1.1 ?_
  refine tr_callS (pc := 15) (rest := [rv a 50]) dX10_readLine_15 ml_X10_120 cs_X10_nameOf rfl rfl (Nat.le_of_ble_eq_true rfl) (by decide) (c_mnameOf (kd_le hv)) ?_
  rintro _ _ _ ⟨rfl, rfl, rfl⟩
  show T a 5 mX10_readLine 18 [(0, rv a 50), (1, .int (nI m))] [.int (nmI (kd tx p)), rv a 50] S h2 _
  refine tr_putI (pc := 18) (x := nmI (kd tx p)) dX10_readLine_18 (hS.1 50 (13, 45) rfl) fi_X10_144 rfl rfl rfl ?_
  have hR3 := hR2.p14 (z := nmI (kd tx p))
  have hF3 : FR h (hs h2 50 (upd (h2 50) 14 (nmI (kd tx p)))) := Fm.put hF2 (by decide)
  generalize hs h2 50 (upd (h2 50) 14 (nmI (kd tx p))) = h3 at hR3 hF3 ⊢
  refine tr_aload_n (pc := 21) 0 dX10_readLine_21 rfl rfl ?_
  refine tr_getI (pc := 22) (x := nI (mkd (kd tx p))) dX10_readLine_22 (hS.1 50 (13, 45) rfl) fi_X10_106 rfl hR3.2.1.1 ?_
  refine tr_sipush (pc := 25) (v := nI 1002) dX10_readLine_25 (by decide) ?_
  refine tr_icmp_ne (pc := 28) (tgt := 68) dX10_readLine_28 (by decide) (nI_eq (by omega) (by omega)) (fun hb28 => ?_) (fun hb28 => ?_)
  · skip
    have hk9 : ¬ kd tx p = 129 := fun z => hb28 ((mkd_w _ (kd_le hv)).2.1.2 z)
    refine tr_aload_n (pc := 68) 0 dX10_readLine_68 rfl rfl ?_
    refine tr_getI (pc := 69) (x := nI (mkd (kd tx p))) dX10_readLine_69 (hS.1 50 (13, 45) rfl) fi_X10_106 rfl hR3.2.1.1 ?_
    refine tr_bipush (pc := 72) (v := nI 71) dX10_readLine_72 (by decide) ?_
    refine tr_icmp_ne (pc := 74) (tgt := 124) dX10_readLine_74 (by decide) (nI_eq (by omega) (by omega)) (fun hb74 => ?_) (fun hb74 => ?_)
    · skip
      have hk7 : ¬ kd tx p = 71 := fun z => hb74 ((mkd_b (by decide)).2 z)
      refine tr_aload_n (pc := 124) 0 dX10_readLine_124 rfl rfl ?_
      refine tr_getI (pc := 125) (x := nmI (kd tx p)) dX10_readLine_125 (hS.1 50 (13, 45) rfl) fi_X10_144 rfl hR3.2.2.2.2.1 ?_
      refine tr_iconst (pc := 128) (v := -1) dX10_readLine_128 (by decide) ?_
      refine tr_icmp_ne (pc := 129) (tgt := 134) dX10_readLine_129 (by decide) Iff.rfl (fun hb129 => ?_) (fun hb129 => ?_)
      · skip
        have hn0 : nm (kd tx p) < 4 := nmI_f hb129
        refine tr_aload_n (pc := 134) 0 dX10_readLine_134 rfl rfl ?_
        refine tr_callV (pc := 135) (rest := []) (ci := 10) dX10_readLine_135 ml_X10_117 cv_X10_next rfl rfl (Nat.le_of_ble_eq_true rfl) (hS.1 50 (13, 45) rfl) rfl (by decide) (c_nx hS hv hR3) ?_
        rintro _ _ h4 ⟨rfl, rfl, hR4, hG4⟩
        have hF4 : FR h h4 := hF3.trans hG4
        show T a 5 mX10_readLine 138 [(0, rv a 50), (1, .int (nI m))] [] S h4 _
        refine tr_aload_n (pc := 138) 0 dX10_readLine_138 rfl rfl ?_
        refine tr_getI (pc := 139) (x := nI (mkd (kd tx (Nx tx p)))) dX10_readLine_139 (hS.1 50 (13, 45) rfl) fi_X10_106 rfl hR4.2.1.1 ?_
        refine tr_bipush (pc := 142) (v := nI 46) dX10_readLine_142 (by decide) ?_
        have hmk1 := mkd_lt (k := kd tx (Nx tx p))
        refine tr_icmp_ne (pc := 144) (tgt := 203) dX10_readLine_144 (by decide) (nI_eq (by omega) (by omega)) (fun hb144 => ?_) (fun hb144 => ?_)
        · skip
          have h46 : ¬ kd tx (Nx tx p) = 46 := fun z => hb144 ((mkd_b (by decide)).2 z)
          refine tr_aload_n (pc := 203) 0 dX10_readLine_203 rfl rfl ?_
          refine tr_getI (pc := 204) (x := nI (mkd (kd tx (Nx tx p)))) dX10_readLine_204 (hS.1 50 (13, 45) rfl) fi_X10_106 rfl hR4.2.1.1 ?_
          refine tr_bipush (pc := 207) (v := nI 61) dX10_readLine_207 (by decide) ?_
          refine tr_icmp_ne (pc := 209) (tgt := 233) dX10_readLine_209 (by decide) (nI_eq (by omega) (by omega)) (fun hb209 => ?_) (fun hb209 => ?_)
          · skip
            have h61 : ¬ kd tx (Nx tx p) = 61 := fun z => hb209 ((mkd_b (by decide)).2 z)
            refine tr_iconst (pc := 233) (v := nI 0) dX10_readLine_233 (by decide) ?_
            exact tr_iret (pc := 234) dX10_readLine_234 rfl (by decide) (⟨0, rfl, by decide, rfl, hF4, rl_e (show rLine tx m p = .error (Nx tx p) by
                unfold rLine
                repeat (first | rw [if_pos (by omega)] | rw [if_neg (by omega)])) hR4.2.1.2.1⟩)
          · skip
            have h61 : kd tx (Nx tx p) = 61 := (mkd_b (by decide)).1 hb209
            refine tr_aload_n (pc := 212) 0 dX10_readLine_212 rfl rfl ?_
            refine tr_iload_n (pc := 213) 1 dX10_readLine_213 rfl rfl ?_
            refine tr_callV (pc := 214) (rest := []) (ci := 10) dX10_readLine_214 ml_X10_147 cv_X10_readRight rfl rfl (Nat.le_of_ble_eq_true rfl) (hS.1 50 (13, 45) rfl) rfl (by decide) (c_mreadRight (c := 0) hS hv hR4 (x := nm (kd tx p)) (q := Nx tx (Nx tx p)) rfl hC32 hm) ?_
            rintro _ _ h5 ⟨b, rfl, hb1, rfl, hG5, hO⟩
            have hF5 : FR h h5 := hF4.trans hG5
            show T a 5 mX10_readLine 217 [(0, rv a 50), (1, .int (nI m))] [.int (nI b)] S h5 _
            refine tr_if_eq (pc := 217) (tgt := 233) dX10_readLine_217 (by decide) (nI_z_eq (by omega)) (fun hb217 => ?_) (fun hb217 => ?_)
            · skip
              obtain ⟨e, he, h9⟩ := rrO_0 hO hb217
              refine tr_iconst (pc := 233) (v := nI 0) dX10_readLine_233 (by decide) ?_
              exact tr_iret (pc := 234) dX10_readLine_234 rfl (by decide) (⟨0, rfl, by decide, rfl, hF5, rl_e (show rLine tx m p = .error e by
                  unfold rLine
                  repeat (first | rw [if_pos (by omega)] | rw [if_neg (by omega)])
                  exact he) h9⟩)
            · skip
              obtain ⟨z, e, r1, he, hR5, hr1⟩ := rrO_1 hO hb217
              have hmk2 := mkd_lt (k := kd tx e)
              refine tr_aload_n (pc := 220) 0 dX10_readLine_220 rfl rfl ?_
              refine tr_getI (pc := 221) (x := nI (mkd (kd tx e))) dX10_readLine_221 (hS.1 50 (13, 45) rfl) fi_X10_106 rfl hR5.2.1.1 ?_
              refine tr_bipush (pc := 224) (v := nI 59) dX10_readLine_224 (by decide) ?_
              refine tr_icmp_ne (pc := 226) (tgt := 233) dX10_readLine_226 (by decide) (nI_eq (by omega) (by omega)) (fun hb226 => ?_) (fun hb226 => ?_)
              · skip
                have h59 : ¬ kd tx e = 59 := fun z => hb226 ((mkd_b (by decide)).2 z)
                refine tr_iconst (pc := 233) (v := nI 0) dX10_readLine_233 (by decide) ?_
                exact tr_iret (pc := 234) dX10_readLine_234 rfl (by decide) (⟨0, rfl, by decide, rfl, hF5, rl_n (z := z) (show rLine tx m p = .ok (z, e) by
                    unfold rLine
                    repeat (first | rw [if_pos (by omega)] | rw [if_neg (by omega)])
                    exact he) h59 hR5.2.1.2.1⟩)
              · skip
                have h59 : kd tx e = 59 := (mkd_b (by decide)).1 hb226
                refine tr_iconst (pc := 229) (v := nI 1) dX10_readLine_229 (by decide) ?_
                refine tr_goto (pc := 230) (tgt := 234) dX10_readLine_230 (by decide) ?_
                exact tr_iret (pc := 234) dX10_readLine_234 rfl (by decide) (⟨1, rfl, by decide, rfl, hF5, rl_o (z := z) (show rLine tx m p = .ok (z, e) by
                    unfold rLine
                    repeat (first | rw [if_pos (by omega)] | rw [if_neg (by omega)])
                    exact he) h59 rfl (by rw [rVal_x he]; exact nmI_y hn0) hR5 hr1⟩)
        · skip
          have h46 : kd tx (Nx tx p) = 46 := (mkd_b (by decide)).1 hb144
          refine tr_aload_n (pc := 147) 0 dX10_readLine_147 rfl rfl ?_
          refine tr_iconst (pc := 148) (v := nI 2) dX10_readLine_148 (by decide) ?_
          refine tr_putI (pc := 149) (x := nI 2) dX10_readLine_149 (hS.1 50 (13, 45) rfl) fi_X10_127 rfl rfl rfl ?_
          have hR5 := hR4.p13 (z := nI 2)
          have hF5 : FR h (hs h4 50 (upd (h4 50) 13 (nI 2))) := Fm.put hF4 (by decide)
          generalize hs h4 50 (upd (h4 50) 13 (nI 2)) = h5 at hR5 hF5 ⊢
          refine tr_aload_n (pc := 152) 0 dX10_readLine_152 rfl rfl ?_
          refine tr_bipush (pc := 153) (v := nI 102) dX10_readLine_153 (by decide) ?_
          have hq6 := eq1_le (k := kd tx (Nx tx (Nx tx p))) (w := 102)
          refine tr_callV (pc := 155) (rest := []) (ci := 10) dX10_readLine_155 ml_X10_136 cv_X10_isNext rfl rfl (Nat.le_of_ble_eq_true rfl) (hS.1 50 (13, 45) rfl) rfl (by decide) (c_isNx hS hv hR5 (w := 102) (by decide)) ?_
          rintro _ _ h6 ⟨rfl, rfl, hR6, hG6⟩
          have hF6 : FR h h6 := hF5.trans hG6
          show T a 5 mX10_readLine 158 [(0, rv a 50), (1, .int (nI m))] [.int (nI (eq1 (kd tx (Nx tx (Nx tx p))) 102))] S h6 _
          refine tr_if_eq (pc := 158) (tgt := 170) dX10_readLine_158 (by decide) (nI_z_eq (by omega)) (fun hb158 => ?_) (fun hb158 => ?_)
          · skip
            have h102 : ¬ kd tx (Nx tx (Nx tx p)) = 102 := eq1_z hb158
            refine tr_iconst (pc := 170) (v := nI 0) dX10_readLine_170 (by decide) ?_
            exact tr_iret (pc := 171) dX10_readLine_171 rfl (by decide) (⟨0, rfl, by decide, rfl, hF6, rl_e (show rLine tx m p = .error (Nx tx (Nx tx p)) by
                unfold rLine
                repeat (first | rw [if_pos (by omega)] | rw [if_neg (by omega)])) hR6.2.1.2.1⟩)
          · skip
            have h102 : kd tx (Nx tx (Nx tx p)) = 102 := eq1_y hb158
            refine tr_aload_n (pc := 161) 0 dX10_readLine_161 rfl rfl ?_
            refine tr_bipush (pc := 162) (v := nI 61) dX10_readLine_162 (by decide) ?_
            have hq7 := eq1_le (k := kd tx (Nx tx (Nx tx (Nx tx p)))) (w := 61)
            refine tr_callV (pc := 164) (rest := []) (ci := 10) dX10_readLine_164 ml_X10_136 cv_X10_isNext rfl rfl (Nat.le_of_ble_eq_true rfl) (hS.1 50 (13, 45) rfl) rfl (by decide) (c_isNx hS hv hR6 (w := 61) (by decide)) ?_
            rintro _ _ h7 ⟨rfl, rfl, hR7, hG7⟩
            have hF7 : FR h h7 := hF6.trans hG7
            show T a 5 mX10_readLine 167 [(0, rv a 50), (1, .int (nI m))] [.int (nI (eq1 (kd tx (Nx tx (Nx tx (Nx tx p)))) 61))] S h7 _
            refine tr_if_ne (pc := 167) (tgt := 172) dX10_readLine_167 (by decide) (nI_z_eq (by omega)) (fun hb167 => ?_) (fun hb167 => ?_)
            · skip
              have h61 : kd tx (Nx tx (Nx tx (Nx tx p))) = 61 := eq1_y hb167
              refine tr_aload_n (pc := 172) 0 dX10_readLine_172 rfl rfl ?_
              refine tr_aload_n (pc := 173) 0 dX10_readLine_173 rfl rfl ?_
              refine tr_callV (pc := 174) (rest := [rv a 50]) (ci := 10) dX10_readLine_174 ml_X10_140 cv_X10_nextName rfl rfl (Nat.le_of_ble_eq_true rfl) (hS.1 50 (13, 45) rfl) rfl (by decide) (c_nxName hS hv hR7) ?_
              rintro _ _ h8 ⟨rfl, rfl, hR8, hG8⟩
              have hF8 : FR h h8 := hF7.trans hG8
              show T a 5 mX10_readLine 177 [(0, rv a 50), (1, .int (nI m))] [.int (nmI (kd tx (Nx tx (Nx tx (Nx tx (Nx tx p)))))), rv a 50] S h8 _
              refine tr_putI (pc := 177) (x := nmI (kd tx (Nx tx (Nx tx (Nx tx (Nx tx p)))))) dX10_readLine_177 (hS.1 50 (13, 45) rfl) fi_X10_124 rfl rfl rfl ?_
              have hR9 := hR8.p15 (z := nmI (kd tx (Nx tx (Nx tx (Nx tx (Nx tx p))))))
              have hF9 : FR h (hs h8 50 (upd (h8 50) 15 (nmI (kd tx (Nx tx (Nx tx (Nx tx (Nx tx p)))))))) := Fm.put hF8 (by decide)
              generalize hs h8 50 (upd (h8 50) 15 (nmI (kd tx (Nx tx (Nx tx (Nx tx (Nx tx p))))))) = h9 at hR9 hF9 ⊢
              refine tr_aload_n (pc := 180) 0 dX10_readLine_180 rfl rfl ?_
              refine tr_getI (pc := 181) (x := nmI (kd tx (Nx tx (Nx tx (Nx tx (Nx tx p)))))) dX10_readLine_181 (hS.1 50 (13, 45) rfl) fi_X10_124 rfl hR9.2.2.2.2.2.1 ?_
              refine tr_iconst (pc := 184) (v := -1) dX10_readLine_184 (by decide) ?_
              refine tr_icmp_eq (pc := 185) (tgt := 201) dX10_readLine_185 (by decide) Iff.rfl (fun hb185 => ?_) (fun hb185 => ?_)
              · skip
                have hn4 : ¬ nm (kd tx (Nx tx (Nx tx (Nx tx (Nx tx p))))) < 4 := nmI_iff.1 hb185
                refine tr_iconst (pc := 201) (v := nI 0) dX10_readLine_201 (by decide) ?_
                exact tr_iret (pc := 202) dX10_readLine_202 rfl (by decide) (⟨0, rfl, by decide, rfl, hF9, rl_e (show rLine tx m p = .error (Nx tx (Nx tx (Nx tx (Nx tx p)))) by
                    unfold rLine
                    repeat (first | rw [if_pos (by omega)] | rw [if_neg (by omega)])) hR9.2.1.2.1⟩)
              · skip
                have hn4 : nm (kd tx (Nx tx (Nx tx (Nx tx (Nx tx p))))) < 4 := nmI_f hb185
                refine tr_aload_n (pc := 188) 0 dX10_readLine_188 rfl rfl ?_
                refine tr_bipush (pc := 189) (v := nI 59) dX10_readLine_189 (by decide) ?_
                have hq10 := eq1_le (k := kd tx (Nx tx (Nx tx (Nx tx (Nx tx (Nx tx p)))))) (w := 59)
                refine tr_callV (pc := 191) (rest := []) (ci := 10) dX10_readLine_191 ml_X10_136 cv_X10_isNext rfl rfl (Nat.le_of_ble_eq_true rfl) (hS.1 50 (13, 45) rfl) rfl (by decide) (c_isNx hS hv hR9 (w := 59) (by decide)) ?_
                rintro _ _ h10 ⟨rfl, rfl, hR10, hG10⟩
                have hF10 : FR h h10 := hF9.trans hG10
                show T a 5 mX10_readLine 194 [(0, rv a 50), (1, .int (nI m))] [.int (nI (eq1 (kd tx (Nx tx (Nx tx (Nx tx (Nx tx (Nx tx p)))))) 59))] S h10 _
                refine tr_if_eq (pc := 194) (tgt := 201) dX10_readLine_194 (by decide) (nI_z_eq (by omega)) (fun hb194 => ?_) (fun hb194 => ?_)
                · skip
                  have h59 : ¬ kd tx (Nx tx (Nx tx (Nx tx (Nx tx (Nx tx p))))) = 59 := eq1_z hb194
                  refine tr_iconst (pc := 201) (v := nI 0) dX10_readLine_201 (by decide) ?_
                  exact tr_iret (pc := 202) dX10_readLine_202 rfl (by decide) (⟨0, rfl, by decide, rfl, hF10, rl_n (z := (2, nm (kd tx p), nm (kd tx (Nx tx (Nx tx (Nx tx (Nx tx p))))), 0)) (show rLine tx m p = .ok ((2, nm (kd tx p), nm (kd tx (Nx tx (Nx tx (Nx tx (Nx tx p))))), 0), Nx tx (Nx tx (Nx tx (Nx tx (Nx tx p))))) by
                      unfold rLine
                      repeat (first | rw [if_pos (by omega)] | rw [if_neg (by omega)])) h59 hR10.2.1.2.1⟩)
                · skip
                  have h59 : kd tx (Nx tx (Nx tx (Nx tx (Nx tx (Nx tx p))))) = 59 := eq1_y hb194
                  refine tr_iconst (pc := 197) (v := nI 1) dX10_readLine_197 (by decide) ?_
                  refine tr_goto (pc := 198) (tgt := 202) dX10_readLine_198 (by decide) ?_
                  exact tr_iret (pc := 202) dX10_readLine_202 rfl (by decide) (⟨1, rfl, by decide, rfl, hF10, rl_o (z := (2, nm (kd tx p), nm (kd tx (Nx tx (Nx tx (Nx tx (Nx tx p))))), 0)) (show rLine tx m p = .ok ((2, nm (kd tx p), nm (kd tx (Nx tx (Nx tx (Nx tx (Nx tx p))))), 0), Nx tx (Nx tx (Nx tx (Nx tx (Nx tx p))))) by
                      unfold rLine
                      repeat (first | rw [if_pos (by omega)] | rw [if_neg (by omega)])) h59 rfl (nmI_y hn0) hR10 (fun _ _ => nmI_y hn4)⟩)
            · skip
              have h61 : ¬ kd tx (Nx tx (Nx tx (Nx tx p))) = 61 := eq1_z hb167
              refine tr_iconst (pc := 170) (v := nI 0) dX10_readLine_170 (by decide) ?_
              exact tr_iret (pc := 171) dX10_readLine_171 rfl (by decide) (⟨0, rfl, by decide, rfl, hF7, rl_e (show rLine tx m p = .error (Nx tx (Nx tx (Nx tx p))) by
                  unfold rLine
                  repeat (first | rw [if_pos (by omega)] | rw [if_neg (by omega)])) hR7.2.1.2.1⟩)
      · skip
        have hn0 : ¬ nm (kd tx p) < 4 := nmI_iff.1 hb129
        refine tr_iconst (pc := 132) (v := nI 0) dX10_readLine_132 (by decide) ?_
        exact tr_iret (pc := 133) dX10_readLine_133 rfl (by decide) (⟨0, rfl, by decide, rfl, hF3, rl_e (show rLine tx m p = .error (p) by
            unfold rLine
            repeat (first | rw [if_pos (by omega)] | rw [if_neg (by omega)])) hR3.2.1.2.1⟩)
    · skip
      have hk : kd tx p = 71 := (mkd_b (by decide)).1 hb74
      refine tr_aload_n (pc := 77) 0 dX10_readLine_77 rfl rfl ?_
      refine tr_iconst (pc := 78) (v := nI 4) dX10_readLine_78 (by decide) ?_
      refine tr_putI (pc := 79) (x := nI 4) dX10_readLine_79 (hS.1 50 (13, 45) rfl) fi_X10_127 rfl rfl rfl ?_
      have hR4 := hR3.p13 (z := nI 4)
      have hF4 : FR h (hs h3 50 (upd (h3 50) 13 (nI 4))) := Fm.put hF3 (by decide)
      generalize hs h3 50 (upd (h3 50) 13 (nI 4)) = h4 at hR4 hF4 ⊢
      refine tr_aload_n (pc := 82) 0 dX10_readLine_82 rfl rfl ?_
      refine tr_bipush (pc := 83) (v := nI 61) dX10_readLine_83 (by decide) ?_
      have hq5 := eq1_le (k := kd tx (Nx tx p)) (w := 61)
      refine tr_callV (pc := 85) (rest := []) (ci := 10) dX10_readLine_85 ml_X10_136 cv_X10_isNext rfl rfl (Nat.le_of_ble_eq_true rfl) (hS.1 50 (13, 45) rfl) rfl (by decide) (c_isNx hS hv hR4 (w := 61) (by decide)) ?_
      rintro _ _ h5 ⟨rfl, rfl, hR5, hG5⟩
      have hF5 : FR h h5 := hF4.trans hG5
      show T a 5 mX10_readLine 88 [(0, rv a 50), (1, .int (nI m))] [.int (nI (eq1 (kd tx (Nx tx p)) 61))] S h5 _
      refine tr_if_ne (pc := 88) (tgt := 93) dX10_readLine_88 (by decide) (nI_z_eq (by omega)) (fun hb88 => ?_) (fun hb88 => ?_)
      · skip
        have h61 : kd tx (Nx tx p) = 61 := eq1_y hb88
        refine tr_aload_n (pc := 93) 0 dX10_readLine_93 rfl rfl ?_
        refine tr_aload_n (pc := 94) 0 dX10_readLine_94 rfl rfl ?_
        refine tr_callV (pc := 95) (rest := [rv a 50]) (ci := 10) dX10_readLine_95 ml_X10_140 cv_X10_nextName rfl rfl (Nat.le_of_ble_eq_true rfl) (hS.1 50 (13, 45) rfl) rfl (by decide) (c_nxName hS hv hR5) ?_
        rintro _ _ h6 ⟨rfl, rfl, hR6, hG6⟩
        have hF6 : FR h h6 := hF5.trans hG6
        show T a 5 mX10_readLine 98 [(0, rv a 50), (1, .int (nI m))] [.int (nmI (kd tx (Nx tx (Nx tx p)))), rv a 50] S h6 _
        refine tr_putI (pc := 98) (x := nmI (kd tx (Nx tx (Nx tx p)))) dX10_readLine_98 (hS.1 50 (13, 45) rfl) fi_X10_144 rfl rfl rfl ?_
        have hR7 := hR6.p14 (z := nmI (kd tx (Nx tx (Nx tx p))))
        have hF7 : FR h (hs h6 50 (upd (h6 50) 14 (nmI (kd tx (Nx tx (Nx tx p)))))) := Fm.put hF6 (by decide)
        generalize hs h6 50 (upd (h6 50) 14 (nmI (kd tx (Nx tx (Nx tx p))))) = h7 at hR7 hF7 ⊢
        refine tr_aload_n (pc := 101) 0 dX10_readLine_101 rfl rfl ?_
        refine tr_getI (pc := 102) (x := nmI (kd tx (Nx tx (Nx tx p)))) dX10_readLine_102 (hS.1 50 (13, 45) rfl) fi_X10_144 rfl hR7.2.2.2.2.1 ?_
        refine tr_iconst (pc := 105) (v := -1) dX10_readLine_105 (by decide) ?_
        refine tr_icmp_eq (pc := 106) (tgt := 122) dX10_readLine_106 (by decide) Iff.rfl (fun hb106 => ?_) (fun hb106 => ?_)
        · skip
          have hn2 : ¬ nm (kd tx (Nx tx (Nx tx p))) < 4 := nmI_iff.1 hb106
          refine tr_iconst (pc := 122) (v := nI 0) dX10_readLine_122 (by decide) ?_
          exact tr_iret (pc := 123) dX10_readLine_123 rfl (by decide) (⟨0, rfl, by decide, rfl, hF7, rl_e (show rLine tx m p = .error (Nx tx (Nx tx p)) by
              unfold rLine
              repeat (first | rw [if_pos (by omega)] | rw [if_neg (by omega)])) hR7.2.1.2.1⟩)
        · skip
          have hn2 : nm (kd tx (Nx tx (Nx tx p))) < 4 := nmI_f hb106
          refine tr_aload_n (pc := 109) 0 dX10_readLine_109 rfl rfl ?_
          refine tr_bipush (pc := 110) (v := nI 59) dX10_readLine_110 (by decide) ?_
          have hq8 := eq1_le (k := kd tx (Nx tx (Nx tx (Nx tx p)))) (w := 59)
          refine tr_callV (pc := 112) (rest := []) (ci := 10) dX10_readLine_112 ml_X10_136 cv_X10_isNext rfl rfl (Nat.le_of_ble_eq_true rfl) (hS.1 50 (13, 45) rfl) rfl (by decide) (c_isNx hS hv hR7 (w := 59) (by decide)) ?_
          rintro _ _ h8 ⟨rfl, rfl, hR8, hG8⟩
          have hF8 : FR h h8 := hF7.trans hG8
          show T a 5 mX10_readLine 115 [(0, rv a 50), (1, .int (nI m))] [.int (nI (eq1 (kd tx (Nx tx (Nx tx (Nx tx p)))) 59))] S h8 _
          refine tr_if_eq (pc := 115) (tgt := 122) dX10_readLine_115 (by decide) (nI_z_eq (by omega)) (fun hb115 => ?_) (fun hb115 => ?_)
          · skip
            have h59 : ¬ kd tx (Nx tx (Nx tx (Nx tx p))) = 59 := eq1_z hb115
            refine tr_iconst (pc := 122) (v := nI 0) dX10_readLine_122 (by decide) ?_
            exact tr_iret (pc := 123) dX10_readLine_123 rfl (by decide) (⟨0, rfl, by decide, rfl, hF8, rl_n (z := (4, nm (kd tx (Nx tx (Nx tx p))), 0, 0)) (show rLine tx m p = .ok ((4, nm (kd tx (Nx tx (Nx tx p))), 0, 0), Nx tx (Nx tx (Nx tx p))) by
                unfold rLine
                repeat (first | rw [if_pos (by omega)] | rw [if_neg (by omega)])) h59 hR8.2.1.2.1⟩)
          · skip
            have h59 : kd tx (Nx tx (Nx tx (Nx tx p))) = 59 := eq1_y hb115
            refine tr_iconst (pc := 118) (v := nI 1) dX10_readLine_118 (by decide) ?_
            refine tr_goto (pc := 119) (tgt := 123) dX10_readLine_119 (by decide) ?_
            exact tr_iret (pc := 123) dX10_readLine_123 rfl (by decide) (⟨1, rfl, by decide, rfl, hF8, rl_o (z := (4, nm (kd tx (Nx tx (Nx tx p))), 0, 0)) (show rLine tx m p = .ok ((4, nm (kd tx (Nx tx (Nx tx p))), 0, 0), Nx tx (Nx tx (Nx tx p))) by
                unfold rLine
                repeat (first | rw [if_pos (by omega)] | rw [if_neg (by omega)])) h59 rfl (nmI_y hn2) hR8 (fun _ _ => rfl)⟩)
      · skip
        have h61 : ¬ kd tx (Nx tx p) = 61 := eq1_z hb88
        refine tr_iconst (pc := 91) (v := nI 0) dX10_readLine_91 (by decide) ?_
        exact tr_iret (pc := 92) dX10_readLine_92 rfl (by decide) (⟨0, rfl, by decide, rfl, hF5, rl_e (show rLine tx m p = .error (Nx tx p) by
            unfold rLine
            repeat (first | rw [if_pos (by omega)] | rw [if_neg (by omega)])) hR5.2.1.2.1⟩)
  · skip
    have hk : kd tx p = 129 := (mkd_w _ (kd_le hv)).2.1.1 hb28
    refine tr_aload_n (pc := 31) 0 dX10_readLine_31 rfl rfl ?_
    refine tr_bipush (pc := 32) (v := nI 6) dX10_readLine_32 (by decide) ?_
    refine tr_putI (pc := 34) (x := nI 6) dX10_readLine_34 (hS.1 50 (13, 45) rfl) fi_X10_127 rfl rfl rfl ?_
    have hR4 := hR3.p13 (z := nI 6)
    have hF4 : FR h (hs h3 50 (upd (h3 50) 13 (nI 6))) := Fm.put hF3 (by decide)
    generalize hs h3 50 (upd (h3 50) 13 (nI 6)) = h4 at hR4 hF4 ⊢
    refine tr_aload_n (pc := 37) 0 dX10_readLine_37 rfl rfl ?_
    refine tr_aload_n (pc := 38) 0 dX10_readLine_38 rfl rfl ?_
    refine tr_callV (pc := 39) (rest := [rv a 50]) (ci := 10) dX10_readLine_39 ml_X10_140 cv_X10_nextName rfl rfl (Nat.le_of_ble_eq_true rfl) (hS.1 50 (13, 45) rfl) rfl (by decide) (c_nxName hS hv hR4) ?_
    rintro _ _ h5 ⟨rfl, rfl, hR5, hG5⟩
    have hF5 : FR h h5 := hF4.trans hG5
    show T a 5 mX10_readLine 42 [(0, rv a 50), (1, .int (nI m))] [.int (nmI (kd tx (Nx tx p))), rv a 50] S h5 _
    refine tr_putI (pc := 42) (x := nmI (kd tx (Nx tx p))) dX10_readLine_42 (hS.1 50 (13, 45) rfl) fi_X10_144 rfl rfl rfl ?_
    have hR6 := hR5.p14 (z := nmI (kd tx (Nx tx p)))
    have hF6 : FR h (hs h5 50 (upd (h5 50) 14 (nmI (kd tx (Nx tx p))))) := Fm.put hF5 (by decide)
    generalize hs h5 50 (upd (h5 50) 14 (nmI (kd tx (Nx tx p)))) = h6 at hR6 hF6 ⊢
    refine tr_aload_n (pc := 45) 0 dX10_readLine_45 rfl rfl ?_
    refine tr_getI (pc := 46) (x := nmI (kd tx (Nx tx p))) dX10_readLine_46 (hS.1 50 (13, 45) rfl) fi_X10_144 rfl hR6.2.2.2.2.1 ?_
    refine tr_iconst (pc := 49) (v := -1) dX10_readLine_49 (by decide) ?_
    refine tr_icmp_eq (pc := 50) (tgt := 66) dX10_readLine_50 (by decide) Iff.rfl (fun hb50 => ?_) (fun hb50 => ?_)
    · skip
      have hn1 : ¬ nm (kd tx (Nx tx p)) < 4 := nmI_iff.1 hb50
      refine tr_iconst (pc := 66) (v := nI 0) dX10_readLine_66 (by decide) ?_
      exact tr_iret (pc := 67) dX10_readLine_67 rfl (by decide) (⟨0, rfl, by decide, rfl, hF6, rl_e (show rLine tx m p = .error (Nx tx p) by
          unfold rLine
          repeat (first | rw [if_pos (by omega)] | rw [if_neg (by omega)])) hR6.2.1.2.1⟩)
    · skip
      have hn1 : nm (kd tx (Nx tx p)) < 4 := nmI_f hb50
      refine tr_aload_n (pc := 53) 0 dX10_readLine_53 rfl rfl ?_
      refine tr_bipush (pc := 54) (v := nI 59) dX10_readLine_54 (by decide) ?_
      have hq7 := eq1_le (k := kd tx (Nx tx (Nx tx p))) (w := 59)
      refine tr_callV (pc := 56) (rest := []) (ci := 10) dX10_readLine_56 ml_X10_136 cv_X10_isNext rfl rfl (Nat.le_of_ble_eq_true rfl) (hS.1 50 (13, 45) rfl) rfl (by decide) (c_isNx hS hv hR6 (w := 59) (by decide)) ?_
      rintro _ _ h7 ⟨rfl, rfl, hR7, hG7⟩
      have hF7 : FR h h7 := hF6.trans hG7
      show T a 5 mX10_readLine 59 [(0, rv a 50), (1, .int (nI m))] [.int (nI (eq1 (kd tx (Nx tx (Nx tx p))) 59))] S h7 _
      refine tr_if_eq (pc := 59) (tgt := 66) dX10_readLine_59 (by decide) (nI_z_eq (by omega)) (fun hb59 => ?_) (fun hb59 => ?_)
      · skip
        have h59 : ¬ kd tx (Nx tx (Nx tx p)) = 59 := eq1_z hb59
        refine tr_iconst (pc := 66) (v := nI 0) dX10_readLine_66 (by decide) ?_
        exact tr_iret (pc := 67) dX10_readLine_67 rfl (by decide) (⟨0, rfl, by decide, rfl, hF7, rl_n (z := (6, nm (kd tx (Nx tx p)), 0, 0)) (show rLine tx m p = .ok ((6, nm (kd tx (Nx tx p)), 0, 0), Nx tx (Nx tx p)) by
            unfold rLine
            repeat (first | rw [if_pos (by omega)] | rw [if_neg (by omega)])) h59 hR7.2.1.2.1⟩)
      · skip
        have h59 : kd tx (Nx tx (Nx tx p)) = 59 := eq1_y hb59
        refine tr_iconst (pc := 62) (v := nI 1) dX10_readLine_62 (by decide) ?_
        refine tr_goto (pc := 63) (tgt := 67) dX10_readLine_63 (by decide) ?_
        exact tr_iret (pc := 67) dX10_readLine_67 rfl (by decide) (⟨1, rfl, by decide, rfl, hF7, rl_o (z := (6, nm (kd tx (Nx tx p)), 0, 0)) (show rLine tx m p = .ok ((6, nm (kd tx (Nx tx p)), 0, 0), Nx tx (Nx tx p)) by
            unfold rLine
            repeat (first | rw [if_pos (by omega)] | rw [if_neg (by omega)])) h59 rfl (nmI_y hn1) hR7 (fun _ _ => rfl)⟩)

/-- only what the reader writes changes -/
def FRd (h h' : Hp) : Prop := Fm [7, 8, 9, 12, 13, 14, 15, 16] [52, 56, 57] h h'
theorem FR.d {h h' : Hp} (k : FR h h') : FRd h h' := Fm.mono k (fun _ q => q) (by decide)
theorem FRd.trans {h h1 h2 : Hp} (k1 : FRd h h1) (k2 : FRd h1 h2) : FRd h h2 := Fm.trans k1 k2
theorem FR.r52 {h h' : Hp} (k : FR h h') : h' 52 = h 52 := k.1 52 (by decide) (by decide)
theorem MR.r52 {h : Hp} {tx : List Nat} {p : Nat} {C : Cls} {s l r c : Int32} {f : Nat → Int32} (k : MR h tx p C s l r c) : MR (hs h 52 f) tx p C s l r c := by
  obtain ⟨k1, k2, k3, k4, k5, k6, k7⟩ := k
  refine ⟨?_, ?_, ?_, ?_, ?_, ?_, ?_⟩
  · unfold MTx; rw [hs_ne (show 50 ≠ 52 by decide), hs_ne (show 55 ≠ 52 by decide)]; exact k1
  · unfold MTk; rw [hs_ne (show 50 ≠ 52 by decide)]; exact k2
  · unfold MCl; rw [hs_ne (show 50 ≠ 52 by decide), hs_ne (show 56 ≠ 52 by decide), hs_ne (show 57 ≠ 52 by decide)]; exact k3
  · rw [hs_ne (show 50 ≠ 52 by decide)]; exact k4
  · rw [hs_ne (show 50 ≠ 52 by decide)]; exact k5
  · rw [hs_ne (show 50 ≠ 52 by decide)]; exact k6
  · rw [hs_ne (show 50 ≠ 52 by decide)]; exact k7
/-- the row that is read into, with a method not yet ended -/
def RWm (f : Nat → Int32) (P : Prog) (L : List Ln) : Prop := f 0 = nI P.length ∧ RW (upd f 0 (nI (P.length + 1))) 0 (P ++ [L])
theorem rwm_0 {f : Nat → Int32} {P : Prog} (hV : ∀ m, lnN P m ≤ 8) (h : RW f 0 P) : RWm (upd f (1 + 33 * P.length) (nI 0)) P [] := by
  obtain ⟨r1, r2, r3⟩ := h
  refine ⟨by rw [upd_n (by omega)]; exact r1, ?_, fun m hm => ?_, fun m i w hm hi hw => ?_⟩
  · rw [upd_s]; simp
  · rw [upd_n (by omega), lnN_app]
    by_cases e : m = P.length
    · subst e
      rw [if_pos rfl, show 0 + (1 + 33 * P.length) = 1 + 33 * P.length by omega, upd_s]
      rfl
    · have hm' : m < P.length := by simp at hm; omega
      rw [if_neg e, upd_n (by omega)]
      exact r2 m hm'
  · rw [lnN_app] at hi
    by_cases e : m = P.length
    · rw [if_pos e] at hi; exact absurd hi (by simp)
    · have hm' : m < P.length := by simp at hm; omega
      rw [if_neg e] at hi
      have h8 := hV m
      rw [upd_n (by omega), gt_app, if_neg e, upd_n (by omega)]
      exact r3 m i w hm' hi hw
theorem rwm_add {f : Nat → Int32} {P : Prog} {L : List Ln} {l : Ln} {g : Nat → Int32} {v2 : Int32} (h2 : v2 = cmp l 2) (hP : P.length < 4) (hV : ∀ m, lnN P m ≤ 8) (hL : L.length < 8) (h : RWm f P L) (hg : g = upd (upd (upd (upd (upd f (2 + 33 * P.length + 4 * L.length) (cmp l 0)) (2 + 33 * P.length + 4 * L.length + 1) (cmp l 1)) (2 + 33 * P.length + 4 * L.length + 2) v2) (2 + 33 * P.length + 4 * L.length + 3) (cmp l 3)) (1 + 33 * P.length) (nI (L.length + 1))) : RWm g P (L ++ [l]) := by
  obtain ⟨r0, r1, r2, r3⟩ := h
  subst hg
  subst h2
  refine ⟨by rw [upd_n (by omega), upd_n (by omega), upd_n (by omega), upd_n (by omega), upd_n (by omega)]; exact r0, ?_, fun m hm => ?_, fun m i w hm hi hw => ?_⟩
  · rw [upd_s]; simp
  · have q := r2 m (by simpa using hm)
    rw [upd_n (by omega)] at q ⊢
    rw [lnN_app] at q ⊢
    by_cases e : m = P.length
    · subst e
      rw [if_pos rfl, show 0 + (1 + 33 * P.length) = 1 + 33 * P.length by omega, upd_s]
      simp
    · have hm' : m < P.length := by simp at hm; omega
      rw [if_neg e] at q ⊢
      rw [upd_n (by omega), upd_n (by omega), upd_n (by omega), upd_n (by omega), upd_n (by omega)]
      exact q
  · rw [lnN_app] at hi
    rw [upd_n (by omega), gt_app]
    by_cases e : m = P.length
    · rw [if_pos e] at hi ⊢
      rw [getD_snoc hi]
      by_cases e2 : i = L.length
      · rw [if_pos e2, e, e2, upd_n (by omega)]
        rcases (by omega : w = 0 ∨ w = 1 ∨ w = 2 ∨ w = 3) with rfl | rfl | rfl | rfl
        · rw [upd_n (by omega), upd_n (by omega), upd_n (by omega), show 0 + (2 + 33 * P.length + 4 * L.length + 0) = 2 + 33 * P.length + 4 * L.length by omega, upd_s]
        · rw [upd_n (by omega), upd_n (by omega), show 0 + (2 + 33 * P.length + 4 * L.length + 1) = 2 + 33 * P.length + 4 * L.length + 1 by omega, upd_s]
        · rw [upd_n (by omega), show 0 + (2 + 33 * P.length + 4 * L.length + 2) = 2 + 33 * P.length + 4 * L.length + 2 by omega, upd_s]
        · rw [show 0 + (2 + 33 * P.length + 4 * L.length + 3) = 2 + 33 * P.length + 4 * L.length + 3 by omega, upd_s]
      · have hi' : i < L.length := by simp at hi; omega
        have q := r3 m i w (by simpa using hm) (by rw [lnN_app, if_pos e]; exact hi') hw
        rw [upd_n (by omega), gt_app, if_pos e] at q
        rw [if_neg e2, upd_n (by omega), upd_n (by omega), upd_n (by omega), upd_n (by omega), upd_n (by omega)]
        exact q
    · have hm' : m < P.length := by simp at hm; omega
      rw [if_neg e] at hi
      have h8 := hV m
      have q := r3 m i w (by simpa using hm) (by rw [lnN_app, if_neg e]; exact hi) hw
      rw [upd_n (by omega), gt_app, if_neg e] at q
      rw [if_neg e, upd_n (by omega), upd_n (by omega), upd_n (by omega), upd_n (by omega), upd_n (by omega)]
      exact q
theorem rwm_end {f : Nat → Int32} {P : Prog} {L : List Ln} (h : RWm f P L) : RW (upd f 0 (nI (P.length + 1))) 0 (P ++ [L]) := h.2
theorem rwm_cnt {f : Nat → Int32} {P : Prog} {L : List Ln} (h : RWm f P L) : f (1 + 33 * P.length) = nI L.length := by
  have q := h.2.2.1 P.length (by simp)
  rw [upd_n (by omega), lnN_app, if_pos rfl, show 0 + (1 + 33 * P.length) = 1 + 33 * P.length by omega] at q
  exact q
def rmO (tx : List Nat) (p : Nat) (P : Prog) (C : Cls) (b : Nat) (h' : Hp) : Prop := match rMeth tx P.length p C with
  | .error e => b = 0 ∧ h' 50 9 = nI e
  | .ok z => b = 1 ∧ ∃ q s l r c, MR h' tx q z.2.1 s l r c ∧ Nx tx q = z.2.2 ∧ RW (h' 52) 0 (P ++ [z.1]) ∧ z.2.1.length ≤ C.length + 8
theorem rm_e {tx : List Nat} {p e : Nat} {P : Prog} {C : Cls} {h' : Hp} (hr : rMeth tx P.length p C = .error e) (h9 : h' 50 9 = nI e) : rmO tx p P C 0 h' := by
  unfold rmO
  rw [hr]
  exact ⟨rfl, h9⟩
theorem rm_o {tx : List Nat} {p q : Nat} {P : Prog} {C C1 : Cls} {h' : Hp} {L : List Ln} {s l r c : Int32} (hr : rMeth tx P.length p C = .ok (L, C1, Nx tx q)) (hM : MR h' tx q C1 s l r c) (hW : RW (h' 52) 0 (P ++ [L])) (hl : C1.length ≤ C.length + 8) : rmO tx p P C 1 h' := by
  unfold rmO
  rw [hr]
  exact ⟨rfl, q, s, l, r, c, hM, rfl, hW, hl⟩
theorem rlO_0 {tx : List Nat} {m p b : Nat} {C : Cls} {h' : Hp} (k : rlO tx m p C b h') (hb : b = 0) : ∃ e, rSemi tx (rLine tx m p) = .error e ∧ h' 50 9 = nI e := by
  unfold rlO at k
  cases hr : rLine tx m p with
  | error e => rw [hr] at k; exact ⟨e, rfl, k.2⟩
  | ok z =>
    rw [hr] at k
    by_cases q : kd tx z.2 = 59
    · simp only [q, if_true] at k
      have := k.1; omega
    · simp only [q, if_false] at k
      exact ⟨z.2, if_neg q, k.2⟩
theorem rlO_1 {tx : List Nat} {m p b : Nat} {C : Cls} {h' : Hp} (k : rlO tx m p C b h') (hb : ¬ b = 0) : ∃ z e r', rSemi tx (rLine tx m p) = .ok (z, Nx tx e) ∧ MR h' tx e (addC tx z p C) (nI z.1) (nI z.2.1) r' (cmp z 3) ∧ (z.1 ≠ 0 → z.1 ≠ 5 → r' = cmp z 2) ∧ rLine tx m p = .ok (z, e) := by
  unfold rlO at k
  cases hr : rLine tx m p with
  | error e => rw [hr] at k; exact absurd k.1 hb
  | ok z =>
    rw [hr] at k
    obtain ⟨z1, z2⟩ := z
    by_cases q : kd tx z2 = 59
    · simp only [q, if_true] at k
      obtain ⟨_, r', k1, k2⟩ := k
      exact ⟨z1, z2, r', if_pos q, k1, k2, rfl⟩
    · simp only [q, if_false] at k
      exact absurd k.1 hb
theorem addC_le {tx : List Nat} {l : Ln} {p : Nat} {C : Cls} : (addC tx l p C).length ≤ C.length + 1 := by
  unfold addC
  split <;> simp
set_option maxHeartbeats 4000000 in
set_option maxRecDepth 100000 in
theorem c_mreadM4 {a : Am} {S : St} {h : Hp} (hS : IsSt S) {tx : List Nat} (hv : TV tx) {p : Nat} {C : Cls} {s l r c : Int32} (hR0 : MR h tx p C s l r c) {P : Prog} (hW : RW (h 52) 0 P) (hP4 : P.length = 4) : CT a 0 mX10_readMethod [rv a 50] S h (Rt (nI 0) S h) := by
  have hmk := mkd_lt (k := kd tx p)
  refine met_of (by decide +kernel) (Nat.le_of_ble_eq_true rfl) ?_
  show T a 0 mX10_readMethod 0 [(0, rv a 50)] [] S h _
  refine tr_aload_n (pc := 0) 0 dX10_readMethod_0 rfl rfl ?_
  refine tr_getI (pc := 1) (x := nI (mkd (kd tx p))) dX10_readMethod_1 (hS.1 50 (13, 45) rfl) fi_X10_106 rfl hR0.2.1.1 ?_
  refine tr_bipush (pc := 4) (v := nI 123) dX10_readMethod_4 (by decide) ?_
  refine tr_icmp_ne (pc := 6) (tgt := 19) dX10_readMethod_6 (by decide) (nI_eq (by omega) (by omega)) (fun hb6 => ?_) (fun hb6 => ?_)
  · skip
    refine tr_iconst (pc := 19) (v := nI 0) dX10_readMethod_19 (by decide) ?_
    exact tr_iret (pc := 20) dX10_readMethod_20 rfl (by decide) (⟨rfl, rfl, rfl⟩)
  · skip
    refine tr_aload_n (pc := 9) 0 dX10_readMethod_9 rfl rfl ?_
    refine tr_getR (pc := 10) (q := 52) dX10_readMethod_10 (hS.1 50 (13, 45) rfl) fi_X10_13 rfl (hS.2 50 1 52 rfl) ?_
    refine tr_iconst (pc := 13) (v := nI 0) dX10_readMethod_13 (by decide) ?_
    refine tr_iald (pc := 14) (v := nI 4) 0 dX10_readMethod_14 (hS.1 52 (0, 133) rfl) rfl (by omega) (by decide) (by rw [← hP4]; exact hW.1) ?_
    refine tr_iconst (pc := 15) (v := nI 4) dX10_readMethod_15 (by decide) ?_
    refine tr_icmp_ne (pc := 16) (tgt := 21) dX10_readMethod_16 (by decide) (nI_eq (by omega) (by omega)) (fun hcc => absurd (by decide) hcc) (fun _ => ?_)
    refine tr_iconst (pc := 19) (v := nI 0) dX10_readMethod_19 (by decide) ?_
    exact tr_iret (pc := 20) dX10_readMethod_20 rfl (by decide) (⟨rfl, rfl, rfl⟩)

set_option maxHeartbeats 4000000 in
set_option maxRecDepth 100000 in
theorem c_mreadMethod {a : Am} {S : St} {h : Hp} (hS : IsSt S) {tx : List Nat} (hv : TV tx) {p : Nat} {C : Cls} {s l r c : Int32} (hR0 : MR h tx p C s l r c) {P : Prog} (hW : RW (h 52) 0 P) (hV : VB P) (hP4 : P.length < 4) (hC : C.length ≤ 8 * P.length) : CT a 6 mX10_readMethod [rv a 50] S h (fun v S' h' => ∃ b, v = some (.int (nI b)) ∧ b ≤ 1 ∧ S = S' ∧ FRd h h' ∧ rmO tx p P C b h') := by
  have hmk := mkd_lt (k := kd tx p)
  refine met_of (by decide +kernel) (Nat.le_of_ble_eq_true rfl) ?_
  show T a 6 mX10_readMethod 0 [(0, rv a 50)] [] S h _
  refine tr_aload_n (pc := 0) 0 dX10_readMethod_0 rfl rfl ?_
  refine tr_getI (pc := 1) (x := nI (mkd (kd tx p))) dX10_readMethod_1 (hS.1 50 (13, 45) rfl) fi_X10_106 rfl hR0.2.1.1 ?_
  refine tr_bipush (pc := 4) (v := nI 123) dX10_readMethod_4 (by decide) ?_
  refine tr_icmp_ne (pc := 6) (tgt := 19) dX10_readMethod_6 (by decide) (nI_eq (by omega) (by omega)) (fun hb6 => ?_) (fun hb6 => ?_)
  · skip
    have hk : ¬ kd tx p = 123 := fun z => hb6 ((mkd_b (by decide)).2 z)
    refine tr_iconst (pc := 19) (v := nI 0) dX10_readMethod_19 (by decide) ?_
    exact tr_iret (pc := 20) dX10_readMethod_20 rfl (by decide) (⟨0, rfl, by decide, rfl, Fm.rf, rm_e (by unfold rMeth; rw [if_neg hk]) hR0.2.1.2.1⟩)
  · skip
    have hk : kd tx p = 123 := (mkd_b (by decide)).1 hb6
    refine tr_aload_n (pc := 9) 0 dX10_readMethod_9 rfl rfl ?_
    refine tr_getR (pc := 10) (q := 52) dX10_readMethod_10 (hS.1 50 (13, 45) rfl) fi_X10_13 rfl (hS.2 50 1 52 rfl) ?_
    refine tr_iconst (pc := 13) (v := nI 0) dX10_readMethod_13 (by decide) ?_
    refine tr_iald (pc := 14) (v := nI P.length) 0 dX10_readMethod_14 (hS.1 52 (0, 133) rfl) rfl (by omega) (by decide) hW.1 ?_
    refine tr_iconst (pc := 15) (v := nI 4) dX10_readMethod_15 (by decide) ?_
    refine tr_icmp_ne (pc := 16) (tgt := 21) dX10_readMethod_16 (by decide) (nI_eq (by omega) (by omega)) (fun _ => ?_) (fun hcc => absurd hcc (by omega))
    refine tr_iconst (pc := 21) (v := nI 1) dX10_readMethod_21 (by decide) ?_
    refine tr_bipush (pc := 22) (v := nI 33) dX10_readMethod_22 (by decide) ?_
    refine tr_aload_n (pc := 24) 0 dX10_readMethod_24 rfl rfl ?_
    refine tr_getR (pc := 25) (q := 52) dX10_readMethod_25 (hS.1 50 (13, 45) rfl) fi_X10_13 rfl (hS.2 50 1 52 rfl) ?_
    refine tr_iconst (pc := 28) (v := nI 0) dX10_readMethod_28 (by decide) ?_
    refine tr_iald (pc := 29) (v := nI P.length) 0 dX10_readMethod_29 (hS.1 52 (0, 133) rfl) rfl (by omega) (by decide) hW.1 ?_
    refine tr_imul (pc := 30) (v := nI (33 * P.length)) dX10_readMethod_30 (pk_mul _ _) ?_
    refine tr_iadd (pc := 31) (v := nI (1 + 33 * P.length)) dX10_readMethod_31 (nI_add _ _) ?_
    refine tr_istore_n (pc := 32) (lv' := [(1, .int (nI (1 + 33 * P.length))), (0, rv a 50)]) dX10_readMethod_32 rfl (by decide) rfl ?_
    refine tr_aload_n (pc := 33) 1 dX10_readMethod_33 rfl rfl ?_
    refine tr_getR (pc := 34) (q := 52) dX10_readMethod_34 (hS.1 50 (13, 45) rfl) fi_X10_13 rfl (hS.2 50 1 52 rfl) ?_
    refine tr_iload_n (pc := 37) 0 dX10_readMethod_37 rfl rfl ?_
    refine tr_iconst (pc := 38) (v := nI 0) dX10_readMethod_38 (by decide) ?_
    refine tr_iast (pc := 39) (1 + 33 * P.length) dX10_readMethod_39 (hS.1 52 (0, 133) rfl) rfl (by omega) (by decide) ?_
    have hR1 := hR0.r52 (f := upd (h 52) (1 + 33 * P.length) (nI 0))
    have hW1 : RWm (hs h 52 (upd (h 52) (1 + 33 * P.length) (nI 0)) 52) P [] := by rw [hs_same]; exact rwm_0 hV.2.1 hW
    have hF1 : FRd h (hs h 52 (upd (h 52) (1 + 33 * P.length) (nI 0))) := Fm.rf.set (by decide) (by decide)
    generalize hs h 52 (upd (h 52) (1 + 33 * P.length) (nI 0)) = h1 at hR1 hW1 hF1 ⊢
    refine tr_aload_n (pc := 40) 1 dX10_readMethod_40 rfl rfl ?_
    refine tr_callV (pc := 41) (rest := []) (ci := 10) dX10_readMethod_41 ml_X10_117 cv_X10_next rfl rfl (Nat.le_of_ble_eq_true rfl) (hS.1 50 (13, 45) rfl) rfl (by decide) (c_nx hS hv hR1) ?_
    rintro _ _ h2 ⟨rfl, rfl, hR2, hG2⟩
    show T a 6 mX10_readMethod 44 [(1, .int (nI (1 + 33 * P.length))), (0, rv a 50)] [] S h2 _
    refine tr_sub (pc := 44) (lv' := [(0, rv a 50), (1, .int (nI (1 + 33 * P.length)))]) [1, 0] rfl ?_
    have L44 : ∀ (fu : Nat) (L : List Ln) (q : Nat) (C1 : Cls) (s1 l1 r1 c1 : Int32) (h3 : Hp), 8 - L.length < fu → L.length ≤ 8 → MR h3 tx q C1 s1 l1 r1 c1 → RWm (h3 52) P L → FRd h h3 → C1.length ≤ C.length + L.length → rMeth tx P.length p C = rBody tx P.length (8 - L.length) q L C1 → T a 6 mX10_readMethod 44 [(0, rv a 50), (1, .int (nI (1 + 33 * P.length)))] [] S h3 (fun v S' h' => ∃ b, v = some (.int (nI b)) ∧ b ≤ 1 ∧ S = S' ∧ FRd h h' ∧ rmO tx p P C b h') := by
      intro fu
      induction fu with
      | zero => intro L q C1 s1 l1 r1 c1 h3 hu hL8 hR3 hW3 hF3 hC1 hE; omega
      | succ fu ih =>
        intro L q C1 s1 l1 r1 c1 h3 hu hL8 hR3 hW3 hF3 hC1 hE
        have hmk3 := mkd_lt (k := kd tx q)
        refine tr_aload_n (pc := 44) 0 dX10_readMethod_44 rfl rfl ?_
        refine tr_getI (pc := 45) (x := nI (mkd (kd tx q))) dX10_readMethod_45 (hS.1 50 (13, 45) rfl) fi_X10_106 rfl hR3.2.1.1 ?_
        refine tr_bipush (pc := 48) (v := nI 125) dX10_readMethod_48 (by decide) ?_
        refine tr_icmp_eq (pc := 50) (tgt := 174) dX10_readMethod_50 (by decide) (nI_eq (by omega) (by omega)) (fun hb50 => ?_) (fun hb50 => ?_)
        · skip
          have h125 : kd tx q = 125 := (mkd_b (by decide)).1 hb50
          refine tr_aload_n (pc := 174) 0 dX10_readMethod_174 rfl rfl ?_
          refine tr_getR (pc := 175) (q := 52) dX10_readMethod_175 (hS.1 50 (13, 45) rfl) fi_X10_13 rfl (hS.2 50 1 52 rfl) ?_
          refine tr_iconst (pc := 178) (v := nI 0) dX10_readMethod_178 (by decide) ?_
          refine tr_dup2 (pc := 179) dX10_readMethod_179 rfl rfl ?_
          refine tr_iald (pc := 180) (v := nI P.length) 0 dX10_readMethod_180 (hS.1 52 (0, 133) rfl) rfl (by omega) (by decide) hW3.1 ?_
          refine tr_iconst (pc := 181) (v := nI 1) dX10_readMethod_181 (by decide) ?_
          refine tr_iadd (pc := 182) (v := nI (P.length + 1)) dX10_readMethod_182 (nI_add _ _) ?_
          refine tr_iast (pc := 183) 0 dX10_readMethod_183 (hS.1 52 (0, 133) rfl) rfl (by decide) (by decide) ?_
          refine tr_iconst (pc := 184) (v := nI 1) dX10_readMethod_184 (by decide) ?_
          exact tr_iret (pc := 185) dX10_readMethod_185 rfl (by decide) (⟨1, rfl, by decide, rfl, Fm.set hF3 (by decide) (by decide), rm_o (L := L) (C1 := C1) (q := q) (by rw [hE, rb_end h125]) hR3.r52 (by rw [hs_same]; exact hW3.2) (by omega)⟩)
        · skip
          have h125 : ¬ kd tx q = 125 := fun z => hb50 ((mkd_b (by decide)).2 z)
          refine tr_aload_n (pc := 53) 0 dX10_readMethod_53 rfl rfl ?_
          refine tr_getR (pc := 54) (q := 52) dX10_readMethod_54 (hS.1 50 (13, 45) rfl) fi_X10_13 rfl (hS.2 50 1 52 rfl) ?_
          refine tr_iload_n (pc := 57) 1 dX10_readMethod_57 rfl rfl ?_
          refine tr_iald (pc := 58) (v := nI L.length) (1 + 33 * P.length) dX10_readMethod_58 (hS.1 52 (0, 133) rfl) rfl (by omega) (by decide) (rwm_cnt hW3) ?_
          refine tr_bipush (pc := 59) (v := nI 8) dX10_readMethod_59 (by decide) ?_
          refine tr_icmp_eq (pc := 61) (tgt := 77) dX10_readMethod_61 (by decide) (nI_eq (by omega) (by omega)) (fun hb61 => ?_) (fun hb61 => ?_)
          · skip
            refine tr_iconst (pc := 77) (v := nI 0) dX10_readMethod_77 (by decide) ?_
            exact tr_iret (pc := 78) dX10_readMethod_78 rfl (by decide) (⟨0, rfl, by decide, rfl, hF3, rm_e (by rw [hE, show 8 - L.length = 0 by omega, rb_0 h125]) hR3.2.1.2.1⟩)
          · skip
            refine tr_aload_n (pc := 64) 0 dX10_readMethod_64 rfl rfl ?_
            refine tr_aload_n (pc := 65) 0 dX10_readMethod_65 rfl rfl ?_
            refine tr_getR (pc := 66) (q := 52) dX10_readMethod_66 (hS.1 50 (13, 45) rfl) fi_X10_13 rfl (hS.2 50 1 52 rfl) ?_
            refine tr_iconst (pc := 69) (v := nI 0) dX10_readMethod_69 (by decide) ?_
            refine tr_iald (pc := 70) (v := nI P.length) 0 dX10_readMethod_70 (hS.1 52 (0, 133) rfl) rfl (by omega) (by decide) hW3.1 ?_
            refine tr_callV (pc := 71) (rest := []) (ci := 10) dX10_readMethod_71 ml_X10_150 cv_X10_readLine rfl rfl (Nat.le_of_ble_eq_true rfl) (hS.1 50 (13, 45) rfl) rfl (by decide) (c_mreadLine hS hv hR3 (m := P.length) (by omega) (by omega)) ?_
            rintro _ _ h4 ⟨b, rfl, hb1, rfl, hG4, hO⟩
            have hF4 : FRd h h4 := hF3.trans (FR.d hG4)
            show T a 6 mX10_readMethod 74 [(0, rv a 50), (1, .int (nI (1 + 33 * P.length)))] [.int (nI b)] S h4 _
            refine tr_if_ne (pc := 74) (tgt := 79) dX10_readMethod_74 (by decide) (nI_z_eq (by omega)) (fun hb74 => ?_) (fun hb74 => ?_)
            · skip
              obtain ⟨z, e, r2, he, hR4, hr2, hel⟩ := rlO_1 hO hb74
              have hW4 : RWm (h4 52) P L := by rw [FR.r52 hG4]; exact hW3
              have hokl := (rLine_ok hP4 hel).1
              have hz8 := hokl.1
              refine tr_iload_n (pc := 79) 1 dX10_readMethod_79 rfl rfl ?_
              refine tr_iconst (pc := 80) (v := nI 1) dX10_readMethod_80 (by decide) ?_
              refine tr_iadd (pc := 81) (v := nI (1 + 33 * P.length + 1)) dX10_readMethod_81 (nI_add _ _) ?_
              refine tr_iconst (pc := 82) (v := nI 4) dX10_readMethod_82 (by decide) ?_
              refine tr_aload_n (pc := 83) 0 dX10_readMethod_83 rfl rfl ?_
              refine tr_getR (pc := 84) (q := 52) dX10_readMethod_84 (hS.1 50 (13, 45) rfl) fi_X10_13 rfl (hS.2 50 1 52 rfl) ?_
              refine tr_iload_n (pc := 87) 1 dX10_readMethod_87 rfl rfl ?_
              refine tr_iald (pc := 88) (v := nI L.length) (1 + 33 * P.length) dX10_readMethod_88 (hS.1 52 (0, 133) rfl) rfl (by omega) (by decide) (rwm_cnt hW4) ?_
              refine tr_imul (pc := 89) (v := nI (4 * L.length)) dX10_readMethod_89 (pk_mul _ _) ?_
              refine tr_iadd (pc := 90) (v := nI (2 + 33 * P.length + 4 * L.length)) dX10_readMethod_90 (by rw [nI_add]; congr 1; omega) ?_
              refine tr_istore_n (pc := 91) (lv' := [(2, .int (nI (2 + 33 * P.length + 4 * L.length))), (0, rv a 50), (1, .int (nI (1 + 33 * P.length)))]) dX10_readMethod_91 rfl (by decide) rfl ?_
              refine tr_aload_n (pc := 92) 1 dX10_readMethod_92 rfl rfl ?_
              refine tr_getR (pc := 93) (q := 52) dX10_readMethod_93 (hS.1 50 (13, 45) rfl) fi_X10_13 rfl (hS.2 50 1 52 rfl) ?_
              refine tr_iload_n (pc := 96) 0 dX10_readMethod_96 rfl rfl ?_
              refine tr_aload_n (pc := 97) 1 dX10_readMethod_97 rfl rfl ?_
              refine tr_getI (pc := 98) (x := nI z.1) dX10_readMethod_98 (hS.1 50 (13, 45) rfl) fi_X10_127 rfl hR4.2.2.2.1 ?_
              refine tr_iast (pc := 101) (2 + 33 * P.length + 4 * L.length) dX10_readMethod_101 (hS.1 52 (0, 133) rfl) rfl (by omega) (by decide) ?_
              skip
              refine tr_aload_n (pc := 102) 1 dX10_readMethod_102 rfl rfl ?_
              refine tr_getR (pc := 103) (q := 52) dX10_readMethod_103 (hS.1 50 (13, 45) rfl) fi_X10_13 rfl (hS.2 50 1 52 rfl) ?_
              refine tr_iload_n (pc := 106) 0 dX10_readMethod_106 rfl rfl ?_
              refine tr_iconst (pc := 107) (v := nI 1) dX10_readMethod_107 (by decide) ?_
              refine tr_iadd (pc := 108) (v := nI (2 + 33 * P.length + 4 * L.length + 1)) dX10_readMethod_108 (nI_add _ _) ?_
              refine tr_aload_n (pc := 109) 1 dX10_readMethod_109 rfl rfl ?_
              refine tr_getI (pc := 110) (x := nI z.2.1) dX10_readMethod_110 (hS.1 50 (13, 45) rfl) fi_X10_144 rfl hR4.2.2.2.2.1 ?_
              refine tr_iast (pc := 113) (2 + 33 * P.length + 4 * L.length + 1) dX10_readMethod_113 (hS.1 52 (0, 133) rfl) rfl (by omega) (by decide) ?_
              rw [show hs (hs h4 52 (upd (h4 52) (2 + 33 * P.length + 4 * L.length) (nI z.1))) 52 (upd (hs h4 52 (upd (h4 52) (2 + 33 * P.length + 4 * L.length) (nI z.1)) 52) (2 + 33 * P.length + 4 * L.length + 1) (nI z.2.1)) = hs h4 52 (upd (upd (h4 52) (2 + 33 * P.length + 4 * L.length) (nI z.1)) (2 + 33 * P.length + 4 * L.length + 1) (nI z.2.1)) from by rw [hs_same, hs_hs]]
              refine tr_aload_n (pc := 114) 1 dX10_readMethod_114 rfl rfl ?_
              refine tr_getR (pc := 115) (q := 52) dX10_readMethod_115 (hS.1 50 (13, 45) rfl) fi_X10_13 rfl (hS.2 50 1 52 rfl) ?_
              refine tr_iload_n (pc := 118) 0 dX10_readMethod_118 rfl rfl ?_
              refine tr_iconst (pc := 119) (v := nI 2) dX10_readMethod_119 (by decide) ?_
              refine tr_iadd (pc := 120) (v := nI (2 + 33 * P.length + 4 * L.length + 2)) dX10_readMethod_120 (nI_add _ _) ?_
              refine tr_aload_n (pc := 121) 1 dX10_readMethod_121 rfl rfl ?_
              refine tr_getI (pc := 122) (x := nI z.1) dX10_readMethod_122 (hS.1 50 (13, 45) rfl) fi_X10_127 rfl hR4.2.2.2.1 ?_
              refine tr_if_eq (pc := 125) (tgt := 136) dX10_readMethod_125 (by decide) (nI_z_eq (by omega)) (fun hb125 => ?_) (fun hb125 => ?_)
              · skip
                have h3v : (-1 : Int32) = cmp z 2 := by
                  show _ = if hasY z.1 = true then nI z.2.2.1 else -1
                  rw [hb125]
                  rfl
                refine tr_iconst (pc := 136) (v := -1) dX10_readMethod_136 (by decide) ?_
                refine tr_goto (pc := 137) (tgt := 144) dX10_readMethod_137 (by decide) ?_
                refine tr_iast (pc := 144) (2 + 33 * P.length + 4 * L.length + 2) dX10_readMethod_144 (hS.1 52 (0, 133) rfl) rfl (by omega) (by decide) ?_
                rw [show hs (hs h4 52 (upd (upd (h4 52) (2 + 33 * P.length + 4 * L.length) (nI z.1)) (2 + 33 * P.length + 4 * L.length + 1) (nI z.2.1))) 52 (upd (hs h4 52 (upd (upd (h4 52) (2 + 33 * P.length + 4 * L.length) (nI z.1)) (2 + 33 * P.length + 4 * L.length + 1) (nI z.2.1)) 52) (2 + 33 * P.length + 4 * L.length + 2) (-1)) = hs h4 52 (upd (upd (upd (h4 52) (2 + 33 * P.length + 4 * L.length) (nI z.1)) (2 + 33 * P.length + 4 * L.length + 1) (nI z.2.1)) (2 + 33 * P.length + 4 * L.length + 2) (-1)) from by rw [hs_same, hs_hs]]
                refine tr_aload_n (pc := 145) 1 dX10_readMethod_145 rfl rfl ?_
                refine tr_getR (pc := 146) (q := 52) dX10_readMethod_146 (hS.1 50 (13, 45) rfl) fi_X10_13 rfl (hS.2 50 1 52 rfl) ?_
                refine tr_iload_n (pc := 149) 0 dX10_readMethod_149 rfl rfl ?_
                refine tr_iconst (pc := 150) (v := nI 3) dX10_readMethod_150 (by decide) ?_
                refine tr_iadd (pc := 151) (v := nI (2 + 33 * P.length + 4 * L.length + 3)) dX10_readMethod_151 (nI_add _ _) ?_
                refine tr_aload_n (pc := 152) 1 dX10_readMethod_152 rfl rfl ?_
                refine tr_getI (pc := 153) (x := cmp z 3) dX10_readMethod_153 (hS.1 50 (13, 45) rfl) fi_X10_130 rfl hR4.2.2.2.2.2.2 ?_
                refine tr_iast (pc := 156) (2 + 33 * P.length + 4 * L.length + 3) dX10_readMethod_156 (hS.1 52 (0, 133) rfl) rfl (by omega) (by decide) ?_
                rw [show hs (hs h4 52 (upd (upd (upd (h4 52) (2 + 33 * P.length + 4 * L.length) (nI z.1)) (2 + 33 * P.length + 4 * L.length + 1) (nI z.2.1)) (2 + 33 * P.length + 4 * L.length + 2) (-1))) 52 (upd (hs h4 52 (upd (upd (upd (h4 52) (2 + 33 * P.length + 4 * L.length) (nI z.1)) (2 + 33 * P.length + 4 * L.length + 1) (nI z.2.1)) (2 + 33 * P.length + 4 * L.length + 2) (-1)) 52) (2 + 33 * P.length + 4 * L.length + 3) (cmp z 3)) = hs h4 52 (upd (upd (upd (upd (h4 52) (2 + 33 * P.length + 4 * L.length) (nI z.1)) (2 + 33 * P.length + 4 * L.length + 1) (nI z.2.1)) (2 + 33 * P.length + 4 * L.length + 2) (-1)) (2 + 33 * P.length + 4 * L.length + 3) (cmp z 3)) from by rw [hs_same, hs_hs]]
                refine tr_aload_n (pc := 157) 1 dX10_readMethod_157 rfl rfl ?_
                refine tr_getR (pc := 158) (q := 52) dX10_readMethod_158 (hS.1 50 (13, 45) rfl) fi_X10_13 rfl (hS.2 50 1 52 rfl) ?_
                refine tr_iload_n (pc := 161) 2 dX10_readMethod_161 rfl rfl ?_
                refine tr_dup2 (pc := 162) dX10_readMethod_162 rfl rfl ?_
                refine tr_iald (pc := 163) (v := nI L.length) (1 + 33 * P.length) dX10_readMethod_163 (hS.1 52 (0, 133) rfl) rfl (by omega) (by decide) (by rw [hs_same, upd_n (by omega), upd_n (by omega), upd_n (by omega), upd_n (by omega)]; exact rwm_cnt hW4) ?_
                refine tr_iconst (pc := 164) (v := nI 1) dX10_readMethod_164 (by decide) ?_
                refine tr_iadd (pc := 165) (v := nI (L.length + 1)) dX10_readMethod_165 (nI_add _ _) ?_
                refine tr_iast (pc := 166) (1 + 33 * P.length) dX10_readMethod_166 (hS.1 52 (0, 133) rfl) rfl (by omega) (by decide) ?_
                rw [show hs (hs h4 52 (upd (upd (upd (upd (h4 52) (2 + 33 * P.length + 4 * L.length) (nI z.1)) (2 + 33 * P.length + 4 * L.length + 1) (nI z.2.1)) (2 + 33 * P.length + 4 * L.length + 2) (-1)) (2 + 33 * P.length + 4 * L.length + 3) (cmp z 3))) 52 (upd (hs h4 52 (upd (upd (upd (upd (h4 52) (2 + 33 * P.length + 4 * L.length) (nI z.1)) (2 + 33 * P.length + 4 * L.length + 1) (nI z.2.1)) (2 + 33 * P.length + 4 * L.length + 2) (-1)) (2 + 33 * P.length + 4 * L.length + 3) (cmp z 3)) 52) (1 + 33 * P.length) (nI (L.length + 1))) = hs h4 52 (upd (upd (upd (upd (upd (h4 52) (2 + 33 * P.length + 4 * L.length) (nI z.1)) (2 + 33 * P.length + 4 * L.length + 1) (nI z.2.1)) (2 + 33 * P.length + 4 * L.length + 2) (-1)) (2 + 33 * P.length + 4 * L.length + 3) (cmp z 3)) (1 + 33 * P.length) (nI (L.length + 1))) from by rw [hs_same, hs_hs]]
                have hR5 := hR4.r52 (f := upd (upd (upd (upd (upd (h4 52) (2 + 33 * P.length + 4 * L.length) (nI z.1)) (2 + 33 * P.length + 4 * L.length + 1) (nI z.2.1)) (2 + 33 * P.length + 4 * L.length + 2) (-1)) (2 + 33 * P.length + 4 * L.length + 3) (cmp z 3)) (1 + 33 * P.length) (nI (L.length + 1)))
                have hW5 : RWm (hs h4 52 (upd (upd (upd (upd (upd (h4 52) (2 + 33 * P.length + 4 * L.length) (nI z.1)) (2 + 33 * P.length + 4 * L.length + 1) (nI z.2.1)) (2 + 33 * P.length + 4 * L.length + 2) (-1)) (2 + 33 * P.length + 4 * L.length + 3) (cmp z 3)) (1 + 33 * P.length) (nI (L.length + 1))) 52) P (L ++ [z]) := by
                  rw [hs_same]
                  exact rwm_add h3v hP4 hV.2.1 (by omega) hW4 rfl
                have hF5 : FRd h (hs h4 52 (upd (upd (upd (upd (upd (h4 52) (2 + 33 * P.length + 4 * L.length) (nI z.1)) (2 + 33 * P.length + 4 * L.length + 1) (nI z.2.1)) (2 + 33 * P.length + 4 * L.length + 2) (-1)) (2 + 33 * P.length + 4 * L.length + 3) (cmp z 3)) (1 + 33 * P.length) (nI (L.length + 1)))) := Fm.set hF4 (by decide) (by decide)
                generalize hs h4 52 (upd (upd (upd (upd (upd (h4 52) (2 + 33 * P.length + 4 * L.length) (nI z.1)) (2 + 33 * P.length + 4 * L.length + 1) (nI z.2.1)) (2 + 33 * P.length + 4 * L.length + 2) (-1)) (2 + 33 * P.length + 4 * L.length + 3) (cmp z 3)) (1 + 33 * P.length) (nI (L.length + 1))) = h5 at hR5 hW5 hF5 ⊢
                refine tr_aload_n (pc := 167) 1 dX10_readMethod_167 rfl rfl ?_
                refine tr_callV (pc := 168) (rest := []) (ci := 10) dX10_readMethod_168 ml_X10_117 cv_X10_next rfl rfl (Nat.le_of_ble_eq_true rfl) (hS.1 50 (13, 45) rfl) rfl (by decide) (c_nx hS hv hR5) ?_
                rintro _ _ h6 ⟨rfl, rfl, hR6, hG6⟩
                show T a 6 mX10_readMethod 171 [(2, .int (nI (2 + 33 * P.length + 4 * L.length))), (0, rv a 50), (1, .int (nI (1 + 33 * P.length)))] [] S h6 _
                refine tr_goto (pc := 171) (tgt := 44) dX10_readMethod_171 (by decide) ?_
                refine tr_sub (pc := 44) (lv' := [(0, rv a 50), (1, .int (nI (1 + 33 * P.length)))]) [1, 2] rfl ?_
                exact ih (L ++ [z]) (Nx tx e) (addC tx z q C1) _ _ _ _ h6 (by simp; omega) (by simp; omega) hR6 (by rw [FR.r52 hG6]; exact hW5) (hF5.trans (FR.d hG6)) (by have := addC_le (tx := tx) (l := z) (p := q) (C := C1); simp; omega) (by
                  obtain ⟨f, hf⟩ : ∃ f, 8 - L.length = f + 1 := ⟨8 - L.length - 1, by omega⟩
                  rw [hE, hf, rb_s h125, he]
                  show rBody _ _ f _ _ _ = _
                  rw [show 8 - (L ++ [z]).length = f by simp; omega])
              · skip
                refine tr_aload_n (pc := 128) 1 dX10_readMethod_128 rfl rfl ?_
                refine tr_getI (pc := 129) (x := nI z.1) dX10_readMethod_129 (hS.1 50 (13, 45) rfl) fi_X10_127 rfl hR4.2.2.2.1 ?_
                refine tr_iconst (pc := 132) (v := nI 5) dX10_readMethod_132 (by decide) ?_
                refine tr_icmp_ne (pc := 133) (tgt := 140) dX10_readMethod_133 (by decide) (nI_eq (by omega) (by omega)) (fun hb133 => ?_) (fun hb133 => ?_)
                · skip
                  have h3v : r2 = cmp z 2 := hr2 hb125 hb133
                  refine tr_aload_n (pc := 140) 1 dX10_readMethod_140 rfl rfl ?_
                  refine tr_getI (pc := 141) (x := r2) dX10_readMethod_141 (hS.1 50 (13, 45) rfl) fi_X10_124 rfl hR4.2.2.2.2.2.1 ?_
                  refine tr_iast (pc := 144) (2 + 33 * P.length + 4 * L.length + 2) dX10_readMethod_144 (hS.1 52 (0, 133) rfl) rfl (by omega) (by decide) ?_
                  rw [show hs (hs h4 52 (upd (upd (h4 52) (2 + 33 * P.length + 4 * L.length) (nI z.1)) (2 + 33 * P.length + 4 * L.length + 1) (nI z.2.1))) 52 (upd (hs h4 52 (upd (upd (h4 52) (2 + 33 * P.length + 4 * L.length) (nI z.1)) (2 + 33 * P.length + 4 * L.length + 1) (nI z.2.1)) 52) (2 + 33 * P.length + 4 * L.length + 2) r2) = hs h4 52 (upd (upd (upd (h4 52) (2 + 33 * P.length + 4 * L.length) (nI z.1)) (2 + 33 * P.length + 4 * L.length + 1) (nI z.2.1)) (2 + 33 * P.length + 4 * L.length + 2) r2) from by rw [hs_same, hs_hs]]
                  refine tr_aload_n (pc := 145) 1 dX10_readMethod_145 rfl rfl ?_
                  refine tr_getR (pc := 146) (q := 52) dX10_readMethod_146 (hS.1 50 (13, 45) rfl) fi_X10_13 rfl (hS.2 50 1 52 rfl) ?_
                  refine tr_iload_n (pc := 149) 0 dX10_readMethod_149 rfl rfl ?_
                  refine tr_iconst (pc := 150) (v := nI 3) dX10_readMethod_150 (by decide) ?_
                  refine tr_iadd (pc := 151) (v := nI (2 + 33 * P.length + 4 * L.length + 3)) dX10_readMethod_151 (nI_add _ _) ?_
                  refine tr_aload_n (pc := 152) 1 dX10_readMethod_152 rfl rfl ?_
                  refine tr_getI (pc := 153) (x := cmp z 3) dX10_readMethod_153 (hS.1 50 (13, 45) rfl) fi_X10_130 rfl hR4.2.2.2.2.2.2 ?_
                  refine tr_iast (pc := 156) (2 + 33 * P.length + 4 * L.length + 3) dX10_readMethod_156 (hS.1 52 (0, 133) rfl) rfl (by omega) (by decide) ?_
                  rw [show hs (hs h4 52 (upd (upd (upd (h4 52) (2 + 33 * P.length + 4 * L.length) (nI z.1)) (2 + 33 * P.length + 4 * L.length + 1) (nI z.2.1)) (2 + 33 * P.length + 4 * L.length + 2) r2)) 52 (upd (hs h4 52 (upd (upd (upd (h4 52) (2 + 33 * P.length + 4 * L.length) (nI z.1)) (2 + 33 * P.length + 4 * L.length + 1) (nI z.2.1)) (2 + 33 * P.length + 4 * L.length + 2) r2) 52) (2 + 33 * P.length + 4 * L.length + 3) (cmp z 3)) = hs h4 52 (upd (upd (upd (upd (h4 52) (2 + 33 * P.length + 4 * L.length) (nI z.1)) (2 + 33 * P.length + 4 * L.length + 1) (nI z.2.1)) (2 + 33 * P.length + 4 * L.length + 2) r2) (2 + 33 * P.length + 4 * L.length + 3) (cmp z 3)) from by rw [hs_same, hs_hs]]
                  refine tr_aload_n (pc := 157) 1 dX10_readMethod_157 rfl rfl ?_
                  refine tr_getR (pc := 158) (q := 52) dX10_readMethod_158 (hS.1 50 (13, 45) rfl) fi_X10_13 rfl (hS.2 50 1 52 rfl) ?_
                  refine tr_iload_n (pc := 161) 2 dX10_readMethod_161 rfl rfl ?_
                  refine tr_dup2 (pc := 162) dX10_readMethod_162 rfl rfl ?_
                  refine tr_iald (pc := 163) (v := nI L.length) (1 + 33 * P.length) dX10_readMethod_163 (hS.1 52 (0, 133) rfl) rfl (by omega) (by decide) (by rw [hs_same, upd_n (by omega), upd_n (by omega), upd_n (by omega), upd_n (by omega)]; exact rwm_cnt hW4) ?_
                  refine tr_iconst (pc := 164) (v := nI 1) dX10_readMethod_164 (by decide) ?_
                  refine tr_iadd (pc := 165) (v := nI (L.length + 1)) dX10_readMethod_165 (nI_add _ _) ?_
                  refine tr_iast (pc := 166) (1 + 33 * P.length) dX10_readMethod_166 (hS.1 52 (0, 133) rfl) rfl (by omega) (by decide) ?_
                  rw [show hs (hs h4 52 (upd (upd (upd (upd (h4 52) (2 + 33 * P.length + 4 * L.length) (nI z.1)) (2 + 33 * P.length + 4 * L.length + 1) (nI z.2.1)) (2 + 33 * P.length + 4 * L.length + 2) r2) (2 + 33 * P.length + 4 * L.length + 3) (cmp z 3))) 52 (upd (hs h4 52 (upd (upd (upd (upd (h4 52) (2 + 33 * P.length + 4 * L.length) (nI z.1)) (2 + 33 * P.length + 4 * L.length + 1) (nI z.2.1)) (2 + 33 * P.length + 4 * L.length + 2) r2) (2 + 33 * P.length + 4 * L.length + 3) (cmp z 3)) 52) (1 + 33 * P.length) (nI (L.length + 1))) = hs h4 52 (upd (upd (upd (upd (upd (h4 52) (2 + 33 * P.length + 4 * L.length) (nI z.1)) (2 + 33 * P.length + 4 * L.length + 1) (nI z.2.1)) (2 + 33 * P.length + 4 * L.length + 2) r2) (2 + 33 * P.length + 4 * L.length + 3) (cmp z 3)) (1 + 33 * P.length) (nI (L.length + 1))) from by rw [hs_same, hs_hs]]
                  have hR5 := hR4.r52 (f := upd (upd (upd (upd (upd (h4 52) (2 + 33 * P.length + 4 * L.length) (nI z.1)) (2 + 33 * P.length + 4 * L.length + 1) (nI z.2.1)) (2 + 33 * P.length + 4 * L.length + 2) r2) (2 + 33 * P.length + 4 * L.length + 3) (cmp z 3)) (1 + 33 * P.length) (nI (L.length + 1)))
                  have hW5 : RWm (hs h4 52 (upd (upd (upd (upd (upd (h4 52) (2 + 33 * P.length + 4 * L.length) (nI z.1)) (2 + 33 * P.length + 4 * L.length + 1) (nI z.2.1)) (2 + 33 * P.length + 4 * L.length + 2) r2) (2 + 33 * P.length + 4 * L.length + 3) (cmp z 3)) (1 + 33 * P.length) (nI (L.length + 1))) 52) P (L ++ [z]) := by
                    rw [hs_same]
                    exact rwm_add h3v hP4 hV.2.1 (by omega) hW4 rfl
                  have hF5 : FRd h (hs h4 52 (upd (upd (upd (upd (upd (h4 52) (2 + 33 * P.length + 4 * L.length) (nI z.1)) (2 + 33 * P.length + 4 * L.length + 1) (nI z.2.1)) (2 + 33 * P.length + 4 * L.length + 2) r2) (2 + 33 * P.length + 4 * L.length + 3) (cmp z 3)) (1 + 33 * P.length) (nI (L.length + 1)))) := Fm.set hF4 (by decide) (by decide)
                  generalize hs h4 52 (upd (upd (upd (upd (upd (h4 52) (2 + 33 * P.length + 4 * L.length) (nI z.1)) (2 + 33 * P.length + 4 * L.length + 1) (nI z.2.1)) (2 + 33 * P.length + 4 * L.length + 2) r2) (2 + 33 * P.length + 4 * L.length + 3) (cmp z 3)) (1 + 33 * P.length) (nI (L.length + 1))) = h5 at hR5 hW5 hF5 ⊢
                  refine tr_aload_n (pc := 167) 1 dX10_readMethod_167 rfl rfl ?_
                  refine tr_callV (pc := 168) (rest := []) (ci := 10) dX10_readMethod_168 ml_X10_117 cv_X10_next rfl rfl (Nat.le_of_ble_eq_true rfl) (hS.1 50 (13, 45) rfl) rfl (by decide) (c_nx hS hv hR5) ?_
                  rintro _ _ h6 ⟨rfl, rfl, hR6, hG6⟩
                  show T a 6 mX10_readMethod 171 [(2, .int (nI (2 + 33 * P.length + 4 * L.length))), (0, rv a 50), (1, .int (nI (1 + 33 * P.length)))] [] S h6 _
                  refine tr_goto (pc := 171) (tgt := 44) dX10_readMethod_171 (by decide) ?_
                  refine tr_sub (pc := 44) (lv' := [(0, rv a 50), (1, .int (nI (1 + 33 * P.length)))]) [1, 2] rfl ?_
                  exact ih (L ++ [z]) (Nx tx e) (addC tx z q C1) _ _ _ _ h6 (by simp; omega) (by simp; omega) hR6 (by rw [FR.r52 hG6]; exact hW5) (hF5.trans (FR.d hG6)) (by have := addC_le (tx := tx) (l := z) (p := q) (C := C1); simp; omega) (by
                    obtain ⟨f, hf⟩ : ∃ f, 8 - L.length = f + 1 := ⟨8 - L.length - 1, by omega⟩
                    rw [hE, hf, rb_s h125, he]
                    show rBody _ _ f _ _ _ = _
                    rw [show 8 - (L ++ [z]).length = f by simp; omega])
                · skip
                  have h3v : (-1 : Int32) = cmp z 2 := by
                    show _ = if hasY z.1 = true then nI z.2.2.1 else -1
                    rw [hb133]
                    rfl
                  refine tr_iconst (pc := 136) (v := -1) dX10_readMethod_136 (by decide) ?_
                  refine tr_goto (pc := 137) (tgt := 144) dX10_readMethod_137 (by decide) ?_
                  refine tr_iast (pc := 144) (2 + 33 * P.length + 4 * L.length + 2) dX10_readMethod_144 (hS.1 52 (0, 133) rfl) rfl (by omega) (by decide) ?_
                  rw [show hs (hs h4 52 (upd (upd (h4 52) (2 + 33 * P.length + 4 * L.length) (nI z.1)) (2 + 33 * P.length + 4 * L.length + 1) (nI z.2.1))) 52 (upd (hs h4 52 (upd (upd (h4 52) (2 + 33 * P.length + 4 * L.length) (nI z.1)) (2 + 33 * P.length + 4 * L.length + 1) (nI z.2.1)) 52) (2 + 33 * P.length + 4 * L.length + 2) (-1)) = hs h4 52 (upd (upd (upd (h4 52) (2 + 33 * P.length + 4 * L.length) (nI z.1)) (2 + 33 * P.length + 4 * L.length + 1) (nI z.2.1)) (2 + 33 * P.length + 4 * L.length + 2) (-1)) from by rw [hs_same, hs_hs]]
                  refine tr_aload_n (pc := 145) 1 dX10_readMethod_145 rfl rfl ?_
                  refine tr_getR (pc := 146) (q := 52) dX10_readMethod_146 (hS.1 50 (13, 45) rfl) fi_X10_13 rfl (hS.2 50 1 52 rfl) ?_
                  refine tr_iload_n (pc := 149) 0 dX10_readMethod_149 rfl rfl ?_
                  refine tr_iconst (pc := 150) (v := nI 3) dX10_readMethod_150 (by decide) ?_
                  refine tr_iadd (pc := 151) (v := nI (2 + 33 * P.length + 4 * L.length + 3)) dX10_readMethod_151 (nI_add _ _) ?_
                  refine tr_aload_n (pc := 152) 1 dX10_readMethod_152 rfl rfl ?_
                  refine tr_getI (pc := 153) (x := cmp z 3) dX10_readMethod_153 (hS.1 50 (13, 45) rfl) fi_X10_130 rfl hR4.2.2.2.2.2.2 ?_
                  refine tr_iast (pc := 156) (2 + 33 * P.length + 4 * L.length + 3) dX10_readMethod_156 (hS.1 52 (0, 133) rfl) rfl (by omega) (by decide) ?_
                  rw [show hs (hs h4 52 (upd (upd (upd (h4 52) (2 + 33 * P.length + 4 * L.length) (nI z.1)) (2 + 33 * P.length + 4 * L.length + 1) (nI z.2.1)) (2 + 33 * P.length + 4 * L.length + 2) (-1))) 52 (upd (hs h4 52 (upd (upd (upd (h4 52) (2 + 33 * P.length + 4 * L.length) (nI z.1)) (2 + 33 * P.length + 4 * L.length + 1) (nI z.2.1)) (2 + 33 * P.length + 4 * L.length + 2) (-1)) 52) (2 + 33 * P.length + 4 * L.length + 3) (cmp z 3)) = hs h4 52 (upd (upd (upd (upd (h4 52) (2 + 33 * P.length + 4 * L.length) (nI z.1)) (2 + 33 * P.length + 4 * L.length + 1) (nI z.2.1)) (2 + 33 * P.length + 4 * L.length + 2) (-1)) (2 + 33 * P.length + 4 * L.length + 3) (cmp z 3)) from by rw [hs_same, hs_hs]]
                  refine tr_aload_n (pc := 157) 1 dX10_readMethod_157 rfl rfl ?_
                  refine tr_getR (pc := 158) (q := 52) dX10_readMethod_158 (hS.1 50 (13, 45) rfl) fi_X10_13 rfl (hS.2 50 1 52 rfl) ?_
                  refine tr_iload_n (pc := 161) 2 dX10_readMethod_161 rfl rfl ?_
                  refine tr_dup2 (pc := 162) dX10_readMethod_162 rfl rfl ?_
                  refine tr_iald (pc := 163) (v := nI L.length) (1 + 33 * P.length) dX10_readMethod_163 (hS.1 52 (0, 133) rfl) rfl (by omega) (by decide) (by rw [hs_same, upd_n (by omega), upd_n (by omega), upd_n (by omega), upd_n (by omega)]; exact rwm_cnt hW4) ?_
                  refine tr_iconst (pc := 164) (v := nI 1) dX10_readMethod_164 (by decide) ?_
                  refine tr_iadd (pc := 165) (v := nI (L.length + 1)) dX10_readMethod_165 (nI_add _ _) ?_
                  refine tr_iast (pc := 166) (1 + 33 * P.length) dX10_readMethod_166 (hS.1 52 (0, 133) rfl) rfl (by omega) (by decide) ?_
                  rw [show hs (hs h4 52 (upd (upd (upd (upd (h4 52) (2 + 33 * P.length + 4 * L.length) (nI z.1)) (2 + 33 * P.length + 4 * L.length + 1) (nI z.2.1)) (2 + 33 * P.length + 4 * L.length + 2) (-1)) (2 + 33 * P.length + 4 * L.length + 3) (cmp z 3))) 52 (upd (hs h4 52 (upd (upd (upd (upd (h4 52) (2 + 33 * P.length + 4 * L.length) (nI z.1)) (2 + 33 * P.length + 4 * L.length + 1) (nI z.2.1)) (2 + 33 * P.length + 4 * L.length + 2) (-1)) (2 + 33 * P.length + 4 * L.length + 3) (cmp z 3)) 52) (1 + 33 * P.length) (nI (L.length + 1))) = hs h4 52 (upd (upd (upd (upd (upd (h4 52) (2 + 33 * P.length + 4 * L.length) (nI z.1)) (2 + 33 * P.length + 4 * L.length + 1) (nI z.2.1)) (2 + 33 * P.length + 4 * L.length + 2) (-1)) (2 + 33 * P.length + 4 * L.length + 3) (cmp z 3)) (1 + 33 * P.length) (nI (L.length + 1))) from by rw [hs_same, hs_hs]]
                  have hR5 := hR4.r52 (f := upd (upd (upd (upd (upd (h4 52) (2 + 33 * P.length + 4 * L.length) (nI z.1)) (2 + 33 * P.length + 4 * L.length + 1) (nI z.2.1)) (2 + 33 * P.length + 4 * L.length + 2) (-1)) (2 + 33 * P.length + 4 * L.length + 3) (cmp z 3)) (1 + 33 * P.length) (nI (L.length + 1)))
                  have hW5 : RWm (hs h4 52 (upd (upd (upd (upd (upd (h4 52) (2 + 33 * P.length + 4 * L.length) (nI z.1)) (2 + 33 * P.length + 4 * L.length + 1) (nI z.2.1)) (2 + 33 * P.length + 4 * L.length + 2) (-1)) (2 + 33 * P.length + 4 * L.length + 3) (cmp z 3)) (1 + 33 * P.length) (nI (L.length + 1))) 52) P (L ++ [z]) := by
                    rw [hs_same]
                    exact rwm_add h3v hP4 hV.2.1 (by omega) hW4 rfl
                  have hF5 : FRd h (hs h4 52 (upd (upd (upd (upd (upd (h4 52) (2 + 33 * P.length + 4 * L.length) (nI z.1)) (2 + 33 * P.length + 4 * L.length + 1) (nI z.2.1)) (2 + 33 * P.length + 4 * L.length + 2) (-1)) (2 + 33 * P.length + 4 * L.length + 3) (cmp z 3)) (1 + 33 * P.length) (nI (L.length + 1)))) := Fm.set hF4 (by decide) (by decide)
                  generalize hs h4 52 (upd (upd (upd (upd (upd (h4 52) (2 + 33 * P.length + 4 * L.length) (nI z.1)) (2 + 33 * P.length + 4 * L.length + 1) (nI z.2.1)) (2 + 33 * P.length + 4 * L.length + 2) (-1)) (2 + 33 * P.length + 4 * L.length + 3) (cmp z 3)) (1 + 33 * P.length) (nI (L.length + 1))) = h5 at hR5 hW5 hF5 ⊢
                  refine tr_aload_n (pc := 167) 1 dX10_readMethod_167 rfl rfl ?_
                  refine tr_callV (pc := 168) (rest := []) (ci := 10) dX10_readMethod_168 ml_X10_117 cv_X10_next rfl rfl (Nat.le_of_ble_eq_true rfl) (hS.1 50 (13, 45) rfl) rfl (by decide) (c_nx hS hv hR5) ?_
                  rintro _ _ h6 ⟨rfl, rfl, hR6, hG6⟩
                  show T a 6 mX10_readMethod 171 [(2, .int (nI (2 + 33 * P.length + 4 * L.length))), (0, rv a 50), (1, .int (nI (1 + 33 * P.length)))] [] S h6 _
                  refine tr_goto (pc := 171) (tgt := 44) dX10_readMethod_171 (by decide) ?_
                  refine tr_sub (pc := 44) (lv' := [(0, rv a 50), (1, .int (nI (1 + 33 * P.length)))]) [1, 2] rfl ?_
                  exact ih (L ++ [z]) (Nx tx e) (addC tx z q C1) _ _ _ _ h6 (by simp; omega) (by simp; omega) hR6 (by rw [FR.r52 hG6]; exact hW5) (hF5.trans (FR.d hG6)) (by have := addC_le (tx := tx) (l := z) (p := q) (C := C1); simp; omega) (by
                    obtain ⟨f, hf⟩ : ∃ f, 8 - L.length = f + 1 := ⟨8 - L.length - 1, by omega⟩
                    rw [hE, hf, rb_s h125, he]
                    show rBody _ _ f _ _ _ = _
                    rw [show 8 - (L ++ [z]).length = f by simp; omega])
            · skip
              obtain ⟨e, he, h9⟩ := rlO_0 hO hb74
              refine tr_iconst (pc := 77) (v := nI 0) dX10_readMethod_77 (by decide) ?_
              exact tr_iret (pc := 78) dX10_readMethod_78 rfl (by decide) (⟨0, rfl, by decide, rfl, hF4, rm_e (by
                  obtain ⟨f, hf⟩ : ∃ f, 8 - L.length = f + 1 := ⟨8 - L.length - 1, by omega⟩
                  rw [hE, hf, rb_s h125, he]) h9⟩)
    exact L44 9 [] (Nx tx p) C _ _ _ _ h2 (by simp) (by simp) hR2 (by rw [FR.r52 hG2]; exact hW1) (hF1.trans (FR.d hG2)) (by simp) (by unfold rMeth; rw [if_pos hk]; rfl)
