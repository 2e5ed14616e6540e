/-! ===== the loop of a run, in the reference ===== -/
def GT (a : Am) (S : St) (y : Int32) (post : Option Value → St → Hp → Prop) (h : Hp) : Prop := T a 6 mX10_goRun 123 [(0, rv a 50), (1, .int y)] [] S h post
set_option maxHeartbeats 4000000 in
set_option maxRecDepth 100000 in
theorem m_iter {a : Am} {S : St} {h : Hp} (hS : IsSt S) {y : Int32} {post : Option Value → St → Hp → Prop} {D : Nat} (hD : h 50 35 = nI (D + 1)) (hD4 : D < 4) (hf : h 50 36 = nI 0) {Q : Hp → Prop} (hK : CT a 2 mX10_step [rv a 50] S h (fun v S' h' => v = none ∧ S = S' ∧ Q h')) (hc : ∀ h', Q h' → GT a S y post h') : T a 6 mX10_goRun 123 [(0, rv a 50), (1, .int y)] [] S h (post) := by
  refine tr_aload_n (pc := 123) 0 dX10_goRun_123 rfl rfl ?_
  refine tr_getI (pc := 124) (x := nI (D + 1)) dX10_goRun_124 (hS.1 50 (13, 45) rfl) fi_X10_230 rfl hD ?_
  refine tr_if_le (pc := 127) (tgt := 144) dX10_goRun_127 (by decide) (nI_z_le (by omega)) (fun hcc => absurd hcc (by omega)) (fun _ => ?_)
  refine tr_aload_n (pc := 130) 0 dX10_goRun_130 rfl rfl ?_
  refine tr_getI (pc := 131) (x := nI 0) dX10_goRun_131 (hS.1 50 (13, 45) rfl) fi_X10_257 rfl hf ?_
  refine tr_if_ne (pc := 134) (tgt := 144) dX10_goRun_134 (by decide) (nI_z_eq (by omega)) (fun hcc => absurd (by decide) hcc) (fun _ => ?_)
  refine tr_aload_n (pc := 137) 0 dX10_goRun_137 rfl rfl ?_
  refine tr_callV (pc := 138) (rest := []) (ci := 10) dX10_goRun_138 ml_X10_270 cv_X10_step rfl rfl (Nat.le_of_ble_eq_true rfl) (hS.1 50 (13, 45) rfl) rfl (by decide) (hK) ?_
  rintro v1 S1 h1 ⟨rfl, rfl, hq1⟩
  show T a 6 mX10_goRun 141 [(0, rv a 50), (1, .int y)] [] S h1 _
  refine tr_goto (pc := 141) (tgt := 123) dX10_goRun_141 (by decide) ?_
  exact hc _ hq1

set_option maxHeartbeats 4000000 in
set_option maxRecDepth 100000 in
theorem m_bad {a : Am} {S : St} {h : Hp} (hS : IsSt S) {y : Int32} {post : Option Value → St → Hp → Prop} (hf : h 50 36 = nI 1) (hp : post none S h) : T a 6 mX10_goRun 123 [(0, rv a 50), (1, .int y)] [] S h (post) := by
  refine tr_aload_n (pc := 123) 0 dX10_goRun_123 rfl rfl ?_
  refine tr_getI (pc := 124) (x := h 50 35) dX10_goRun_124 (hS.1 50 (13, 45) rfl) fi_X10_230 rfl rfl ?_
  refine tr_if_le (pc := 127) (tgt := 144) dX10_goRun_127 (by decide) Iff.rfl (fun q127 => ?_) (fun q127 => ?_)
  · skip
    exact tr_vret (pc := 144) dX10_goRun_144 rfl (hp)
  · skip
    refine tr_aload_n (pc := 130) 0 dX10_goRun_130 rfl rfl ?_
    refine tr_getI (pc := 131) (x := nI 1) dX10_goRun_131 (hS.1 50 (13, 45) rfl) fi_X10_257 rfl hf ?_
    refine tr_if_ne (pc := 134) (tgt := 144) dX10_goRun_134 (by decide) (nI_z_eq (by omega)) (fun _ => ?_) (fun hcc => absurd hcc (by decide))
    exact tr_vret (pc := 144) dX10_goRun_144 rfl (hp)

set_option maxHeartbeats 4000000 in
set_option maxRecDepth 100000 in
theorem m_done {a : Am} {S : St} {h : Hp} (hS : IsSt S) {y : Int32} {post : Option Value → St → Hp → Prop} (hD : h 50 35 = nI 0) (hp : post none S h) : T a 6 mX10_goRun 123 [(0, rv a 50), (1, .int y)] [] S h (post) := by
  refine tr_aload_n (pc := 123) 0 dX10_goRun_123 rfl rfl ?_
  refine tr_getI (pc := 124) (x := nI 0) dX10_goRun_124 (hS.1 50 (13, 45) rfl) fi_X10_230 rfl hD ?_
  refine tr_if_le (pc := 127) (tgt := 144) dX10_goRun_127 (by decide) (nI_z_le (by omega)) (fun _ => ?_) (fun hcc => absurd (by decide) hcc)
  exact tr_vret (pc := 144) dX10_goRun_144 rfl (hp)

def MI (h : Hp) (P : Prog) : Prop := NP h P ∧ SN h P ∧ ∀ m, m < P.length → h 72 m = idl P m
theorem MI.fm {h h' : Hp} {P : Prog} (k : MI h P) (f : Fm mF mL h h') : MI h' P := ⟨k.1.fm f (by decide), k.2.1.fm f (by decide) (by decide) (by decide) (by decide), by rw [f.1 72 (by decide) (by decide)]; exact k.2.2⟩
def ExP (X : CR) (R : RS) (D : Nat) (P : Prog) (m' i' c' : Nat) (g' : OT) (fs' : Nat) (E' : Nat → OT) (h h' : Hp) : Prop := Fm mF mL h h' ∧ MH h' X.1 ∧ (X.2.2 = true → h' 50 36 = nI 1) ∧ (X.2.2 = false → h' 50 35 = nI D ∧ h' 50 36 = nI 0 ∧ (0 < D → FA h' (D - 1) m' (i' + 1) c' g' fs' (uo E' (gt P m' i').2.1 X.2.1)) ∧ Lw (D - 1) h h' ∧ MB X.1 (h' 65) ∧ MKp (R.1 3) R X.1 (h 65) (h' 65))
theorem r_call {a : Am} {S : St} (hS : IsSt S) {y : Int32} {post : Option Value → St → Hp → Prop} {P : Prog} (hVP : VP P) : ∀ (k m : Nat) (g : OT) (R : RS) (D : Nat) (h : Hp) (m' i' c' : Nat) (g' : OT) (fs' : Nat) (E' : Nat → OT), MI h P → m < P.length → D ≤ m → 4 ≤ m + k → WF P R → okT (R.1 0) g → R.1 0 + 8 ^ k ≤ 4096 → R.1 3 + cB k ≤ 1000000 → h 50 35 = nI (D + 1) → h 50 36 = nI 0 → MH h (rCall R) → FA h D m 0 (R.1 3) g (R.1 0) (E0 g) → MB R (h 65) → (0 < D → i' < lnN P m' ∧ FA h (D - 1) m' (i' + 1) c' g' fs' E') → (∀ h', ExP (exM P k m g R) R D P m' i' c' g' fs' E' h h' → GT a S y post h') → GT a S y post h := by
  intro k
  have hV := hVP.1
  have hV1 := hV.1
  induction k with
  | zero => intro m g R D h m' i' c' g' fs' E' _ hm _ hmk; omega
  | succ k ihk =>
    intro m g R D h m' i' c' g' fs' E' hI hm hDm hmk hW hg hb1 hb2 hD hf0 hT hF hB hpar hpost
    have h8 := hV.2.1 m
    have hp8 : 8 ^ (k + 1) = 8 * 8 ^ k := by rw [Nat.pow_succ, Nat.mul_comm]
    have hcb : cB (k + 1) = 1 + 8 * cB k := rfl
    have lines : ∀ (fu i : Nat) (h1 : Hp), lnN P m - i < fu → i ≤ lnN P m → (runL (exM P k) P m (R.1 3) (rCall R) (E0 g) i).2.2 = false → Fm mF mL h h1 → MH h1 (runL (exM P k) P m (R.1 3) (rCall R) (E0 g) i).1 → h1 50 35 = nI (D + 1) → h1 50 36 = nI 0 → FA h1 D m i (R.1 3) g (R.1 0) (runL (exM P k) P m (R.1 3) (rCall R) (E0 g) i).2.1 → Lw D h h1 → MB (runL (exM P k) P m (R.1 3) (rCall R) (E0 g) i).1 (h1 65) → MKp (R.1 3 + 1) R (runL (exM P k) P m (R.1 3) (rCall R) (E0 g) i).1 (h 65) (h1 65) → GT a S y post h1 := by
      intro fu
      induction fu with
      | zero => intro i h1 hu; omega
      | succ fu ih =>
        intro i h1 hu hi hnf hf1 hT1 hD1 hz1 hF1 hl1 hB1 hK1
        obtain ⟨w1, w2, w3, w4, w5, w6, w7⟩ := (cg_call hVP (k + 1) m g R hmk hW hg).2 i hi (Nat.succ_pos k)
        simp only [Nat.add_sub_cancel] at w1 w2 w3 w4 w5 w6 w7
        have hie : i < lnN P m → i * 8 ^ k + 8 ^ k ≤ 8 * 8 ^ k ∧ i * cB k + cB k ≤ 8 * cB k := fun z => by
          have z1 : (i + 1) * 8 ^ k ≤ 8 * 8 ^ k := Nat.mul_le_mul_right _ (by omega)
          have z2 : (i + 1) * cB k ≤ 8 * cB k := Nat.mul_le_mul_right _ (by omega)
          rw [Nat.add_mul, Nat.one_mul] at z1 z2
          exact ⟨z1, z2⟩
        have hi9 : i * cB k ≤ 8 * cB k := Nat.mul_le_mul_right _ (by omega)
        have hi8 : i * 8 ^ k ≤ 8 * 8 ^ k := Nat.mul_le_mul_right _ (by omega)
        have hp : 0 < 8 ^ k := Nat.pow_pos (by decide)
        have hI1 := hI.fm hf1
        rcases Nat.lt_or_ge i (lnN P m) with hil | hil
        · obtain ⟨he1, he2⟩ := hie hil
          have hrun := runL_s hnf
          generalize hX : runL (exM P k) P m (R.1 3) (rCall R) (E0 g) i = X at *
          have next : ∀ h3 : Hp, Fm mF mL h1 h3 → MH h3 (doL (exM P k) P m (R.1 3) i X.1 X.2.1).1 → ((doL (exM P k) P m (R.1 3) i X.1 X.2.1).2.2 = true → h3 50 36 = nI 1) → ((doL (exM P k) P m (R.1 3) i X.1 X.2.1).2.2 = false → h3 50 35 = nI (D + 1) ∧ h3 50 36 = nI 0 ∧ FA h3 D m (i + 1) (R.1 3) g (R.1 0) (doL (exM P k) P m (R.1 3) i X.1 X.2.1).2.1 ∧ Lw D h1 h3 ∧ MB (doL (exM P k) P m (R.1 3) i X.1 X.2.1).1 (h3 65) ∧ MKp (R.1 3 + 1) X.1 (doL (exM P k) P m (R.1 3) i X.1 X.2.1).1 (h1 65) (h3 65)) → GT a S y post h3 := by
            intro h3 n1 n2 n3 n4
            rw [← hrun] at n2 n3 n4
            cases hfl : (runL (exM P k) P m (R.1 3) (rCall R) (E0 g) (i + 1)).2.2 with
            | false =>
              obtain ⟨p1, p2, p3, p4, p5, p6⟩ := n4 hfl
              exact ih (i + 1) h3 (by omega) hil hfl (hf1.trans n1) n2 p1 p2 p3 (hl1.trans p4) p5 (hK1.trans p6)
            | true =>
              have hZ : runL (exM P k) P m (R.1 3) (rCall R) (E0 g) (lnN P m) = runL (exM P k) P m (R.1 3) (rCall R) (E0 g) (i + 1) := by
                rw [show lnN P m = i + 1 + (lnN P m - (i + 1)) by omega]; exact runL_stop hfl _
              refine hpost h3 ?_
              rw [exM_s hZ, hfl]
              exact ⟨hf1.trans n1, n2, fun _ => n3 hfl, (fun z => by cases z)⟩
          have st : ∀ h3, StX h1 h3 X.1 (doL (exM P k) P m (R.1 3) i X.1 X.2.1) D m i (R.1 3) g (R.1 0) → GT a S y post h3 := by
            rintro h3 ⟨s1, s2, s3, s4⟩
            exact next h3 s1 s2 s3 (fun z => by obtain ⟨p1, p2, p3, p4, p5, p6⟩ := s4 z; exact ⟨p1, p2, p3, p4, p5, p6 _⟩)
          have hok := (hV.2.2 m i hil).1
          have cs : ∀ j, j < 8 → j = 0 ∨ j = 1 ∨ j = 2 ∨ j = 3 ∨ j = 4 ∨ j = 5 ∨ j = 6 ∨ j = 7 := by intro j hj; omega
          have hid := hI1.2.2 m hm
          rcases cs _ hok with q | q | q | q | q | q | q | q
          · exact m_iter hS hD1 (by omega) hz1 (c_mst0 hS hV hI1.1 hI1.2.1 hT1 w1 (by omega) hil hD1 (by omega) hz1 hF1 w2 hB1 hid q) st
          · exact m_iter hS hD1 (by omega) hz1 (c_mst1 hS hV hI1.1 hI1.2.1 hT1 w1 (by omega) hil hD1 (by omega) hz1 hF1 w2 hB1 hid q) st
          · exact m_iter hS hD1 (by omega) hz1 (c_mst2 hS hV hI1.1 hI1.2.1 hT1 w1 (by omega) hil hD1 (by omega) hz1 hF1 w2 hB1 hid q) st
          · exact m_iter hS hD1 (by omega) hz1 (c_mst3 hS hV hI1.1 hI1.2.1 hT1 w1 (by omega) hil hD1 (by omega) hz1 hF1 w2 hB1 hid q) st
          · exact m_iter hS hD1 (by omega) hz1 (c_mst4 hS hV hI1.1 hI1.2.1 hT1 w1 (by omega) hil hD1 (by omega) hz1 hF1 w2 hB1 hid q) st
          · exact m_iter hS hD1 (by omega) hz1 (c_mst5 hS hV hI1.1 hI1.2.1 hT1 w1 (by omega) hil hD1 (by omega) hz1 hF1 w2 hB1 hid q) st
          · exact m_iter hS hD1 (by omega) hz1 (c_mst6 hS hV hI1.1 hI1.2.1 hT1 w1 (by omega) hil hD1 (by omega) hz1 hF1 w2 hB1 hid q) st
          · have hvc := hVP.2 m i hil q
            have dE : doL (exM P k) P m (R.1 3) i X.1 X.2.1 = ((exM P k (gt P m i).2.2.2 (X.2.1 (gt P m i).2.2.1) X.1).1, uo X.2.1 (gt P m i).2.1 (exM P k (gt P m i).2.2.2 (X.2.1 (gt P m i).2.2.1) X.1).2.1, (exM P k (gt P m i).2.2.2 (X.2.1 (gt P m i).2.2.1) X.1).2.2) := by simp only [doL, q]
            rw [dE] at next
            refine m_iter hS hD1 (by omega) hz1 (c_mst7 hS hV hI1.1 hI1.2.1 hT1 w1 (by omega) hil hD1 (by omega) hz1 hF1 w2 hB1 hid q (by omega)) ?_
            rintro h2 ⟨b1, b2, b3, b4, b5, b6, b7, b8⟩
            refine ihk _ _ X.1 (D + 1) h2 m i (R.1 3) g (R.1 0) X.2.1 (hI1.fm b8) hvc.2 (by omega) (by omega) w1 (w2 _) (by omega) (by omega) b1 b2 b3 b4 (by rw [b7]; exact hB1) (fun _ => ⟨hil, b5⟩) ?_
            rintro h3 ⟨s1, s2, s3, s4⟩
            refine next h3 (b8.trans s1) s2 s3 (fun z => ?_)
            obtain ⟨p1, p2, p3, p4, p5, p6⟩ := s4 z
            refine ⟨p1, p2, p3 (by omega), b6.trans p4, p5, ?_⟩
            rw [b7] at p6
            exact p6.mono (by omega)
        · have hie2 : i = lnN P m := by omega
          subst hie2
          generalize hX : runL (exM P k) P m (R.1 3) (rCall R) (E0 g) (lnN P m) = X at *
          have hne : ∀ t, t < X.1.1 0 → h1 65 t ≠ nI (R.1 3) := hK1 (R.1 3) (by omega) (by omega) (hB.ne (Nat.le_refl _) (by omega))
          refine m_iter hS hD1 (by omega) hz1 (c_mste (c' := c') (g' := g') (fs' := fs') (E' := E') hS hV hI1.1 hT1 w1 (by omega) hm hD1 (by omega) hF1 (by omega) (by omega) w3.1 (fun t ht => ?_) (hg.le w3.1) (w2 3) hne (fun z => ⟨(hpar z).1, (hpar z).2.lw hl1 (by omega)⟩)) ?_
          · rw [(w3.2.2.1 t ht).2]
            have := (hW.1 t ht).2.2
            omega
          · rintro h2 ⟨b1, b2, b3, b4, b5, b6, b7⟩
            refine hpost h2 ?_
            rw [exM_s hX, hnf]
            have l0 : (rLeak X.1 (R.1 3) g (X.2.1 3)).1 0 = X.1.1 0 := by simp [rLeak, un]
            have l3 : (rLeak X.1 (R.1 3) g (X.2.1 3)).1 3 = X.1.1 3 := by simp [rLeak, un]
            refine ⟨hf1.trans b7, b3, (fun z => by cases z), fun _ => ⟨b1, b2.trans hz1, b5, (hl1.mono (by omega)).trans b6, fun t ht => ?_, fun c hc1 hc2 hc3 t ht => ?_⟩⟩
            · have ht : t < (rLeak X.1 (R.1 3) g (X.2.1 3)).1 0 := ht
              show _ ∨ ∃ e, e < (rLeak X.1 (R.1 3) g (X.2.1 3)).1 3 ∧ _
              rw [l0] at ht
              rw [l3]
              rcases b4 t ht with z | z
              · rw [z]; exact hB1 t ht
              · exact Or.inr ⟨R.1 3, w6, z⟩
            · have ht : t < (rLeak X.1 (R.1 3) g (X.2.1 3)).1 0 := ht
              rw [l0] at ht
              rcases b4 t ht with z | z
              · rw [z]; exact hK1 c (by omega) hc2 hc3 t ht
              · rw [z]; intro e; rw [nI_eq (by omega) (by omega)] at e; omega
    exact lines (lnN P m + 1) 0 h (by omega) (Nat.zero_le _) rfl Fm.rf hT hD hf0 hF Lw.rf (fun t ht => by
      have ht : t < (rCall R).1 0 := ht
      rw [rc_0] at ht
      rcases hB t ht with z | ⟨e, z1, z2⟩
      · exact Or.inl z
      · exact Or.inr ⟨e, by show e < (rCall R).1 3; rw [rc_3]; omega, z2⟩) (MKp.same (rc_0 R) rfl)
def gF : List Nat := [20, 22, 27, 28, 35, 36, 37, 38, 39, 40]
def gL : List Nat := [58, 59, 60, 61, 62, 63, 64, 65, 66, 67, 68, 69, 70, 71, 72, 73, 74, 75]
/-- the reference holds the run of P -/
def TrM (h : Hp) (P : Prog) : Prop := MH h (runP P).1 ∧ h 50 36 = bI (runP P).2.2
def MGo (h : Hp) (P : Prog) : Prop := SN h P ∧ MN h (mayV P, false) ∧ TrM h P
set_option maxHeartbeats 4000000 in
set_option maxRecDepth 100000 in
theorem c_mgo {a : Am} {S : St} {h : Hp} (hS : IsSt S) {P : Prog} (hVP : VP P) (hN : NP h P) : CT a 6 mX10_goRun [rv a 50] S h (fun v S' h' => v = none ∧ S = S' ∧ MGo h' P ∧ Fm gF gL h h') := by
  have hV := hVP.1
  have hV1 := hV.1
  refine met_of (by decide +kernel) (Nat.le_of_ble_eq_true rfl) ?_
  show T a 6 mX10_goRun 0 [(0, rv a 50)] [] S h _
  refine tr_aload_n (pc := 0) 0 dX10_goRun_0 rfl rfl ?_
  refine tr_callV (pc := 1) (rest := []) (ci := 10) dX10_goRun_1 ml_X10_214 cv_X10_findMays rfl rfl (Nat.le_of_ble_eq_true rfl) (hS.1 50 (13, 45) rfl) rfl (by decide) (c_mfindMays hS hVP hN) ?_
  rintro v1 S1 h1 ⟨rfl, rfl, hSN, hM, hf1⟩
  have hN1 : NP h1 P := hN.fm hf1 (by decide)
  show T a 6 mX10_goRun 4 [(0, rv a 50)] [] S h1 _
  refine tr_aload_n (pc := 4) 0 dX10_goRun_4 rfl rfl ?_
  refine tr_iconst (pc := 5) (v := nI 0) dX10_goRun_5 (by decide) ?_
  refine tr_putI (pc := 6) (x := nI 0) dX10_goRun_6 (hS.1 50 (13, 45) rfl) fi_X10_236 rfl rfl rfl ?_
  refine tr_aload_n (pc := 9) 0 dX10_goRun_9 rfl rfl ?_
  refine tr_iconst (pc := 10) (v := -1) dX10_goRun_10 (by decide) ?_
  refine tr_putI (pc := 11) (x := -1) dX10_goRun_11 (hS.1 50 (13, 45) rfl) fi_X10_239 rfl rfl rfl ?_
  refine tr_aload_n (pc := 14) 0 dX10_goRun_14 rfl rfl ?_
  refine tr_iconst (pc := 15) (v := nI 0) dX10_goRun_15 (by decide) ?_
  refine tr_putI (pc := 16) (x := nI 0) dX10_goRun_16 (hS.1 50 (13, 45) rfl) fi_X10_230 rfl rfl rfl ?_
  refine tr_aload_n (pc := 19) 0 dX10_goRun_19 rfl rfl ?_
  refine tr_iconst (pc := 20) (v := nI 0) dX10_goRun_20 (by decide) ?_
  refine tr_putI (pc := 21) (x := nI 0) dX10_goRun_21 (hS.1 50 (13, 45) rfl) fi_X10_257 rfl (by decide) (by decide) ?_
  refine tr_aload_n (pc := 24) 0 dX10_goRun_24 rfl rfl ?_
  refine tr_iconst (pc := 25) (v := nI 0) dX10_goRun_25 (by decide) ?_
  refine tr_putI (pc := 26) (x := nI 0) dX10_goRun_26 (hS.1 50 (13, 45) rfl) fi_X10_248 rfl rfl rfl ?_
  refine tr_aload_n (pc := 29) 0 dX10_goRun_29 rfl rfl ?_
  refine tr_iconst (pc := 30) (v := nI 0) dX10_goRun_30 (by decide) ?_
  refine tr_putI (pc := 31) (x := nI 0) dX10_goRun_31 (hS.1 50 (13, 45) rfl) fi_X10_251 rfl rfl rfl ?_
  refine tr_aload_n (pc := 34) 0 dX10_goRun_34 rfl rfl ?_
  refine tr_iconst (pc := 35) (v := nI 0) dX10_goRun_35 (by decide) ?_
  refine tr_putI (pc := 36) (x := nI 0) dX10_goRun_36 (hS.1 50 (13, 45) rfl) fi_X10_233 rfl rfl rfl ?_
  refine tr_aload_n (pc := 39) 0 dX10_goRun_39 rfl rfl ?_
  refine tr_iconst (pc := 40) (v := nI 0) dX10_goRun_40 (by decide) ?_
  refine tr_putI (pc := 41) (x := nI 0) dX10_goRun_41 (hS.1 50 (13, 45) rfl) fi_X10_245 rfl rfl rfl ?_
  obtain ⟨hA, eA⟩ : ∃ X, X = (hs (hs (hs (hs (hs (hs (hs (hs h1 50 (upd (h1 50) 27 (nI 0))) 50 (upd ((hs h1 50 (upd (h1 50) 27 (nI 0))) 50) 28 (-1))) 50 (upd ((hs (hs h1 50 (upd (h1 50) 27 (nI 0))) 50 (upd ((hs h1 50 (upd (h1 50) 27 (nI 0))) 50) 28 (-1))) 50) 35 (nI 0))) 50 (upd ((hs (hs (hs h1 50 (upd (h1 50) 27 (nI 0))) 50 (upd ((hs h1 50 (upd (h1 50) 27 (nI 0))) 50) 28 (-1))) 50 (upd ((hs (hs h1 50 (upd (h1 50) 27 (nI 0))) 50 (upd ((hs h1 50 (upd (h1 50) 27 (nI 0))) 50) 28 (-1))) 50) 35 (nI 0))) 50) 36 (nI 0))) 50 (upd ((hs (hs (hs (hs h1 50 (upd (h1 50) 27 (nI 0))) 50 (upd ((hs h1 50 (upd (h1 50) 27 (nI 0))) 50) 28 (-1))) 50 (upd ((hs (hs h1 50 (upd (h1 50) 27 (nI 0))) 50 (upd ((hs h1 50 (upd (h1 50) 27 (nI 0))) 50) 28 (-1))) 50) 35 (nI 0))) 50 (upd ((hs (hs (hs h1 50 (upd (h1 50) 27 (nI 0))) 50 (upd ((hs h1 50 (upd (h1 50) 27 (nI 0))) 50) 28 (-1))) 50 (upd ((hs (hs h1 50 (upd (h1 50) 27 (nI 0))) 50 (upd ((hs h1 50 (upd (h1 50) 27 (nI 0))) 50) 28 (-1))) 50) 35 (nI 0))) 50) 36 (nI 0))) 50) 37 (nI 0))) 50 (upd ((hs (hs (hs (hs (hs h1 50 (upd (h1 50) 27 (nI 0))) 50 (upd ((hs h1 50 (upd (h1 50) 27 (nI 0))) 50) 28 (-1))) 50 (upd ((hs (hs h1 50 (upd (h1 50) 27 (nI 0))) 50 (upd ((hs h1 50 (upd (h1 50) 27 (nI 0))) 50) 28 (-1))) 50) 35 (nI 0))) 50 (upd ((hs (hs (hs h1 50 (upd (h1 50) 27 (nI 0))) 50 (upd ((hs h1 50 (upd (h1 50) 27 (nI 0))) 50) 28 (-1))) 50 (upd ((hs (hs h1 50 (upd (h1 50) 27 (nI 0))) 50 (upd ((hs h1 50 (upd (h1 50) 27 (nI 0))) 50) 28 (-1))) 50) 35 (nI 0))) 50) 36 (nI 0))) 50 (upd ((hs (hs (hs (hs h1 50 (upd (h1 50) 27 (nI 0))) 50 (upd ((hs h1 50 (upd (h1 50) 27 (nI 0))) 50) 28 (-1))) 50 (upd ((hs (hs h1 50 (upd (h1 50) 27 (nI 0))) 50 (upd ((hs h1 50 (upd (h1 50) 27 (nI 0))) 50) 28 (-1))) 50) 35 (nI 0))) 50 (upd ((hs (hs (hs h1 50 (upd (h1 50) 27 (nI 0))) 50 (upd ((hs h1 50 (upd (h1 50) 27 (nI 0))) 50) 28 (-1))) 50 (upd ((hs (hs h1 50 (upd (h1 50) 27 (nI 0))) 50 (upd ((hs h1 50 (upd (h1 50) 27 (nI 0))) 50) 28 (-1))) 50) 35 (nI 0))) 50) 36 (nI 0))) 50) 37 (nI 0))) 50) 38 (nI 0))) 50 (upd ((hs (hs (hs (hs (hs (hs h1 50 (upd (h1 50) 27 (nI 0))) 50 (upd ((hs h1 50 (upd (h1 50) 27 (nI 0))) 50) 28 (-1))) 50 (upd ((hs (hs h1 50 (upd (h1 50) 27 (nI 0))) 50 (upd ((hs h1 50 (upd (h1 50) 27 (nI 0))) 50) 28 (-1))) 50) 35 (nI 0))) 50 (upd ((hs (hs (hs h1 50 (upd (h1 50) 27 (nI 0))) 50 (upd ((hs h1 50 (upd (h1 50) 27 (nI 0))) 50) 28 (-1))) 50 (upd ((hs (hs h1 50 (upd (h1 50) 27 (nI 0))) 50 (upd ((hs h1 50 (upd (h1 50) 27 (nI 0))) 50) 28 (-1))) 50) 35 (nI 0))) 50) 36 (nI 0))) 50 (upd ((hs (hs (hs (hs h1 50 (upd (h1 50) 27 (nI 0))) 50 (upd ((hs h1 50 (upd (h1 50) 27 (nI 0))) 50) 28 (-1))) 50 (upd ((hs (hs h1 50 (upd (h1 50) 27 (nI 0))) 50 (upd ((hs h1 50 (upd (h1 50) 27 (nI 0))) 50) 28 (-1))) 50) 35 (nI 0))) 50 (upd ((hs (hs (hs h1 50 (upd (h1 50) 27 (nI 0))) 50 (upd ((hs h1 50 (upd (h1 50) 27 (nI 0))) 50) 28 (-1))) 50 (upd ((hs (hs h1 50 (upd (h1 50) 27 (nI 0))) 50 (upd ((hs h1 50 (upd (h1 50) 27 (nI 0))) 50) 28 (-1))) 50) 35 (nI 0))) 50) 36 (nI 0))) 50) 37 (nI 0))) 50 (upd ((hs (hs (hs (hs (hs h1 50 (upd (h1 50) 27 (nI 0))) 50 (upd ((hs h1 50 (upd (h1 50) 27 (nI 0))) 50) 28 (-1))) 50 (upd ((hs (hs h1 50 (upd (h1 50) 27 (nI 0))) 50 (upd ((hs h1 50 (upd (h1 50) 27 (nI 0))) 50) 28 (-1))) 50) 35 (nI 0))) 50 (upd ((hs (hs (hs h1 50 (upd (h1 50) 27 (nI 0))) 50 (upd ((hs h1 50 (upd (h1 50) 27 (nI 0))) 50) 28 (-1))) 50 (upd ((hs (hs h1 50 (upd (h1 50) 27 (nI 0))) 50 (upd ((hs h1 50 (upd (h1 50) 27 (nI 0))) 50) 28 (-1))) 50) 35 (nI 0))) 50) 36 (nI 0))) 50 (upd ((hs (hs (hs (hs h1 50 (upd (h1 50) 27 (nI 0))) 50 (upd ((hs h1 50 (upd (h1 50) 27 (nI 0))) 50) 28 (-1))) 50 (upd ((hs (hs h1 50 (upd (h1 50) 27 (nI 0))) 50 (upd ((hs h1 50 (upd (h1 50) 27 (nI 0))) 50) 28 (-1))) 50) 35 (nI 0))) 50 (upd ((hs (hs (hs h1 50 (upd (h1 50) 27 (nI 0))) 50 (upd ((hs h1 50 (upd (h1 50) 27 (nI 0))) 50) 28 (-1))) 50 (upd ((hs (hs h1 50 (upd (h1 50) 27 (nI 0))) 50 (upd ((hs h1 50 (upd (h1 50) 27 (nI 0))) 50) 28 (-1))) 50) 35 (nI 0))) 50) 36 (nI 0))) 50) 37 (nI 0))) 50) 38 (nI 0))) 50) 39 (nI 0))) 50 (upd ((hs (hs (hs (hs (hs (hs (hs h1 50 (upd (h1 50) 27 (nI 0))) 50 (upd ((hs h1 50 (upd (h1 50) 27 (nI 0))) 50) 28 (-1))) 50 (upd ((hs (hs h1 50 (upd (h1 50) 27 (nI 0))) 50 (upd ((hs h1 50 (upd (h1 50) 27 (nI 0))) 50) 28 (-1))) 50) 35 (nI 0))) 50 (upd ((hs (hs (hs h1 50 (upd (h1 50) 27 (nI 0))) 50 (upd ((hs h1 50 (upd (h1 50) 27 (nI 0))) 50) 28 (-1))) 50 (upd ((hs (hs h1 50 (upd (h1 50) 27 (nI 0))) 50 (upd ((hs h1 50 (upd (h1 50) 27 (nI 0))) 50) 28 (-1))) 50) 35 (nI 0))) 50) 36 (nI 0))) 50 (upd ((hs (hs (hs (hs h1 50 (upd (h1 50) 27 (nI 0))) 50 (upd ((hs h1 50 (upd (h1 50) 27 (nI 0))) 50) 28 (-1))) 50 (upd ((hs (hs h1 50 (upd (h1 50) 27 (nI 0))) 50 (upd ((hs h1 50 (upd (h1 50) 27 (nI 0))) 50) 28 (-1))) 50) 35 (nI 0))) 50 (upd ((hs (hs (hs h1 50 (upd (h1 50) 27 (nI 0))) 50 (upd ((hs h1 50 (upd (h1 50) 27 (nI 0))) 50) 28 (-1))) 50 (upd ((hs (hs h1 50 (upd (h1 50) 27 (nI 0))) 50 (upd ((hs h1 50 (upd (h1 50) 27 (nI 0))) 50) 28 (-1))) 50) 35 (nI 0))) 50) 36 (nI 0))) 50) 37 (nI 0))) 50 (upd ((hs (hs (hs (hs (hs h1 50 (upd (h1 50) 27 (nI 0))) 50 (upd ((hs h1 50 (upd (h1 50) 27 (nI 0))) 50) 28 (-1))) 50 (upd ((hs (hs h1 50 (upd (h1 50) 27 (nI 0))) 50 (upd ((hs h1 50 (upd (h1 50) 27 (nI 0))) 50) 28 (-1))) 50) 35 (nI 0))) 50 (upd ((hs (hs (hs h1 50 (upd (h1 50) 27 (nI 0))) 50 (upd ((hs h1 50 (upd (h1 50) 27 (nI 0))) 50) 28 (-1))) 50 (upd ((hs (hs h1 50 (upd (h1 50) 27 (nI 0))) 50 (upd ((hs h1 50 (upd (h1 50) 27 (nI 0))) 50) 28 (-1))) 50) 35 (nI 0))) 50) 36 (nI 0))) 50 (upd ((hs (hs (hs (hs h1 50 (upd (h1 50) 27 (nI 0))) 50 (upd ((hs h1 50 (upd (h1 50) 27 (nI 0))) 50) 28 (-1))) 50 (upd ((hs (hs h1 50 (upd (h1 50) 27 (nI 0))) 50 (upd ((hs h1 50 (upd (h1 50) 27 (nI 0))) 50) 28 (-1))) 50) 35 (nI 0))) 50 (upd ((hs (hs (hs h1 50 (upd (h1 50) 27 (nI 0))) 50 (upd ((hs h1 50 (upd (h1 50) 27 (nI 0))) 50) 28 (-1))) 50 (upd ((hs (hs h1 50 (upd (h1 50) 27 (nI 0))) 50 (upd ((hs h1 50 (upd (h1 50) 27 (nI 0))) 50) 28 (-1))) 50) 35 (nI 0))) 50) 36 (nI 0))) 50) 37 (nI 0))) 50) 38 (nI 0))) 50 (upd ((hs (hs (hs (hs (hs (hs h1 50 (upd (h1 50) 27 (nI 0))) 50 (upd ((hs h1 50 (upd (h1 50) 27 (nI 0))) 50) 28 (-1))) 50 (upd ((hs (hs h1 50 (upd (h1 50) 27 (nI 0))) 50 (upd ((hs h1 50 (upd (h1 50) 27 (nI 0))) 50) 28 (-1))) 50) 35 (nI 0))) 50 (upd ((hs (hs (hs h1 50 (upd (h1 50) 27 (nI 0))) 50 (upd ((hs h1 50 (upd (h1 50) 27 (nI 0))) 50) 28 (-1))) 50 (upd ((hs (hs h1 50 (upd (h1 50) 27 (nI 0))) 50 (upd ((hs h1 50 (upd (h1 50) 27 (nI 0))) 50) 28 (-1))) 50) 35 (nI 0))) 50) 36 (nI 0))) 50 (upd ((hs (hs (hs (hs h1 50 (upd (h1 50) 27 (nI 0))) 50 (upd ((hs h1 50 (upd (h1 50) 27 (nI 0))) 50) 28 (-1))) 50 (upd ((hs (hs h1 50 (upd (h1 50) 27 (nI 0))) 50 (upd ((hs h1 50 (upd (h1 50) 27 (nI 0))) 50) 28 (-1))) 50) 35 (nI 0))) 50 (upd ((hs (hs (hs h1 50 (upd (h1 50) 27 (nI 0))) 50 (upd ((hs h1 50 (upd (h1 50) 27 (nI 0))) 50) 28 (-1))) 50 (upd ((hs (hs h1 50 (upd (h1 50) 27 (nI 0))) 50 (upd ((hs h1 50 (upd (h1 50) 27 (nI 0))) 50) 28 (-1))) 50) 35 (nI 0))) 50) 36 (nI 0))) 50) 37 (nI 0))) 50 (upd ((hs (hs (hs (hs (hs h1 50 (upd (h1 50) 27 (nI 0))) 50 (upd ((hs h1 50 (upd (h1 50) 27 (nI 0))) 50) 28 (-1))) 50 (upd ((hs (hs h1 50 (upd (h1 50) 27 (nI 0))) 50 (upd ((hs h1 50 (upd (h1 50) 27 (nI 0))) 50) 28 (-1))) 50) 35 (nI 0))) 50 (upd ((hs (hs (hs h1 50 (upd (h1 50) 27 (nI 0))) 50 (upd ((hs h1 50 (upd (h1 50) 27 (nI 0))) 50) 28 (-1))) 50 (upd ((hs (hs h1 50 (upd (h1 50) 27 (nI 0))) 50 (upd ((hs h1 50 (upd (h1 50) 27 (nI 0))) 50) 28 (-1))) 50) 35 (nI 0))) 50) 36 (nI 0))) 50 (upd ((hs (hs (hs (hs h1 50 (upd (h1 50) 27 (nI 0))) 50 (upd ((hs h1 50 (upd (h1 50) 27 (nI 0))) 50) 28 (-1))) 50 (upd ((hs (hs h1 50 (upd (h1 50) 27 (nI 0))) 50 (upd ((hs h1 50 (upd (h1 50) 27 (nI 0))) 50) 28 (-1))) 50) 35 (nI 0))) 50 (upd ((hs (hs (hs h1 50 (upd (h1 50) 27 (nI 0))) 50 (upd ((hs h1 50 (upd (h1 50) 27 (nI 0))) 50) 28 (-1))) 50 (upd ((hs (hs h1 50 (upd (h1 50) 27 (nI 0))) 50 (upd ((hs h1 50 (upd (h1 50) 27 (nI 0))) 50) 28 (-1))) 50) 35 (nI 0))) 50) 36 (nI 0))) 50) 37 (nI 0))) 50) 38 (nI 0))) 50) 39 (nI 0))) 50) 40 (nI 0))) := ⟨_, rfl⟩
  rw [← eA]
  refine tr_iconst (pc := 44) (v := nI 0) dX10_goRun_44 (by decide) ?_
  refine tr_istore_n (pc := 45) (lv' := [(1, .int (nI 0)), (0, rv a 50)]) dX10_goRun_45 rfl (by decide) rfl ?_
  refine tr_sub (pc := 46) (lv' := [(0, rv a 50), (1, .int (nI 0))]) [1, 0] rfl ?_
  have L46 : ∀ (fu : Nat) (j : Nat) (h2 : Hp), 32 - j < fu → j ≤ 32 → (∀ s, s < j → h2 73 s = nI 0 ∧ h2 74 s = nI 0 ∧ h2 75 s = nI 0) → (∀ o, o ∉ [73, 74, 75] → h2 o = hA o) → T a 6 mX10_goRun 46 [(0, rv a 50), (1, .int (nI j))] [] S h2 (fun v S' h' => v = none ∧ S = S' ∧ MGo h' P ∧ Fm gF gL h h') := by
    intro fu
    induction fu with
    | zero => intro j h2 hu hj hJ ho2; omega
    | succ fu ih =>
      intro j h2 hu hj hJ ho2
      refine tr_iload_n (pc := 46) 1 dX10_goRun_46 rfl rfl ?_
      refine tr_bipush (pc := 47) (v := nI 32) dX10_goRun_47 (by decide) ?_
      refine tr_icmp_ge (pc := 49) (tgt := 79) dX10_goRun_49 (by decide) (nI_leI (by omega) (by omega)) (fun q49 => ?_) (fun q49 => ?_)
      · skip
        refine tr_iconst (pc := 79) (v := nI 0) dX10_goRun_79 (by decide) ?_
        refine tr_istore_n (pc := 80) (lv' := [(1, .int (nI 0)), (0, rv a 50)]) dX10_goRun_80 rfl (by decide) rfl ?_
        refine tr_sub (pc := 81) (lv' := [(0, rv a 50), (1, .int (nI 0))]) [1, 0] rfl ?_
        have L81 : ∀ (fu : Nat) (m : Nat) (h3 : Hp), P.length - m < fu → m ≤ P.length → (∀ c, c < m → h3 72 c = idl P c) → (∀ o, o ≠ 72 → h3 o = h2 o) → T a 6 mX10_goRun 81 [(0, rv a 50), (1, .int (nI m))] [] S h3 (fun v S' h' => v = none ∧ S = S' ∧ MGo h' P ∧ Fm gF gL h h') := by
          intro fu
          induction fu with
          | zero => intro m h3 hu3 hm hK ho3; omega
          | succ fu ih3 =>
            intro m h3 hu3 hm hK ho3
            have hb3 : ∀ o, o ∉ [50, 72, 73, 74, 75] → h3 o = h1 o := fun o h => by
              simp only [List.mem_cons, List.not_mem_nil, or_false, not_or] at h
              rw [ho3 o (by omega), ho2 o (by simp only [List.mem_cons, List.not_mem_nil, or_false, not_or]; omega), eA]
              repeat rw [hs_ne (by omega)]
            have h50 : h3 50 = hA 50 := (ho3 50 (by decide)).trans (ho2 50 (by decide))
            have hN3 : NP h3 P := by unfold NP; rw [hb3 51 (by decide)]; exact hN1
            have hSN3 : SN h3 P := by unfold SN; rw [hb3 58 (by decide), hb3 59 (by decide), hb3 60 (by decide), h50, eA]; exact hSN
            have hM3 : MN h3 (mayV P, false) := by unfold MN; rw [hb3 61 (by decide), h50, eA]; exact hM
            refine tr_iload_n (pc := 81) 1 dX10_goRun_81 rfl rfl ?_
            refine tr_aload_n (pc := 82) 0 dX10_goRun_82 rfl rfl ?_
            refine tr_getR (pc := 83) (q := 51) dX10_goRun_83 (hS.1 50 (13, 45) rfl) fi_X10_7 rfl (hS.2 50 0 51 rfl) ?_
            refine tr_iconst (pc := 86) (v := nI 0) dX10_goRun_86 (by decide) ?_
            refine tr_iald (pc := 87) (v := nI P.length) 0 dX10_goRun_87 (hS.1 51 (0, 133) rfl) rfl (by omega) (by decide) hN3.1 ?_
            refine tr_icmp_ge (pc := 88) (tgt := 108) dX10_goRun_88 (by decide) (nI_leI (by omega) (by omega)) (fun q88 => ?_) (fun q88 => ?_)
            · skip
              have hml : m = P.length := by omega
              have hMH : MH h3 R0 := by
                refine ⟨?_, fun t ht => absurd ht (Nat.not_lt_zero _), fun s hs => ?_⟩
                · rw [h50, eA]; exact ⟨rfl, rfl, rfl, rfl, rfl, rfl⟩
                · rw [ho3 73 (by decide), ho3 74 (by decide), ho3 75 (by decide)]; exact hJ s (by omega)
              have h35 : h3 50 35 = nI 0 := by rw [h50, eA]; rfl
              have h36 : h3 50 36 = nI 0 := by rw [h50, eA]; rfl
              have hMI : MI h3 P := ⟨hN3, hSN3, fun c hc => hK c (by omega)⟩
              have hFm : Fm gF gL h h3 := by
                refine (hf1.mono (by decide) (by decide)).trans ⟨fun o j1 j2 => ?_, fun k hk => ?_⟩
                · simp only [gL, List.mem_cons, List.not_mem_nil, or_false, not_or] at j2
                  exact hb3 o (by simp only [List.mem_cons, List.not_mem_nil, or_false, not_or]; omega)
                · simp only [gF, List.mem_cons, List.not_mem_nil, or_false, not_or] at hk
                  rw [h50, eA]
                  simp [hs, upd, hk]
              refine tr_aload_n (pc := 108) 0 dX10_goRun_108 rfl rfl ?_
              refine tr_getR (pc := 109) (q := 51) dX10_goRun_109 (hS.1 50 (13, 45) rfl) fi_X10_7 rfl (hS.2 50 0 51 rfl) ?_
              refine tr_iconst (pc := 112) (v := nI 0) dX10_goRun_112 (by decide) ?_
              refine tr_iald (pc := 113) (v := nI P.length) 0 dX10_goRun_113 (hS.1 51 (0, 133) rfl) rfl (by omega) (by decide) hN3.1 ?_
              refine tr_if_le (pc := 114) (tgt := 123) dX10_goRun_114 (by decide) (nI_z_le (by omega)) (fun q114 => ?_) (fun q114 => ?_)
              · skip
                exact m_done hS h35 ⟨rfl, rfl, ⟨hSN3, hM3, by unfold TrM runP; rw [if_neg (by omega)]; exact ⟨hMH, h36⟩⟩, hFm⟩
              · skip
                refine tr_aload_n (pc := 117) 0 dX10_goRun_117 rfl rfl ?_
                refine tr_iconst (pc := 118) (v := nI 0) dX10_goRun_118 (by decide) ?_
                refine tr_iconst (pc := 119) (v := -1) dX10_goRun_119 (by decide) ?_
                refine tr_callV (pc := 120) (rest := []) (ci := 10) dX10_goRun_120 ml_X10_267 cv_X10_call rfl rfl (Nat.le_of_ble_eq_true rfl) (hS.1 50 (13, 45) rfl) rfl (by decide) (c_mcall (R := R0) (D := 0) (m := 0) (g := none) hS hMH h35 (by decide)) ?_
                rintro v1 S1 h4 ⟨rfl, rfl, b1, b2, b3, b4, b5, b6, b7⟩
                show T a 6 mX10_goRun 123 [(0, rv a 50), (1, .int (nI m))] [] S h4 _
                refine r_call (y := nI m) hS hVP 4 0 none R0 0 h4 0 0 0 none 0 (fun _ => none) (hMI.fm b7) (by omega) (Nat.le_refl _) (by decide) wf_0 okT.none (by decide) (by decide) b1 (b2.trans h36) b3 b4 (fun t ht => absurd ht (Nat.not_lt_zero _)) (fun z => absurd z (Nat.lt_irrefl _)) ?_
                rintro h5 ⟨s1, s2, s3, s4⟩
                have hrp : runP P = exM P 4 0 none R0 := by unfold runP; rw [if_pos (by omega)]
                have hF5 := b7.trans s1
                have hend : h5 50 36 = bI (runP P).2.2 → (v : Option Value) → v = none → v = none ∧ S = S ∧ MGo h5 P ∧ Fm gF gL h h5 := fun e v hv => ⟨hv, rfl, ⟨hSN3.fm hF5 (by decide) (by decide) (by decide) (by decide), hM3.fm hF5 (by decide) (by decide), by rw [hrp]; exact s2, e⟩, hFm.trans (hF5.mono (by decide) (by decide))⟩
                cases hfl : (exM P 4 0 none R0).2.2 with
                | true => exact m_bad hS (s3 hfl) (hend (by rw [hrp, hfl]; exact s3 hfl) none rfl)
                | false => exact m_done hS (s4 hfl).1 (hend (by rw [hrp, hfl]; exact (s4 hfl).2.1) none rfl)
            · skip
              refine tr_aload_n (pc := 91) 0 dX10_goRun_91 rfl rfl ?_
              refine tr_getR (pc := 92) (q := 72) dX10_goRun_92 (hS.1 50 (13, 45) rfl) fi_X10_73 rfl (hS.2 50 41 72 rfl) ?_
              refine tr_iload_n (pc := 95) 1 dX10_goRun_95 rfl rfl ?_
              refine tr_aload_n (pc := 96) 0 dX10_goRun_96 rfl rfl ?_
              refine tr_iload_n (pc := 97) 1 dX10_goRun_97 rfl rfl ?_
              refine tr_callV (pc := 98) (rest := [.int (nI m), rv a 72]) (ci := 10) dX10_goRun_98 ml_X10_211 cv_X10_idleOf rfl rfl (Nat.le_of_ble_eq_true rfl) (hS.1 50 (13, 45) rfl) rfl (by decide) (c_midle hS hV hN3 hSN3 hM3 (by omega)) ?_
              rintro _ _ _ ⟨rfl, rfl, rfl⟩
              show T a 6 mX10_goRun 101 [(0, rv a 50), (1, .int (nI m))] [.int (idl P m), .int (nI m), rv a 72] S h3 _
              refine tr_iast (pc := 101) m dX10_goRun_101 (hS.1 72 (0, 4) rfl) rfl (by omega) (by decide) ?_
              refine tr_iinc (pc := 102) (v := nI (m + 1)) (lv' := [(1, .int (nI (m + 1))), (0, rv a 50)]) 1 dX10_goRun_102 rfl (by rw [show Int32.ofInt 1 = nI 1 from by decide, nI_add]) (by decide) rfl ?_
              refine tr_goto (pc := 105) (tgt := 81) dX10_goRun_105 (by decide) ?_
              refine tr_sub (pc := 81) (lv' := [(0, rv a 50), (1, .int (nI (m + 1)))]) [1, 0] rfl ?_
              exact ih3 (m + 1) _ (by omega) (by omega) (fun c hc => by
                rw [hs_same]
                by_cases e : c = m
                · subst e; exact upd_s
                · rw [upd_n e]; exact hK c (by omega)) (fun o h => by rw [hs_ne h]; exact ho3 o h)
        exact L81 (P.length + 1) 0 h2 (by omega) (by omega) (fun c hc => absurd hc (Nat.not_lt_zero _)) (fun _ _ => rfl)
      · skip
        refine tr_aload_n (pc := 52) 0 dX10_goRun_52 rfl rfl ?_
        refine tr_getR (pc := 53) (q := 73) dX10_goRun_53 (hS.1 50 (13, 45) rfl) fi_X10_76 rfl (hS.2 50 42 73 rfl) ?_
        refine tr_iload_n (pc := 56) 1 dX10_goRun_56 rfl rfl ?_
        refine tr_iconst (pc := 57) (v := nI 0) dX10_goRun_57 (by decide) ?_
        refine tr_iast (pc := 58) j dX10_goRun_58 (hS.1 73 (0, 32) rfl) rfl (by omega) (by decide) ?_
        refine tr_aload_n (pc := 59) 0 dX10_goRun_59 rfl rfl ?_
        refine tr_getR (pc := 60) (q := 74) dX10_goRun_60 (hS.1 50 (13, 45) rfl) fi_X10_79 rfl (hS.2 50 43 74 rfl) ?_
        refine tr_iload_n (pc := 63) 1 dX10_goRun_63 rfl rfl ?_
        refine tr_iconst (pc := 64) (v := nI 0) dX10_goRun_64 (by decide) ?_
        refine tr_iast (pc := 65) j dX10_goRun_65 (hS.1 74 (0, 32) rfl) rfl (by omega) (by decide) ?_
        refine tr_aload_n (pc := 66) 0 dX10_goRun_66 rfl rfl ?_
        refine tr_getR (pc := 67) (q := 75) dX10_goRun_67 (hS.1 50 (13, 45) rfl) fi_X10_82 rfl (hS.2 50 44 75 rfl) ?_
        refine tr_iload_n (pc := 70) 1 dX10_goRun_70 rfl rfl ?_
        refine tr_iconst (pc := 71) (v := nI 0) dX10_goRun_71 (by decide) ?_
        refine tr_iast (pc := 72) j dX10_goRun_72 (hS.1 75 (0, 32) rfl) rfl (by omega) (by decide) ?_
        refine tr_iinc (pc := 73) (v := nI (j + 1)) (lv' := [(1, .int (nI (j + 1))), (0, rv a 50)]) 1 dX10_goRun_73 rfl (by rw [show Int32.ofInt 1 = nI 1 from by decide, nI_add]) (by decide) rfl ?_
        refine tr_goto (pc := 76) (tgt := 46) dX10_goRun_76 (by decide) ?_
        refine tr_sub (pc := 46) (lv' := [(0, rv a 50), (1, .int (nI (j + 1)))]) [1, 0] rfl ?_
        exact ih (j + 1) _ (by omega) (by omega) (fun s hs => by
          by_cases e : s = j
          · subst e; exact ⟨upd_s, upd_s, upd_s⟩
          · refine ⟨?_, ?_, ?_⟩
            · exact (upd_n e).trans (hJ s (by omega)).1
            · exact (upd_n e).trans (hJ s (by omega)).2.1
            · exact (upd_n e).trans (hJ s (by omega)).2.2) (fun o ho => by
          have ho' := ho
          simp only [List.mem_cons, List.not_mem_nil, or_false, not_or] at ho'
          rw [hs_ne (by omega), hs_ne (by omega), hs_ne (by omega)]
          exact ho2 o ho)
  exact L46 33 0 hA (by omega) (by omega) (fun s hs => absurd hs (Nat.not_lt_zero _)) (fun _ _ => rfl)

set_option maxHeartbeats 4000000 in
set_option maxRecDepth 100000 in
theorem c_morun0 {a : Am} {S : St} {h : Hp} (hS : IsSt S) {P : Prog} (hT : TrM h P) : CT a 0 mX10_ofRun [rv a 50, .int (nI 0)] S h (Rt (aRun P 0) S h) := by
  refine met_of (by decide +kernel) (Nat.le_of_ble_eq_true rfl) ?_
  show T a 0 mX10_ofRun 0 [(0, rv a 50), (1, .int (nI 0))] [] S h _
  refine tr_iload_n (pc := 0) 1 dX10_ofRun_0 rfl rfl ?_
  refine tr_if_ne (pc := 1) (tgt := 19) dX10_ofRun_1 (by decide) (nI_z_eq (by omega)) (fun hcc => absurd (by decide) hcc) (fun _ => ?_)
  refine tr_aload_n (pc := 4) 0 dX10_ofRun_4 rfl rfl ?_
  refine tr_getI (pc := 5) (x := bI (runP P).2.2) dX10_ofRun_5 (hS.1 50 (13, 45) rfl) fi_X10_257 rfl hT.2 ?_
  refine tr_if_eq (pc := 8) (tgt := 15) dX10_ofRun_8 (by decide) Iff.rfl (fun q8 => ?_) (fun q8 => ?_)
  · skip
    refine tr_iconst (pc := 15) (v := nI 0) dX10_ofRun_15 (by decide) ?_
    refine tr_goto (pc := 16) (tgt := 71) dX10_ofRun_16 (by decide) ?_
    exact tr_iret (pc := 71) dX10_ofRun_71 rfl rfl (by
        show Rt (bI (runP P).2.2) S h _ _ _
        rw [bz_f q8]; exact ⟨rfl, rfl, rfl⟩)
  · skip
    refine tr_iconst (pc := 11) (v := nI 1) dX10_ofRun_11 (by decide) ?_
    refine tr_goto (pc := 12) (tgt := 71) dX10_ofRun_12 (by decide) ?_
    exact tr_iret (pc := 71) dX10_ofRun_71 rfl rfl (by
        show Rt (bI (runP P).2.2) S h _ _ _
        rw [bz_t q8]; exact ⟨rfl, rfl, rfl⟩)

set_option maxHeartbeats 4000000 in
set_option maxRecDepth 100000 in
theorem c_morun1 {a : Am} {S : St} {h : Hp} (hS : IsSt S) {P : Prog} (hT : TrM h P) : CT a 0 mX10_ofRun [rv a 50, .int (nI 1)] S h (Rt (aRun P 1) S h) := by
  refine met_of (by decide +kernel) (Nat.le_of_ble_eq_true rfl) ?_
  show T a 0 mX10_ofRun 0 [(0, rv a 50), (1, .int (nI 1))] [] S h _
  refine tr_iload_n (pc := 0) 1 dX10_ofRun_0 rfl rfl ?_
  refine tr_if_ne (pc := 1) (tgt := 19) dX10_ofRun_1 (by decide) (nI_z_eq (by omega)) (fun _ => ?_) (fun hcc => absurd hcc (by decide))
  refine tr_iload_n (pc := 19) 1 dX10_ofRun_19 rfl rfl ?_
  refine tr_iconst (pc := 20) (v := nI 1) dX10_ofRun_20 (by decide) ?_
  refine tr_icmp_ne (pc := 21) (tgt := 31) dX10_ofRun_21 (by decide) (nI_eq (by omega) (by omega)) (fun hcc => absurd (by decide) hcc) (fun _ => ?_)
  refine tr_aload_n (pc := 24) 0 dX10_ofRun_24 rfl rfl ?_
  refine tr_getI (pc := 25) (x := nI ((runP P).1.1 0)) dX10_ofRun_25 (hS.1 50 (13, 45) rfl) fi_X10_236 rfl hT.1.1.1 ?_
  refine tr_goto (pc := 28) (tgt := 71) dX10_ofRun_28 (by decide) ?_
  exact tr_iret (pc := 71) dX10_ofRun_71 rfl rfl (⟨rfl, rfl, rfl⟩)

set_option maxHeartbeats 4000000 in
set_option maxRecDepth 100000 in
theorem c_morun2 {a : Am} {S : St} {h : Hp} (hS : IsSt S) {P : Prog} (hT : TrM h P) : CT a 0 mX10_ofRun [rv a 50, .int (nI 2)] S h (Rt (aRun P 2) S h) := by
  refine met_of (by decide +kernel) (Nat.le_of_ble_eq_true rfl) ?_
  show T a 0 mX10_ofRun 0 [(0, rv a 50), (1, .int (nI 2))] [] S h _
  refine tr_iload_n (pc := 0) 1 dX10_ofRun_0 rfl rfl ?_
  refine tr_if_ne (pc := 1) (tgt := 19) dX10_ofRun_1 (by decide) (nI_z_eq (by omega)) (fun _ => ?_) (fun hcc => absurd hcc (by decide))
  refine tr_iload_n (pc := 19) 1 dX10_ofRun_19 rfl rfl ?_
  refine tr_iconst (pc := 20) (v := nI 1) dX10_ofRun_20 (by decide) ?_
  refine tr_icmp_ne (pc := 21) (tgt := 31) dX10_ofRun_21 (by decide) (nI_eq (by omega) (by omega)) (fun _ => ?_) (fun hcc => absurd hcc (by decide))
  refine tr_iload_n (pc := 31) 1 dX10_ofRun_31 rfl rfl ?_
  refine tr_iconst (pc := 32) (v := nI 2) dX10_ofRun_32 (by decide) ?_
  refine tr_icmp_ne (pc := 33) (tgt := 43) dX10_ofRun_33 (by decide) (nI_eq (by omega) (by omega)) (fun hcc => absurd (by decide) hcc) (fun _ => ?_)
  refine tr_aload_n (pc := 36) 0 dX10_ofRun_36 rfl rfl ?_
  refine tr_getI (pc := 37) (x := nI ((runP P).1.1 1)) dX10_ofRun_37 (hS.1 50 (13, 45) rfl) fi_X10_248 rfl hT.1.1.2.2.1 ?_
  refine tr_goto (pc := 40) (tgt := 71) dX10_ofRun_40 (by decide) ?_
  exact tr_iret (pc := 71) dX10_ofRun_71 rfl rfl (⟨rfl, rfl, rfl⟩)

set_option maxHeartbeats 4000000 in
set_option maxRecDepth 100000 in
theorem c_morun3 {a : Am} {S : St} {h : Hp} (hS : IsSt S) {P : Prog} (hT : TrM h P) : CT a 0 mX10_ofRun [rv a 50, .int (nI 3)] S h (Rt (aRun P 3) S h) := by
  refine met_of (by decide +kernel) (Nat.le_of_ble_eq_true rfl) ?_
  show T a 0 mX10_ofRun 0 [(0, rv a 50), (1, .int (nI 3))] [] S h _
  refine tr_iload_n (pc := 0) 1 dX10_ofRun_0 rfl rfl ?_
  refine tr_if_ne (pc := 1) (tgt := 19) dX10_ofRun_1 (by decide) (nI_z_eq (by omega)) (fun _ => ?_) (fun hcc => absurd hcc (by decide))
  refine tr_iload_n (pc := 19) 1 dX10_ofRun_19 rfl rfl ?_
  refine tr_iconst (pc := 20) (v := nI 1) dX10_ofRun_20 (by decide) ?_
  refine tr_icmp_ne (pc := 21) (tgt := 31) dX10_ofRun_21 (by decide) (nI_eq (by omega) (by omega)) (fun _ => ?_) (fun hcc => absurd hcc (by decide))
  refine tr_iload_n (pc := 31) 1 dX10_ofRun_31 rfl rfl ?_
  refine tr_iconst (pc := 32) (v := nI 2) dX10_ofRun_32 (by decide) ?_
  refine tr_icmp_ne (pc := 33) (tgt := 43) dX10_ofRun_33 (by decide) (nI_eq (by omega) (by omega)) (fun _ => ?_) (fun hcc => absurd hcc (by decide))
  refine tr_iload_n (pc := 43) 1 dX10_ofRun_43 rfl rfl ?_
  refine tr_iconst (pc := 44) (v := nI 3) dX10_ofRun_44 (by decide) ?_
  refine tr_icmp_ne (pc := 45) (tgt := 55) dX10_ofRun_45 (by decide) (nI_eq (by omega) (by omega)) (fun hcc => absurd (by decide) hcc) (fun _ => ?_)
  refine tr_aload_n (pc := 48) 0 dX10_ofRun_48 rfl rfl ?_
  refine tr_getI (pc := 49) (x := nI ((runP P).1.1 2)) dX10_ofRun_49 (hS.1 50 (13, 45) rfl) fi_X10_251 rfl hT.1.1.2.2.2.1 ?_
  refine tr_goto (pc := 52) (tgt := 71) dX10_ofRun_52 (by decide) ?_
  exact tr_iret (pc := 71) dX10_ofRun_71 rfl rfl (⟨rfl, rfl, rfl⟩)

set_option maxHeartbeats 4000000 in
set_option maxRecDepth 100000 in
theorem c_morun4 {a : Am} {S : St} {h : Hp} (hS : IsSt S) {P : Prog} (hT : TrM h P) : CT a 0 mX10_ofRun [rv a 50, .int (nI 4)] S h (Rt (aRun P 4) S h) := by
  refine met_of (by decide +kernel) (Nat.le_of_ble_eq_true rfl) ?_
  show T a 0 mX10_ofRun 0 [(0, rv a 50), (1, .int (nI 4))] [] S h _
  refine tr_iload_n (pc := 0) 1 dX10_ofRun_0 rfl rfl ?_
  refine tr_if_ne (pc := 1) (tgt := 19) dX10_ofRun_1 (by decide) (nI_z_eq (by omega)) (fun _ => ?_) (fun hcc => absurd hcc (by decide))
  refine tr_iload_n (pc := 19) 1 dX10_ofRun_19 rfl rfl ?_
  refine tr_iconst (pc := 20) (v := nI 1) dX10_ofRun_20 (by decide) ?_
  refine tr_icmp_ne (pc := 21) (tgt := 31) dX10_ofRun_21 (by decide) (nI_eq (by omega) (by omega)) (fun _ => ?_) (fun hcc => absurd hcc (by decide))
  refine tr_iload_n (pc := 31) 1 dX10_ofRun_31 rfl rfl ?_
  refine tr_iconst (pc := 32) (v := nI 2) dX10_ofRun_32 (by decide) ?_
  refine tr_icmp_ne (pc := 33) (tgt := 43) dX10_ofRun_33 (by decide) (nI_eq (by omega) (by omega)) (fun _ => ?_) (fun hcc => absurd hcc (by decide))
  refine tr_iload_n (pc := 43) 1 dX10_ofRun_43 rfl rfl ?_
  refine tr_iconst (pc := 44) (v := nI 3) dX10_ofRun_44 (by decide) ?_
  refine tr_icmp_ne (pc := 45) (tgt := 55) dX10_ofRun_45 (by decide) (nI_eq (by omega) (by omega)) (fun _ => ?_) (fun hcc => absurd hcc (by decide))
  refine tr_iload_n (pc := 55) 1 dX10_ofRun_55 rfl rfl ?_
  refine tr_iconst (pc := 56) (v := nI 4) dX10_ofRun_56 (by decide) ?_
  refine tr_icmp_ne (pc := 57) (tgt := 67) dX10_ofRun_57 (by decide) (nI_eq (by omega) (by omega)) (fun hcc => absurd (by decide) hcc) (fun _ => ?_)
  refine tr_aload_n (pc := 60) 0 dX10_ofRun_60 rfl rfl ?_
  refine tr_getI (pc := 61) (x := nI ((runP P).1.1 3)) dX10_ofRun_61 (hS.1 50 (13, 45) rfl) fi_X10_233 rfl hT.1.1.2.2.2.2.1 ?_
  refine tr_goto (pc := 64) (tgt := 71) dX10_ofRun_64 (by decide) ?_
  exact tr_iret (pc := 71) dX10_ofRun_71 rfl rfl (⟨rfl, rfl, rfl⟩)

set_option maxHeartbeats 4000000 in
set_option maxRecDepth 100000 in
theorem c_morun5 {a : Am} {S : St} {h : Hp} (hS : IsSt S) {P : Prog} (hT : TrM h P) : CT a 0 mX10_ofRun [rv a 50, .int (nI 5)] S h (Rt (aRun P 5) S h) := by
  refine met_of (by decide +kernel) (Nat.le_of_ble_eq_true rfl) ?_
  show T a 0 mX10_ofRun 0 [(0, rv a 50), (1, .int (nI 5))] [] S h _
  refine tr_iload_n (pc := 0) 1 dX10_ofRun_0 rfl rfl ?_
  refine tr_if_ne (pc := 1) (tgt := 19) dX10_ofRun_1 (by decide) (nI_z_eq (by omega)) (fun _ => ?_) (fun hcc => absurd hcc (by decide))
  refine tr_iload_n (pc := 19) 1 dX10_ofRun_19 rfl rfl ?_
  refine tr_iconst (pc := 20) (v := nI 1) dX10_ofRun_20 (by decide) ?_
  refine tr_icmp_ne (pc := 21) (tgt := 31) dX10_ofRun_21 (by decide) (nI_eq (by omega) (by omega)) (fun _ => ?_) (fun hcc => absurd hcc (by decide))
  refine tr_iload_n (pc := 31) 1 dX10_ofRun_31 rfl rfl ?_
  refine tr_iconst (pc := 32) (v := nI 2) dX10_ofRun_32 (by decide) ?_
  refine tr_icmp_ne (pc := 33) (tgt := 43) dX10_ofRun_33 (by decide) (nI_eq (by omega) (by omega)) (fun _ => ?_) (fun hcc => absurd hcc (by decide))
  refine tr_iload_n (pc := 43) 1 dX10_ofRun_43 rfl rfl ?_
  refine tr_iconst (pc := 44) (v := nI 3) dX10_ofRun_44 (by decide) ?_
  refine tr_icmp_ne (pc := 45) (tgt := 55) dX10_ofRun_45 (by decide) (nI_eq (by omega) (by omega)) (fun _ => ?_) (fun hcc => absurd hcc (by decide))
  refine tr_iload_n (pc := 55) 1 dX10_ofRun_55 rfl rfl ?_
  refine tr_iconst (pc := 56) (v := nI 4) dX10_ofRun_56 (by decide) ?_
  refine tr_icmp_ne (pc := 57) (tgt := 67) dX10_ofRun_57 (by decide) (nI_eq (by omega) (by omega)) (fun _ => ?_) (fun hcc => absurd hcc (by decide))
  refine tr_aload_n (pc := 67) 0 dX10_ofRun_67 rfl rfl ?_
  refine tr_getI (pc := 68) (x := nI ((runP P).1.1 4)) dX10_ofRun_68 (hS.1 50 (13, 45) rfl) fi_X10_245 rfl hT.1.1.2.2.2.2.2 ?_
  exact tr_iret (pc := 71) dX10_ofRun_71 rfl rfl (⟨rfl, rfl, rfl⟩)

set_option maxHeartbeats 4000000 in
set_option maxRecDepth 100000 in
theorem c_moran0 {a : Am} {S : St} {h : Hp} (hS : IsSt S) {P : Prog} (hT : TrM h P) {s : Nat} (hs : s < 32) : CT a 0 mX10_ranOf [rv a 50, .int (nI s), .int (nI 0)] S h (Rt (aRan P s 0) S h) := by
  refine met_of (by decide +kernel) (Nat.le_of_ble_eq_true rfl) ?_
  show T a 0 mX10_ranOf 0 [(0, rv a 50), (1, .int (nI s)), (2, .int (nI 0))] [] S h _
  refine tr_iload_n (pc := 0) 2 dX10_ranOf_0 rfl rfl ?_
  refine tr_if_ne (pc := 1) (tgt := 13) dX10_ranOf_1 (by decide) (nI_z_eq (by omega)) (fun hcc => absurd (by decide) hcc) (fun _ => ?_)
  refine tr_aload_n (pc := 4) 0 dX10_ranOf_4 rfl rfl ?_
  refine tr_getR (pc := 5) (q := 73) dX10_ranOf_5 (hS.1 50 (13, 45) rfl) fi_X10_76 rfl (hS.2 50 42 73 rfl) ?_
  refine tr_iload_n (pc := 8) 1 dX10_ranOf_8 rfl rfl ?_
  refine tr_iald (pc := 9) (v := nI ((runP P).1.2.1 2 s)) s dX10_ranOf_9 (hS.1 73 (0, 32) rfl) rfl (by omega) (by decide) (hT.1.2.2 s hs).1 ?_
  refine tr_goto (pc := 10) (tgt := 33) dX10_ranOf_10 (by decide) ?_
  exact tr_iret (pc := 33) dX10_ranOf_33 rfl rfl (⟨rfl, rfl, rfl⟩)

set_option maxHeartbeats 4000000 in
set_option maxRecDepth 100000 in
theorem c_moran1 {a : Am} {S : St} {h : Hp} (hS : IsSt S) {P : Prog} (hT : TrM h P) {s : Nat} (hs : s < 32) : CT a 0 mX10_ranOf [rv a 50, .int (nI s), .int (nI 1)] S h (Rt (aRan P s 1) S h) := by
  refine met_of (by decide +kernel) (Nat.le_of_ble_eq_true rfl) ?_
  show T a 0 mX10_ranOf 0 [(0, rv a 50), (1, .int (nI s)), (2, .int (nI 1))] [] S h _
  refine tr_iload_n (pc := 0) 2 dX10_ranOf_0 rfl rfl ?_
  refine tr_if_ne (pc := 1) (tgt := 13) dX10_ranOf_1 (by decide) (nI_z_eq (by omega)) (fun _ => ?_) (fun hcc => absurd hcc (by decide))
  refine tr_iload_n (pc := 13) 2 dX10_ranOf_13 rfl rfl ?_
  refine tr_iconst (pc := 14) (v := nI 1) dX10_ranOf_14 (by decide) ?_
  refine tr_icmp_ne (pc := 15) (tgt := 27) dX10_ranOf_15 (by decide) (nI_eq (by omega) (by omega)) (fun hcc => absurd (by decide) hcc) (fun _ => ?_)
  refine tr_aload_n (pc := 18) 0 dX10_ranOf_18 rfl rfl ?_
  refine tr_getR (pc := 19) (q := 74) dX10_ranOf_19 (hS.1 50 (13, 45) rfl) fi_X10_79 rfl (hS.2 50 43 74 rfl) ?_
  refine tr_iload_n (pc := 22) 1 dX10_ranOf_22 rfl rfl ?_
  refine tr_iald (pc := 23) (v := nI ((runP P).1.2.1 3 s)) s dX10_ranOf_23 (hS.1 74 (0, 32) rfl) rfl (by omega) (by decide) (hT.1.2.2 s hs).2.1 ?_
  refine tr_goto (pc := 24) (tgt := 33) dX10_ranOf_24 (by decide) ?_
  exact tr_iret (pc := 33) dX10_ranOf_33 rfl rfl (⟨rfl, rfl, rfl⟩)

set_option maxHeartbeats 4000000 in
set_option maxRecDepth 100000 in
theorem c_moran2 {a : Am} {S : St} {h : Hp} (hS : IsSt S) {P : Prog} (hT : TrM h P) {s : Nat} (hs : s < 32) : CT a 0 mX10_ranOf [rv a 50, .int (nI s), .int (nI 2)] S h (Rt (aRan P s 2) S h) := by
  refine met_of (by decide +kernel) (Nat.le_of_ble_eq_true rfl) ?_
  show T a 0 mX10_ranOf 0 [(0, rv a 50), (1, .int (nI s)), (2, .int (nI 2))] [] S h _
  refine tr_iload_n (pc := 0) 2 dX10_ranOf_0 rfl rfl ?_
  refine tr_if_ne (pc := 1) (tgt := 13) dX10_ranOf_1 (by decide) (nI_z_eq (by omega)) (fun _ => ?_) (fun hcc => absurd hcc (by decide))
  refine tr_iload_n (pc := 13) 2 dX10_ranOf_13 rfl rfl ?_
  refine tr_iconst (pc := 14) (v := nI 1) dX10_ranOf_14 (by decide) ?_
  refine tr_icmp_ne (pc := 15) (tgt := 27) dX10_ranOf_15 (by decide) (nI_eq (by omega) (by omega)) (fun _ => ?_) (fun hcc => absurd hcc (by decide))
  refine tr_aload_n (pc := 27) 0 dX10_ranOf_27 rfl rfl ?_
  refine tr_getR (pc := 28) (q := 75) dX10_ranOf_28 (hS.1 50 (13, 45) rfl) fi_X10_82 rfl (hS.2 50 44 75 rfl) ?_
  refine tr_iload_n (pc := 31) 1 dX10_ranOf_31 rfl rfl ?_
  refine tr_iald (pc := 32) (v := nI ((runP P).1.2.1 4 s)) s dX10_ranOf_32 (hS.1 75 (0, 32) rfl) rfl (by omega) (by decide) (hT.1.2.2 s hs).2.2 ?_
  exact tr_iret (pc := 33) dX10_ranOf_33 rfl rfl (⟨rfl, rfl, rfl⟩)

set_option maxHeartbeats 4000000 in
set_option maxRecDepth 100000 in
theorem c_mheld {a : Am} {S : St} {h : Hp} (hS : IsSt S) {P : Prog} (hT : TrM h P) (hVP : VP P) : CT a 0 mX10_heldNow [rv a 50] S h (Rt (aHeld P) S h) := by
  obtain ⟨hW, hn2⟩ := run_wf hVP
  refine met_of (by decide +kernel) (Nat.le_of_ble_eq_true rfl) ?_
  show T a 0 mX10_heldNow 0 [(0, rv a 50)] [] S h _
  refine tr_aload_n (pc := 0) 0 dX10_heldNow_0 rfl rfl ?_
  refine tr_getI (pc := 1) (x := tv (runP P).1.2.2.2) dX10_heldNow_1 (hS.1 50 (13, 45) rfl) fi_X10_239 rfl hT.1.1.2.1 ?_
  unfold aHeld
  cases hx : (runP P).1.2.2.2 with
  | none => ?_
  | some t => ?_
  · skip
    show T a 0 mX10_heldNow 4 [(0, rv a 50)] [.int (-1)] S h _
    refine tr_iconst (pc := 4) (v := -1) dX10_heldNow_4 (by decide) ?_
    refine tr_icmp_ne (pc := 5) (tgt := 12) dX10_heldNow_5 (by decide) Iff.rfl (fun hcc => absurd (rfl) hcc) (fun _ => ?_)
    refine tr_iconst (pc := 8) (v := -1) dX10_heldNow_8 (by decide) ?_
    refine tr_goto (pc := 9) (tgt := 21) dX10_heldNow_9 (by decide) ?_
    exact tr_iret (pc := 21) dX10_heldNow_21 rfl rfl (⟨rfl, rfl, rfl⟩)
  · skip
    have ht := hW.2 t hx
    show T a 0 mX10_heldNow 4 [(0, rv a 50)] [.int (nI t)] S h _
    refine tr_iconst (pc := 4) (v := -1) dX10_heldNow_4 (by decide) ?_
    refine tr_icmp_ne (pc := 5) (tgt := 12) dX10_heldNow_5 (by decide) Iff.rfl (fun _ => ?_) (fun hcc => absurd hcc (nI_m1 (by omega)))
    refine tr_aload_n (pc := 12) 0 dX10_heldNow_12 rfl rfl ?_
    refine tr_getR (pc := 13) (q := 62) dX10_heldNow_13 (hS.1 50 (13, 45) rfl) fi_X10_43 rfl (hS.2 50 23 62 rfl) ?_
    refine tr_aload_n (pc := 16) 0 dX10_heldNow_16 rfl rfl ?_
    refine tr_getI (pc := 17) (x := nI t) dX10_heldNow_17 (hS.1 50 (13, 45) rfl) fi_X10_239 rfl (hT.1.1.2.1.trans (by rw [hx]; rfl)) ?_
    refine tr_iald (pc := 20) (v := nI ((runP P).1.2.1 0 t)) t dX10_heldNow_20 (hS.1 62 (0, 4100) rfl) rfl (by omega) (by decide) (hT.1.2.1 t ht).1 ?_
    exact tr_iret (pc := 21) dX10_heldNow_21 rfl rfl (⟨rfl, rfl, rfl⟩)
