/-! ===== the reader of the class ===== -/
theorem nI_nm {f : Nat} (h : f < 2 ^ 31) : nI f ≠ -1 := by
  intro q
  have h1 : ¬ nI f < 0 := nI_pos h
  exact h1 (by rw [q]; decide)
theorem ck_eq {k w : Nat} (hk : k ≤ 131) (hw : w < 131) : ck k = nI w ↔ k = w := by
  rw [← ck_n (by omega : w ≠ 131)]
  exact ⟨fun q => ck_inj k hk w (by omega) q, fun q => by rw [q]⟩
theorem ck_end {k : Nat} (hk : k ≤ 131) : ck k = -1 ↔ k = 131 := by
  rw [show (-1 : Int32) = ck 131 from rfl]
  exact ⟨fun q => ck_inj k hk 131 (by omega) q, fun q => by rw [q]⟩
theorem ck_le {k w : Nat} (hk : k ≤ 131) (hw : w < 2 ^ 30) : ck k ≤ nI w ↔ (k = 131 ∨ k ≤ w) := by
  by_cases h : k = 131
  · subst h
    have : ck 131 ≤ nI w := by
      have h1 : (0 : Int32) ≤ nI w := nI_pos' (by omega)
      exact Int32.le_trans (by decide) h1
    exact ⟨fun _ => Or.inl rfl, fun _ => this⟩
  · rw [ck_n h, nI_leI (by omega) (by omega)]; omega
theorem ck_ge {k w : Nat} (hk : k ≤ 131) (hw : w < 2 ^ 30) : nI w ≤ ck k ↔ (k ≠ 131 ∧ w ≤ k) := by
  by_cases h : k = 131
  · subst h
    refine ⟨fun q => ?_, fun q => absurd rfl q.1⟩
    have h1 : (0 : Int32) ≤ nI w := nI_pos' (by omega)
    exact absurd (Int32.le_trans h1 q) (by decide)
  · rw [ck_n h, nI_leI (by omega) (by omega)]; omega
def nmI (k : Nat) : Int32 := if nm k < 4 then nI (nm k) else -1
theorem nmI_y {k : Nat} (h : nm k < 4) : nmI k = nI (nm k) := if_pos h
theorem nmI_n {k : Nat} (h : ¬ nm k < 4) : nmI k = -1 := if_neg h
theorem nmI_iff {k : Nat} : nmI k = -1 ↔ ¬ nm k < 4 := by
  by_cases h : nm k < 4
  · rw [nmI_y h]; exact ⟨fun q => absurd q (nI_nm (by omega)), fun q => absurd h q⟩
  · rw [nmI_n h]; exact ⟨fun _ => h, fun _ => rfl⟩
theorem lk_oth : ∀ k, k < 132 → nm k = 4 → Op.lookupswitch.offset [(97, 45), (98, 47), (112, 43), (114, 49)] 51 (ck k).toInt = 51 := by decide +kernel
set_option maxHeartbeats 4000000 in
set_option maxRecDepth 100000 in
theorem c_nmof_112 {a : Am} {S : St} {h : Hp} : CT a 0 mX3_nameOf [.int (nI 112)] S h (Rt (nI 0) S h) := by
  refine met_of (by decide +kernel) (Nat.le_of_ble_eq_true rfl) ?_
  show T a 0 mX3_nameOf 0 [(0, .int (nI 112))] [] S h _
  refine tr_iload_n (pc := 0) 0 dX3_nameOf_0 rfl rfl ?_
  refine tr_look (pc := 1) (off := 43) (tgt := 44) dX3_nameOf_1 (by decide) (by decide) (by decide) ?_
  refine tr_iconst (pc := 44) (v := nI 0) dX3_nameOf_44 (by decide) ?_
  exact tr_iret (pc := 45) dX3_nameOf_45 rfl rfl (⟨rfl, rfl, rfl⟩)

set_option maxHeartbeats 4000000 in
set_option maxRecDepth 100000 in
theorem c_nmof_97 {a : Am} {S : St} {h : Hp} : CT a 0 mX3_nameOf [.int (nI 97)] S h (Rt (nI 1) S h) := by
  refine met_of (by decide +kernel) (Nat.le_of_ble_eq_true rfl) ?_
  show T a 0 mX3_nameOf 0 [(0, .int (nI 97))] [] S h _
  refine tr_iload_n (pc := 0) 0 dX3_nameOf_0 rfl rfl ?_
  refine tr_look (pc := 1) (off := 45) (tgt := 46) dX3_nameOf_1 (by decide) (by decide) (by decide) ?_
  refine tr_iconst (pc := 46) (v := nI 1) dX3_nameOf_46 (by decide) ?_
  exact tr_iret (pc := 47) dX3_nameOf_47 rfl rfl (⟨rfl, rfl, rfl⟩)

set_option maxHeartbeats 4000000 in
set_option maxRecDepth 100000 in
theorem c_nmof_98 {a : Am} {S : St} {h : Hp} : CT a 0 mX3_nameOf [.int (nI 98)] S h (Rt (nI 2) S h) := by
  refine met_of (by decide +kernel) (Nat.le_of_ble_eq_true rfl) ?_
  show T a 0 mX3_nameOf 0 [(0, .int (nI 98))] [] S h _
  refine tr_iload_n (pc := 0) 0 dX3_nameOf_0 rfl rfl ?_
  refine tr_look (pc := 1) (off := 47) (tgt := 48) dX3_nameOf_1 (by decide) (by decide) (by decide) ?_
  refine tr_iconst (pc := 48) (v := nI 2) dX3_nameOf_48 (by decide) ?_
  exact tr_iret (pc := 49) dX3_nameOf_49 rfl rfl (⟨rfl, rfl, rfl⟩)

set_option maxHeartbeats 4000000 in
set_option maxRecDepth 100000 in
theorem c_nmof_114 {a : Am} {S : St} {h : Hp} : CT a 0 mX3_nameOf [.int (nI 114)] S h (Rt (nI 3) S h) := by
  refine met_of (by decide +kernel) (Nat.le_of_ble_eq_true rfl) ?_
  show T a 0 mX3_nameOf 0 [(0, .int (nI 114))] [] S h _
  refine tr_iload_n (pc := 0) 0 dX3_nameOf_0 rfl rfl ?_
  refine tr_look (pc := 1) (off := 49) (tgt := 50) dX3_nameOf_1 (by decide) (by decide) (by decide) ?_
  refine tr_iconst (pc := 50) (v := nI 3) dX3_nameOf_50 (by decide) ?_
  exact tr_iret (pc := 51) dX3_nameOf_51 rfl rfl (⟨rfl, rfl, rfl⟩)

set_option maxHeartbeats 4000000 in
set_option maxRecDepth 100000 in
theorem c_nmof_o {a : Am} {S : St} {h : Hp} {k : Nat} (hk : k < 132) (hn : nm k = 4) : CT a 0 mX3_nameOf [.int (ck k)] S h (Rt (-1) S h) := by
  refine met_of (by decide +kernel) (Nat.le_of_ble_eq_true rfl) ?_
  show T a 0 mX3_nameOf 0 [(0, .int (ck k))] [] S h _
  refine tr_iload_n (pc := 0) 0 dX3_nameOf_0 rfl rfl ?_
  refine tr_look (pc := 1) (off := 51) (tgt := 52) dX3_nameOf_1 (by decide) (lk_oth k hk hn) (by decide) ?_
  refine tr_iconst (pc := 52) (v := -1) dX3_nameOf_52 (by decide) ?_
  exact tr_iret (pc := 53) dX3_nameOf_53 rfl rfl (⟨rfl, rfl, rfl⟩)

theorem c_nmof3 {a : Am} {S : St} {h : Hp} {k : Nat} (hk : k < 132) : CT a 0 mX3_nameOf [.int (ck k)] S h (Rt (nmI k) S h) := by
  by_cases h1 : k = 112
  · subst h1; exact c_nmof_112
  by_cases h2 : k = 97
  · subst h2; exact c_nmof_97
  by_cases h3 : k = 98
  · subst h3; exact c_nmof_98
  by_cases h4 : k = 114
  · subst h4; exact c_nmof_114
  have hn : nm k = 4 := by unfold nm; rw [if_neg h1, if_neg h2, if_neg h3, if_neg h4]
  rw [nmI_n (by omega)]
  exact c_nmof_o hk hn
/-- how far the reader is: a fault, or a place -/
def CQ (h : Hp) (tx : List Nat) (n i : Nat) (σ : Except Nat Nat) : Prop := TK h tx n ∧ i ≤ n ∧ h 10 3 = nI i ∧ (match σ with | .ok p => h 9 3 = -1 ∧ p = pl tx i | .error f => h 9 3 = nI f ∧ f ≤ 200)
def rfS (σ : Except Nat Nat) : Except Nat Nat := match σ with | .ok p => .error p | .error f => .error f
def tkS (tx : List Nat) (w : Nat) (σ : Except Nat Nat) : Except Nat Nat := match σ with | .ok p => (if kd tx p = w then .ok (Nx tx p) else .error p) | .error f => .error f
def nmS (tx : List Nat) (σ : Except Nat Nat) : Except Nat Nat := match σ with | .ok p => (if nm (kd tx p) < 4 then .ok (Nx tx p) else .error p) | .error f => .error f
theorem tkS_y {tx : List Nat} {w p : Nat} (h : kd tx p = w) : tkS tx w (.ok p) = .ok (Nx tx p) := if_pos h
theorem tkS_n {tx : List Nat} {w p : Nat} (h : ¬ kd tx p = w) : tkS tx w (.ok p) = .error p := if_neg h
theorem tkS_e {tx : List Nat} {w f : Nat} : tkS tx w (.error f) = .error f := rfl
theorem nmS_y {tx : List Nat} {p : Nat} (h : nm (kd tx p) < 4) : nmS tx (.ok p) = .ok (Nx tx p) := if_pos h
theorem nmS_n {tx : List Nat} {p : Nat} (h : ¬ nm (kd tx p) < 4) : nmS tx (.ok p) = .error p := if_neg h
theorem nmS_e {tx : List Nat} {f : Nat} : nmS tx (.error f) = .error f := rfl
def RG (h h' : Hp) : Prop := Fr [9, 10] h h' ∧ ∀ k, k ≠ 3 → h' 9 k = h 9 k
theorem RG.trans {h h1 h2 : Hp} (k1 : RG h h1) (k2 : RG h1 h2) : RG h h2 := ⟨k1.1.trans k2.1, fun k hk => (k2.2 k hk).trans (k1.2 k hk)⟩
theorem RG.ten {h h1 : Hp} (k : Fr [10] h h1) : RG h h1 := ⟨k.mono (by decide), fun j _ => by rw [k 9 (by decide)]⟩
theorem cq_pos {h : Hp} {tx : List Nat} {n i p : Nat} (hQ : CQ h tx n i (.ok p)) : p = pl tx i := hQ.2.2.2.2
theorem cq_fl {h : Hp} {tx : List Nat} {n i f : Nat} (hT : TK h tx n) (hi : i ≤ n) (hn : h 10 3 = nI i) (hf : f ≤ 200) : CQ (hs h 9 (upd (h 9) 3 (nI f))) tx n i (.error f) := by
  refine ⟨hT.fr (L := [9]) (Fr.rf.hs (by decide)) (by decide) (by decide) (by decide), hi, ?_, ?_, hf⟩
  · rw [hs_ne (by decide)]; exact hn
  · rw [hs_same, upd_s]
theorem rg_fl {h : Hp} {x : Int32} : RG h (hs h 9 (upd (h 9) 3 x)) := ⟨Fr.rf.hs (by decide), fun k hk => by rw [hs_same, upd_n hk]⟩
theorem cq_put {h : Hp} {tx : List Nat} {n i k : Nat} {x : Int32} {σ : Except Nat Nat} (hQ : CQ h tx n i σ) (hk : k ≠ 3) : CQ (hs h 9 (upd (h 9) k x)) tx n i σ := by
  obtain ⟨q1, q2, q3, q4⟩ := hQ
  refine ⟨q1.fr (L := [9]) (Fr.rf.hs (by decide)) (by decide) (by decide) (by decide), q2, ?_, ?_⟩
  · rw [hs_ne (by decide)]; exact q3
  · rw [hs_same, upd_n (Ne.symm hk)]; exact q4
theorem cq_13 {h h' : Hp} {tx : List Nat} {n i : Nat} {σ : Except Nat Nat} (hQ : CQ h tx n i σ) (hF : Fr [6, 7, 8, 13] h h') : CQ h' tx n i σ := by
  unfold CQ
  rw [hF 10 (by decide), hF 9 (by decide)]
  exact ⟨hQ.1.fr hF (by decide) (by decide) (by decide), hQ.2⟩
theorem cq_yes {h h2 : Hp} {tx : List Nat} {n i i2 : Nat} {σ : Except Nat Nat} {w : Nat} (hQ : CQ h tx n i σ) (hw : kd tx (pl tx i) = w) (hi2 : i2 ≤ n) (hK2 : TK h2 tx n) (hn2 : h2 10 3 = nI i2) (hp2 : pl tx i2 = Nx tx (pl tx i)) (hF : Fr [10] h h2) : CQ h2 tx n i2 (tkS tx w σ) := by
  refine ⟨hK2, hi2, hn2, ?_⟩
  rw [hF 9 (by decide)]
  obtain ⟨_, _, _, q⟩ := hQ
  cases σ with
  | error f => exact q
  | ok p =>
    obtain ⟨q1, rfl⟩ := q
    rw [tkS_y hw]
    exact ⟨q1, hp2.symm⟩
theorem cq_yesN {h h2 : Hp} {tx : List Nat} {n i i2 : Nat} {σ : Except Nat Nat} (hQ : CQ h tx n i σ) (hw : nm (kd tx (pl tx i)) < 4) (hi2 : i2 ≤ n) (hK2 : TK h2 tx n) (hn2 : h2 10 3 = nI i2) (hp2 : pl tx i2 = Nx tx (pl tx i)) (hF : Fr [10] h h2) : CQ h2 tx n i2 (nmS tx σ) := by
  refine ⟨hK2, hi2, hn2, ?_⟩
  rw [hF 9 (by decide)]
  obtain ⟨_, _, _, q⟩ := hQ
  cases σ with
  | error f => exact q
  | ok p =>
    obtain ⟨q1, rfl⟩ := q
    rw [nmS_y hw]
    exact ⟨q1, hp2.symm⟩
theorem cq_no {h h2 : Hp} {tx : List Nat} {n i : Nat} {σ : Except Nat Nat} {w : Nat} (hQ : CQ h tx n i σ) (hw : ¬ kd tx (pl tx i) = w) (hQ2 : CQ h2 tx n i (rfS σ)) : CQ h2 tx n i (tkS tx w σ) := by
  cases σ with
  | error f => exact hQ2
  | ok p =>
    have e := cq_pos hQ
    subst e
    rw [tkS_n hw]
    exact hQ2
theorem cq_noN {h h2 : Hp} {tx : List Nat} {n i : Nat} {σ : Except Nat Nat} (hQ : CQ h tx n i σ) (hw : ¬ nm (kd tx (pl tx i)) < 4) (hQ2 : CQ h2 tx n i (rfS σ)) : CQ h2 tx n i (nmS tx σ) := by
  cases σ with
  | error f => exact hQ2
  | ok p =>
    have e := cq_pos hQ
    subst e
    rw [nmS_n hw]
    exact hQ2
set_option maxHeartbeats 4000000 in
set_option maxRecDepth 100000 in
theorem c_refuse_o {a : Am} {S : St} {h : Hp} (hS : IsSt S) {tx : List Nat} (hv : TV tx) {n i : Nat} {p : Nat} (hQ : CQ h tx n i (.ok p)) : CT a 1 mX3_refuse [rv a 9] S h (fun v S' h' => v = none ∧ S = S' ∧ CQ h' tx n i (rfS (.ok p)) ∧ RG h h') := by
  refine met_of (by decide +kernel) (Nat.le_of_ble_eq_true rfl) ?_
  show T a 1 mX3_refuse 0 [(0, rv a 9)] [] S h _
  refine tr_aload_n (pc := 0) 0 dX3_refuse_0 rfl rfl ?_
  refine tr_getI (pc := 1) (x := -1) dX3_refuse_1 (hS.1 9 (6, 9) rfl) fi_X3_30 rfl hQ.2.2.2.1 ?_
  refine tr_iconst (pc := 4) (v := -1) dX3_refuse_4 (by decide) ?_
  refine tr_icmp_ne (pc := 5) (tgt := 19) dX3_refuse_5 (by decide) Iff.rfl (fun hcc => absurd (rfl) hcc) (fun _ => ?_)
  refine tr_aload_n (pc := 8) 0 dX3_refuse_8 rfl rfl ?_
  refine tr_aload_n (pc := 9) 0 dX3_refuse_9 rfl rfl ?_
  refine tr_getR (pc := 10) (q := 10) dX3_refuse_10 (hS.1 9 (6, 9) rfl) fi_X3_12 rfl (hS.2 9 2 10 rfl) ?_
  refine tr_callV (pc := 13) (rest := [rv a 9]) (ci := 7) dX3_refuse_13 ml_X3_104 cv_X7_place rfl rfl (Nat.le_of_ble_eq_true rfl) (hS.1 10 (10, 5) rfl) rfl (by decide) (c_place hS hv hQ.1 hQ.2.1 hQ.2.2.1) ?_
  rintro _ _ _ ⟨rfl, rfl, rfl⟩
  show T a 1 mX3_refuse 16 [(0, rv a 9)] [.int (nI (pl tx i)), rv a 9] S h _
  refine tr_putI (pc := 16) (x := nI (pl tx i)) dX3_refuse_16 (hS.1 9 (6, 9) rfl) fi_X3_30 rfl rfl rfl ?_
  exact tr_vret (pc := 19) dX3_refuse_19 rfl (⟨rfl, rfl, by
      have e := cq_pos hQ
      subst e
      have := pl_le (tx := tx) i
      exact cq_fl hQ.1 hQ.2.1 hQ.2.2.1 (by have := hv.1; omega), rg_fl⟩)

set_option maxHeartbeats 4000000 in
set_option maxRecDepth 100000 in
theorem c_refuse_e {a : Am} {S : St} {h : Hp} (hS : IsSt S) {tx : List Nat} (hv : TV tx) {n i : Nat} {f : Nat} (hQ : CQ h tx n i (.error f)) : CT a 1 mX3_refuse [rv a 9] S h (fun v S' h' => v = none ∧ S = S' ∧ CQ h' tx n i (rfS (.error f)) ∧ RG h h') := by
  refine met_of (by decide +kernel) (Nat.le_of_ble_eq_true rfl) ?_
  show T a 1 mX3_refuse 0 [(0, rv a 9)] [] S h _
  refine tr_aload_n (pc := 0) 0 dX3_refuse_0 rfl rfl ?_
  refine tr_getI (pc := 1) (x := nI f) dX3_refuse_1 (hS.1 9 (6, 9) rfl) fi_X3_30 rfl hQ.2.2.2.1 ?_
  refine tr_iconst (pc := 4) (v := -1) dX3_refuse_4 (by decide) ?_
  refine tr_icmp_ne (pc := 5) (tgt := 19) dX3_refuse_5 (by decide) Iff.rfl (fun _ => ?_) (fun hcc => absurd hcc (nI_nm (by have := hQ.2.2.2.2; omega)))
  exact tr_vret (pc := 19) dX3_refuse_19 rfl (⟨rfl, rfl, hQ, Fr.rf, fun _ _ => rfl⟩)

theorem c_refuse {a : Am} {S : St} {h : Hp} (hS : IsSt S) {tx : List Nat} (hv : TV tx) {n i : Nat} {σ : Except Nat Nat} (hQ : CQ h tx n i σ) : CT a 1 mX3_refuse [rv a 9] S h (fun v S' h' => v = none ∧ S = S' ∧ CQ h' tx n i (rfS σ) ∧ RG h h') := by
  cases σ with
  | ok p => exact c_refuse_o hS hv hQ
  | error f => exact c_refuse_e hS hv hQ
set_option maxHeartbeats 4000000 in
set_option maxRecDepth 100000 in
theorem c_take {a : Am} {S : St} {h : Hp} (hS : IsSt S) {tx : List Nat} (hv : TV tx) {n i : Nat} {σ : Except Nat Nat} (hQ : CQ h tx n i σ) {w : Nat} {x : Int32} (hw : w ≤ 131) (hx : x = ck w) : CT a 2 mX3_take [rv a 9, .int x] S h (fun v S' h' => v = none ∧ S = S' ∧ (∃ i', CQ h' tx n i' (tkS tx w σ)) ∧ RG h h') := by
  refine met_of (by decide +kernel) (Nat.le_of_ble_eq_true rfl) ?_
  show T a 2 mX3_take 0 [(0, rv a 9), (1, .int x)] [] S h _
  refine tr_aload_n (pc := 0) 0 dX3_take_0 rfl rfl ?_
  refine tr_getR (pc := 1) (q := 10) dX3_take_1 (hS.1 9 (6, 9) rfl) fi_X3_12 rfl (hS.2 9 2 10 rfl) ?_
  refine tr_callV (pc := 4) (rest := []) (ci := 7) dX3_take_4 ml_X3_49 cv_X7_ahead rfl rfl (Nat.le_of_ble_eq_true rfl) (hS.1 10 (10, 5) rfl) rfl (by decide) (c_ahead hS hv hQ.1 hQ.2.1 hQ.2.2.1) ?_
  rintro _ _ _ ⟨rfl, rfl, rfl⟩
  show T a 2 mX3_take 7 [(0, rv a 9), (1, .int x)] [.int (ck (kd tx (pl tx i)))] S h _
  refine tr_iload_n (pc := 7) 1 dX3_take_7 rfl rfl ?_
  refine tr_icmp_ne (pc := 8) (tgt := 21) dX3_take_8 (by decide) Iff.rfl (fun hb8 => ?_) (fun hb8 => ?_)
  · skip
    have hne : ¬ kd tx (pl tx i) = w := fun q => hb8 (by rw [q, hx])
    refine tr_aload_n (pc := 21) 0 dX3_take_21 rfl rfl ?_
    refine tr_callV (pc := 22) (rest := []) (ci := 3) dX3_take_22 ml_X3_110 cv_X3_refuse rfl rfl (Nat.le_of_ble_eq_true rfl) (hS.1 9 (6, 9) rfl) rfl (by decide) (c_refuse hS hv hQ) ?_
    rintro _ _ h2 ⟨rfl, rfl, hQ2, hG2⟩
    show T a 2 mX3_take 25 [(0, rv a 9), (1, .int x)] [] S h2 _
    exact tr_vret (pc := 25) dX3_take_25 rfl (⟨rfl, rfl, ⟨i, cq_no hQ hne hQ2⟩, hG2⟩)
  · skip
    have heq : kd tx (pl tx i) = w := ck_inj _ (kd_le hv) _ hw (hb8.trans hx)
    refine tr_aload_n (pc := 11) 0 dX3_take_11 rfl rfl ?_
    refine tr_getR (pc := 12) (q := 10) dX3_take_12 (hS.1 9 (6, 9) rfl) fi_X3_12 rfl (hS.2 9 2 10 rfl) ?_
    refine tr_callV (pc := 15) (rest := []) (ci := 7) dX3_take_15 ml_X3_107 cv_X7_step rfl rfl (Nat.le_of_ble_eq_true rfl) (hS.1 10 (10, 5) rfl) rfl (by decide) (c_step hS hv hQ.1 hQ.2.1 hQ.2.2.1) ?_
    rintro _ _ h2 ⟨rfl, rfl, i2, hi2, hK2, hn2, hp2, hF2⟩
    show T a 2 mX3_take 18 [(0, rv a 9), (1, .int x)] [] S h2 _
    refine tr_goto (pc := 18) (tgt := 25) dX3_take_18 (by decide) ?_
    exact tr_vret (pc := 25) dX3_take_25 rfl (⟨rfl, rfl, ⟨i2, cq_yes hQ heq hi2 hK2 hn2 hp2 hF2⟩, RG.ten hF2⟩)

set_option maxHeartbeats 4000000 in
set_option maxRecDepth 100000 in
theorem c_takeName {a : Am} {S : St} {h : Hp} (hS : IsSt S) {tx : List Nat} (hv : TV tx) {n i : Nat} {σ : Except Nat Nat} (hQ : CQ h tx n i σ) : CT a 2 mX3_takeName [rv a 9] S h (fun v S' h' => ∃ y i', v = some (.int (nI y)) ∧ y < 4 ∧ S = S' ∧ CQ h' tx n i' (nmS tx σ) ∧ RG h h' ∧ ∀ p, σ = .ok p → nm (kd tx p) < 4 → y = nm (kd tx p)) := by
  refine met_of (by decide +kernel) (Nat.le_of_ble_eq_true rfl) ?_
  show T a 2 mX3_takeName 0 [(0, rv a 9)] [] S h _
  refine tr_aload_n (pc := 0) 0 dX3_takeName_0 rfl rfl ?_
  refine tr_getR (pc := 1) (q := 10) dX3_takeName_1 (hS.1 9 (6, 9) rfl) fi_X3_12 rfl (hS.2 9 2 10 rfl) ?_
  refine tr_callV (pc := 4) (rest := []) (ci := 7) dX3_takeName_4 ml_X3_49 cv_X7_ahead rfl rfl (Nat.le_of_ble_eq_true rfl) (hS.1 10 (10, 5) rfl) rfl (by decide) (c_ahead hS hv hQ.1 hQ.2.1 hQ.2.2.1) ?_
  rintro _ _ _ ⟨rfl, rfl, rfl⟩
  show T a 2 mX3_takeName 7 [(0, rv a 9)] [.int (ck (kd tx (pl tx i)))] S h _
  refine tr_callS (pc := 7) (rest := []) dX3_takeName_7 ml_X3_113 cs_X3_nameOf rfl rfl (Nat.le_of_ble_eq_true rfl) (by decide) (c_nmof3 (by have := kd_le hv (p := pl tx i); omega)) ?_
  rintro _ _ _ ⟨rfl, rfl, rfl⟩
  show T a 2 mX3_takeName 10 [(0, rv a 9)] [.int (nmI (kd tx (pl tx i)))] S h _
  refine tr_istore_n (pc := 10) (lv' := [(1, .int (nmI (kd tx (pl tx i)))), (0, rv a 9)]) dX3_takeName_10 rfl (by decide) rfl ?_
  refine tr_iload_n (pc := 11) 0 dX3_takeName_11 rfl rfl ?_
  refine tr_iconst (pc := 12) (v := -1) dX3_takeName_12 (by decide) ?_
  refine tr_icmp_ne (pc := 13) (tgt := 22) dX3_takeName_13 (by decide) Iff.rfl (fun hb13 => ?_) (fun hb13 => ?_)
  · skip
    have hyy : nm (kd tx (pl tx i)) < 4 := by
      by_cases q : nm (kd tx (pl tx i)) < 4
      · exact q
      · exact absurd (nmI_n q) hb13
    rw [nmI_y hyy]
    show T a 2 mX3_takeName 22 [(1, .int (nI (nm (kd tx (pl tx i))))), (0, rv a 9)] [] S h _
    refine tr_aload_n (pc := 22) 1 dX3_takeName_22 rfl rfl ?_
    refine tr_getR (pc := 23) (q := 10) dX3_takeName_23 (hS.1 9 (6, 9) rfl) fi_X3_12 rfl (hS.2 9 2 10 rfl) ?_
    refine tr_callV (pc := 26) (rest := []) (ci := 7) dX3_takeName_26 ml_X3_107 cv_X7_step rfl rfl (Nat.le_of_ble_eq_true rfl) (hS.1 10 (10, 5) rfl) rfl (by decide) (c_step hS hv hQ.1 hQ.2.1 hQ.2.2.1) ?_
    rintro _ _ h2 ⟨rfl, rfl, i2, hi2, hK2, hn2, hp2, hF2⟩
    show T a 2 mX3_takeName 29 [(1, .int (nI (nm (kd tx (pl tx i))))), (0, rv a 9)] [] S h2 _
    refine tr_iload_n (pc := 29) 0 dX3_takeName_29 rfl rfl ?_
    exact tr_iret (pc := 30) dX3_takeName_30 rfl rfl (⟨_, i2, rfl, hyy, rfl, cq_yesN hQ hyy hi2 hK2 hn2 hp2 hF2, RG.ten hF2, fun p hp hq => by
        subst hp
        have e := cq_pos hQ
        rw [e]⟩)
  · skip
    have hnn : ¬ nm (kd tx (pl tx i)) < 4 := nmI_iff.1 hb13
    refine tr_aload_n (pc := 16) 1 dX3_takeName_16 rfl rfl ?_
    refine tr_callV (pc := 17) (rest := []) (ci := 3) dX3_takeName_17 ml_X3_110 cv_X3_refuse rfl rfl (Nat.le_of_ble_eq_true rfl) (hS.1 9 (6, 9) rfl) rfl (by decide) (c_refuse hS hv hQ) ?_
    rintro _ _ h2 ⟨rfl, rfl, hQ2, hG2⟩
    show T a 2 mX3_takeName 20 [(1, .int (nmI (kd tx (pl tx i)))), (0, rv a 9)] [] S h2 _
    refine tr_iconst (pc := 20) (v := nI 0) dX3_takeName_20 (by decide) ?_
    exact tr_iret (pc := 21) dX3_takeName_21 rfl rfl (⟨0, i, rfl, by decide, rfl, cq_noN hQ hnn hQ2, hG2, fun p hp hq => by
        subst hp
        have e := cq_pos hQ
        subst e
        exact absurd hq hnn⟩)

/-- the line that is being read -/
def FD (h : Hp) (s x y c : Int32) : Prop := h 9 5 = s ∧ h 9 6 = x ∧ h 9 7 = y ∧ h 9 8 = c
theorem FD.rg {h h' : Hp} {s x y c : Int32} (k : FD h s x y c) (g : RG h h') : FD h' s x y c := by
  unfold FD
  rw [g.2 5 (by decide), g.2 6 (by decide), g.2 7 (by decide), g.2 8 (by decide)]
  exact k
theorem FD.f13 {h h' : Hp} {s x y c : Int32} (k : FD h s x y c) (hF : Fr [6, 7, 8, 13] h h') : FD h' s x y c := by
  unfold FD
  rw [hF 9 (by decide)]
  exact k
theorem FD.p5 {h : Hp} {s x y c z : Int32} (k : FD h s x y c) : FD (hs h 9 (upd (h 9) 5 z)) z x y c := by
  unfold FD
  rw [hs_same, upd_s, upd_n (by decide), upd_n (by decide), upd_n (by decide)]
  exact ⟨rfl, k.2⟩
theorem FD.p6 {h : Hp} {s x y c z : Int32} (k : FD h s x y c) : FD (hs h 9 (upd (h 9) 6 z)) s z y c := by
  unfold FD
  rw [hs_same, upd_s, upd_n (by decide), upd_n (by decide), upd_n (by decide)]
  exact ⟨k.1, rfl, k.2.2⟩
theorem FD.p7 {h : Hp} {s x y c z : Int32} (k : FD h s x y c) : FD (hs h 9 (upd (h 9) 7 z)) s x z c := by
  unfold FD
  rw [hs_same, upd_s, upd_n (by decide), upd_n (by decide), upd_n (by decide)]
  exact ⟨k.1, k.2.1, rfl, k.2.2.2⟩
theorem FD.p8 {h : Hp} {s x y c z : Int32} (k : FD h s x y c) : FD (hs h 9 (upd (h 9) 8 z)) s x y z := by
  unfold FD
  rw [hs_same, upd_s, upd_n (by decide), upd_n (by decide), upd_n (by decide)]
  exact ⟨k.1, k.2.1, k.2.2.1, rfl⟩
/-- the first calls -/
def fo (c : Nat) : Cls → Option Nat
  | [] => none
  | z :: C => if z.1 = c then some z.2 else fo c C
def oI (x : Option Nat) : Int32 := match x with | some p => nI p | none => -1
def FCl (h : Hp) (C : Cls) : Prop := (∀ z ∈ C, z.2 ≤ 200) ∧ ∀ c, c < 4 → h 13 c = oI (fo c C)
theorem fo_le {c q : Nat} : ∀ {C : Cls}, (∀ z ∈ C, z.2 ≤ 200) → fo c C = some q → q ≤ 200 := by
  intro C
  induction C with
  | nil => intro _ h; exact absurd h (by intro z; cases z)
  | cons z C ih =>
    intro h1 h2
    have h2 : (if z.1 = c then some z.2 else fo c C) = some q := h2
    by_cases e : z.1 = c
    · rw [if_pos e] at h2; injection h2 with h2; rw [← h2]; exact h1 z (by simp)
    · rw [if_neg e] at h2; exact ih (fun z hz => h1 z (by simp [hz])) h2
theorem fo_app {c c' p : Nat} : ∀ {C : Cls}, fo c (C ++ [(c', p)]) = match fo c C with | some q => some q | none => if c' = c then some p else none := by
  intro C
  induction C with
  | nil => rfl
  | cons z C ih =>
    show (if z.1 = c then some z.2 else fo c (C ++ [(c', p)])) = match (if z.1 = c then some z.2 else fo c C) with | some q => some q | none => if c' = c then some p else none
    by_cases e : z.1 = c
    · rw [if_pos e, if_pos e]
    · rw [if_neg e, if_neg e]; exact ih
theorem FCl.fr {L : List Nat} {h h' : Hp} {C : Cls} (k : FCl h C) (hF : Fr L h h') (h1 : 13 ∉ L) : FCl h' C := by
  unfold FCl
  rw [hF 13 h1]
  exact k
theorem FCl.c {h h' : Hp} {C : Cls} (k : FCl h C) (e : h' 13 = h 13) : FCl h' C := by
  unfold FCl
  rw [e]
  exact k
theorem oI_none {x : Option Nat} (hx : ∀ q, x = some q → q ≤ 200) : oI x = -1 ↔ x = none := by
  cases x with
  | none => exact ⟨fun _ => rfl, fun _ => rfl⟩
  | some q => exact ⟨fun z => absurd z (nI_nm (by have := hx q rfl; omega)), fun z => by cases z⟩
theorem fcl_yes {h : Hp} {C : Cls} {c p : Nat} (hC : FCl h C) (hc : c < 4) (hp : p ≤ 200) (h1 : h 13 c = -1) : FCl (hs h 13 (upd (h 13) c (nI p))) (C ++ [(c, p)]) := by
  obtain ⟨k1, k2⟩ := hC
  refine ⟨fun z hz => ?_, fun c' hc' => ?_⟩
  · rcases List.mem_append.1 hz with q | q
    · exact k1 z q
    · simp at q; rw [q]; exact hp
  · rw [hs_same, fo_app]
    have hn : fo c C = none := (oI_none (fun q => fo_le k1)).1 (by rw [← k2 c hc]; exact h1)
    by_cases e : c' = c
    · subst e
      rw [upd_s, hn]
      show nI p = oI (if c' = c' then some p else none)
      rw [if_pos rfl]
      rfl
    · rw [upd_n e, k2 c' hc']
      cases fo c' C with
      | some q => rfl
      | none => show oI none = oI (if c = c' then some p else none); rw [if_neg (Ne.symm e)]
theorem fcl_no {h : Hp} {C : Cls} {c p : Nat} (hC : FCl h C) (hc : c < 4) (hp : p ≤ 200) (h1 : ¬ h 13 c = -1) : FCl h (C ++ [(c, p)]) := by
  obtain ⟨k1, k2⟩ := hC
  refine ⟨fun z hz => ?_, fun c' hc' => ?_⟩
  · rcases List.mem_append.1 hz with q | q
    · exact k1 z q
    · simp at q; rw [q]; exact hp
  · rw [fo_app, k2 c' hc']
    by_cases e : c' = c
    · subst e
      cases hf : fo c' C with
      | some q => rfl
      | none => exact absurd (by rw [k2 c' hc', hf]; rfl) h1
    · cases fo c' C with
      | some q => rfl
      | none => show oI none = oI (if c = c' then some p else none); rw [if_neg (Ne.symm e)]
set_option maxHeartbeats 4000000 in
set_option maxRecDepth 100000 in
theorem c_noteCall {a : Am} {S : St} {h : Hp} (hS : IsSt S) {tx : List Nat} (hv : TV tx) {n i : Nat} {σ : Except Nat Nat} (hQ : CQ h tx n i σ) {c : Nat} (hc : c < 4) (hcc : h 9 8 = nI c) : CT a 1 mX3_noteCall [rv a 9] S h (fun v S' h' => v = none ∧ S = S' ∧ Fr [13] h h' ∧ ∀ C, FCl h C → FCl h' (C ++ [(c, pl tx i)])) := by
  refine met_of (by decide +kernel) (Nat.le_of_ble_eq_true rfl) ?_
  show T a 1 mX3_noteCall 0 [(0, rv a 9)] [] S h _
  refine tr_aload_n (pc := 0) 0 dX3_noteCall_0 rfl rfl ?_
  refine tr_getI (pc := 1) (x := nI c) dX3_noteCall_1 (hS.1 9 (6, 9) rfl) fi_X3_81 rfl hcc ?_
  refine tr_iconst (pc := 4) (v := nI 4) dX3_noteCall_4 (by decide) ?_
  refine tr_callSN (pc := 5) (rest := []) dX3_noteCall_5 nl_X3_100 cs_X9_isOutside rfl rfl (Nat.le_of_ble_eq_true rfl) (by decide) (c_isOut_in hc (by decide)) ?_
  rintro _ _ _ ⟨rfl, rfl, rfl⟩
  show T a 1 mX3_noteCall 8 [(0, rv a 9)] [.int (nI 0)] S h _
  refine tr_if_ne (pc := 8) (tgt := 40) dX3_noteCall_8 (by decide) (nI_z_eq (by omega)) (fun hcc => absurd (by decide) hcc) (fun _ => ?_)
  refine tr_aload_n (pc := 11) 0 dX3_noteCall_11 rfl rfl ?_
  refine tr_getR (pc := 12) (q := 13) dX3_noteCall_12 (hS.1 9 (6, 9) rfl) fi_X3_18 rfl (hS.2 9 4 13 rfl) ?_
  refine tr_aload_n (pc := 15) 0 dX3_noteCall_15 rfl rfl ?_
  refine tr_getI (pc := 16) (x := nI c) dX3_noteCall_16 (hS.1 9 (6, 9) rfl) fi_X3_81 rfl hcc ?_
  refine tr_iald (pc := 19) (v := h 13 c) c dX3_noteCall_19 (hS.1 13 (0, 4) rfl) rfl hc (by decide) rfl ?_
  refine tr_iconst (pc := 20) (v := -1) dX3_noteCall_20 (by decide) ?_
  refine tr_icmp_ne (pc := 21) (tgt := 40) dX3_noteCall_21 (by decide) Iff.rfl (fun hb21 => ?_) (fun hb21 => ?_)
  · skip
    exact tr_vret (pc := 40) dX3_noteCall_40 rfl (⟨rfl, rfl, Fr.rf, fun C hC => fcl_no hC hc (by have := pl_le (tx := tx) i; have := hv.1; omega) hb21⟩)
  · skip
    refine tr_aload_n (pc := 24) 0 dX3_noteCall_24 rfl rfl ?_
    refine tr_getR (pc := 25) (q := 13) dX3_noteCall_25 (hS.1 9 (6, 9) rfl) fi_X3_18 rfl (hS.2 9 4 13 rfl) ?_
    refine tr_aload_n (pc := 28) 0 dX3_noteCall_28 rfl rfl ?_
    refine tr_getI (pc := 29) (x := nI c) dX3_noteCall_29 (hS.1 9 (6, 9) rfl) fi_X3_81 rfl hcc ?_
    refine tr_aload_n (pc := 32) 0 dX3_noteCall_32 rfl rfl ?_
    refine tr_getR (pc := 33) (q := 10) dX3_noteCall_33 (hS.1 9 (6, 9) rfl) fi_X3_12 rfl (hS.2 9 2 10 rfl) ?_
    refine tr_callV (pc := 36) (rest := [.int (nI c), rv a 13]) (ci := 7) dX3_noteCall_36 ml_X3_104 cv_X7_place rfl rfl (Nat.le_of_ble_eq_true rfl) (hS.1 10 (10, 5) rfl) rfl (by decide) (c_place hS hv hQ.1 hQ.2.1 hQ.2.2.1) ?_
    rintro _ _ _ ⟨rfl, rfl, rfl⟩
    show T a 1 mX3_noteCall 39 [(0, rv a 9)] [.int (nI (pl tx i)), .int (nI c), rv a 13] S h _
    refine tr_iast (pc := 39) c dX3_noteCall_39 (hS.1 13 (0, 4) rfl) rfl hc (by decide) ?_
    exact tr_vret (pc := 40) dX3_noteCall_40 rfl (⟨rfl, rfl, Fr.rf.hs (by decide), fun C hC => fcl_yes hC hc (by have := pl_le (tx := tx) i; have := hv.1; omega) hb21⟩)
