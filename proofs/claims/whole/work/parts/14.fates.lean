/-! ===== FATES ===== -/
def cntG (f : Nat → Bool) : Nat → Nat
  | 0 => 0
  | s + 1 => cntG f s + (if f s = true then 1 else 0)
theorem cntG_le (f : Nat → Bool) (n : Nat) : cntG f n ≤ n := by
  induction n with
  | zero => exact Nat.le_refl _
  | succ n ih => simp only [cntG]; split <;> omega
theorem cntG_congr {f g : Nat → Bool} {n : Nat} (h : ∀ s, s < n → f s = g s) : cntG f n = cntG g n := by
  induction n with
  | zero => rfl
  | succ n ih => simp only [cntG]; rw [ih (fun s hs => h s (by omega)), h n (by omega)]
theorem cntG_add (f : Nat → Bool) (a b : Nat) : cntG f (a + b) = cntG f a + cntG (fun s => f (a + s)) b := by
  induction b with
  | zero => rfl
  | succ b ih => show cntG f (a + b) + (if f (a + b) = true then 1 else 0) = cntG f a + (cntG (fun s => f (a + s)) b + (if f (a + b) = true then 1 else 0)); rw [ih]; omega
theorem cntG_0 {f : Nat → Bool} {n : Nat} (h : ∀ s, s < n → f s = false) : cntG f n = 0 := by
  induction n with
  | zero => rfl
  | succ n ih => simp only [cntG]; rw [ih (fun s hs => h s (by omega)), h n (by omega)]; rfl
theorem cntG_n {f : Nat → Bool} {n : Nat} (h : ∀ s, s < n → f s = true) : cntG f n = n := by
  induction n with
  | zero => rfl
  | succ n ih => simp only [cntG]; rw [ih (fun s hs => h s (by omega)), h n (by omega)]; rfl
def pV (P : Prog) : Nat → Int32 := mayV P
def opn (P : Prog) : Int32 := rch (mayV P) (nSt P) (mayV P 16)
def outS (P : Prog) (m : Nat) : Int32 := rch (mayV P) (nSt P) (mayV P (4 * m) ||| mayV P (4 * m + 3))
def fate (P : Prog) (s : Nat) : Nat := if tb (opn P) s = true then 2 else if tb (outS P (sM P s)) s = true then 1 else 0
theorem fate_lt (P : Prog) (s : Nat) : fate P s < 3 := by
  unfold fate
  split
  · decide
  · split <;> decide
def fatB (P : Prog) (f : Nat) : Nat → Int32
  | 0 => nI 0
  | s + 1 => if fate P s = f then fatB P f s ||| (nI 1 <<< (nI s &&& 31)) else fatB P f s
def kept (P : Prog) : Int32 := fatB P 0 (nSt P)
def isIdle (P : Prog) (m i : Nat) : Prop := (gt P m i).1 = 6 ∧ ¬ mayV P (4 * m + (gt P m i).2.1) = 0 ∧ mayV P (4 * m + (gt P m i).2.1) &&& (kept P ^^^ (-1)) = 0
def idlB (P : Prog) (m : Nat) : Nat → Int32
  | 0 => nI 0
  | i + 1 => if (gt P m i).1 = 6 ∧ ¬ mayV P (4 * m + (gt P m i).2.1) = 0 ∧ mayV P (4 * m + (gt P m i).2.1) &&& (kept P ^^^ (-1)) = 0 then idlB P m i ||| (nI 1 <<< (nI i &&& 31)) else idlB P m i
def idl (P : Prog) (m : Nat) : Int32 := idlB P m (lnN P m)
theorem sitesP_cnt {P : Prog} {m : Nat} : ∀ k, cntG (fun s => decide ((sG (sitesP P k) s).1 = m)) (sitesP P k).length = if m < k then (sitesM P m (lnN P m)).length else 0 := by
  intro k
  induction k with
  | zero => rfl
  | succ k ih =>
    have e : (sitesP P (k + 1)).length = (sitesP P k).length + (sitesM P k (lnN P k)).length := by simp [sitesP]
    rw [e, cntG_add]
    have e1 : cntG (fun s => decide ((sG (sitesP P (k + 1)) s).1 = m)) (sitesP P k).length = cntG (fun s => decide ((sG (sitesP P k) s).1 = m)) (sitesP P k).length := cntG_congr (fun s hs => by
      show decide ((sG (sitesP P k ++ _) s).1 = m) = _
      rw [sG_appL hs])
    rw [e1, ih]
    by_cases q : m = k
    · subst q
      rw [if_neg (by omega), if_pos (by omega), Nat.zero_add]
      exact cntG_n (fun s hs => by
        show decide ((sG (sitesP P m ++ _) _).1 = m) = true
        rw [sG_appR (by omega), show (sitesP P m).length + s - (sitesP P m).length = s by omega, (sitesM_at _ s hs).1]
        simp)
    · have e2 : cntG (fun s => decide ((sG (sitesP P (k + 1)) ((sitesP P k).length + s)).1 = m)) (sitesM P k (lnN P k)).length = 0 := cntG_0 (fun s hs => by
        show decide ((sG (sitesP P k ++ _) _).1 = m) = false
        rw [sG_appR (by omega), show (sitesP P k).length + s - (sitesP P k).length = s by omega, (sitesM_at _ s hs).1]
        simp
        exact fun z => q z.symm)
      rw [e2]
      by_cases q2 : m < k
      · rw [if_pos q2, if_pos (by omega)]; omega
      · rw [if_neg q2, if_neg (by omega)]
theorem site_cnt {P : Prog} {m : Nat} (hm : m < P.length) : cntG (fun s => decide (sM P s = m)) (nSt P) = (sitesM P m (lnN P m)).length := by
  have h := sitesP_cnt (P := P) (m := m) P.length
  rw [if_pos hm] at h
  exact h
/-! bits of an answer, counted -/
theorem sh_bit : ∀ s, s < 32 → ((nI 1 : Int32) <<< (nI s &&& 31)).toBitVec = BitVec.twoPow 32 s := by decide +kernel
theorem tw_bit : ∀ s, s < 32 → ∀ j, j < 32 → (BitVec.twoPow 32 s).getLsbD j = decide (j = s) := by decide +kernel
theorem fat_bit {P : Prog} {f : Nat} : ∀ k, k ≤ 32 → ∀ j, j < 32 → (fatB P f k).toBitVec.getLsbD j = decide (j < k ∧ fate P j = f) := by
  intro k
  induction k with
  | zero =>
    intro _ j hj
    show (nI 0).toBitVec.getLsbD j = _
    simp [nI]
  | succ k ih =>
    intro hk j hj
    simp only [fatB]
    have i1 := ih (by omega) j hj
    split
    · rename_i q
      rw [bit_or, i1, sh_bit k (by omega), tw_bit k (by omega) j hj]
      by_cases e : j = k
      · subst e; simp [q]
      · rw [show decide (j < k ∧ fate P j = f) = decide (j < k + 1 ∧ fate P j = f) from decide_eq_decide.mpr (by omega)]; simp [e]
    · rename_i q
      rw [i1]
      by_cases e : j = k
      · subst e; simp [q]
      · have : (j < k) ↔ (j < k + 1) := by omega
        simp only [this]
theorem shr_one (x : Int32) {s : Nat} (hs : s < 32) : x >>> (nI s &&& 31) &&& nI 1 = if x.toBitVec.getLsbD s = true then nI 1 else nI 0 := by
  have e : (((nI s &&& 31).toBitVec).smod 32).toNat = s := (show ∀ s, s < 32 → (((nI s &&& 31).toBitVec).smod 32).toNat = s by decide +kernel) s hs
  have e1 : (x >>> (nI s &&& 31)).toBitVec = x.toBitVec.sshiftRight s := by
    rw [Int32.toBitVec_shiftRight]
    show x.toBitVec.sshiftRight (((nI s &&& 31).toBitVec).smod 32).toNat = _
    rw [e]
  apply Int32.toBitVec_inj.mp
  apply BitVec.eq_of_getLsbD_eq
  intro j hj
  rw [Int32.toBitVec_and, BitVec.getLsbD_and, e1]
  have o1 : ∀ j, j < 32 → (nI 1).toBitVec.getLsbD j = decide (j = 0) := by decide +kernel
  have o0 : ∀ j, j < 32 → (nI 0).toBitVec.getLsbD j = false := by decide +kernel
  rw [o1 j hj]
  by_cases q : j = 0
  · subst q
    have b : (x.toBitVec.sshiftRight s).getLsbD 0 = x.toBitVec.getLsbD s := by
      rw [BitVec.getLsbD_sshiftRight]
      simp [hs]
    rw [b]
    cases h : x.toBitVec.getLsbD s with
    | true => simp; exact (o1 0 (by decide))
    | false => simp; exact (o0 0 (by decide))
  · simp [q]
    cases h : x.toBitVec.getLsbD s with
    | true => simp; rw [o1 j hj]; simp [q]
    | false => simp; rw [o0 j hj]
/-! ===== the class Fates ===== -/
def FO (h : Hp) (P : Prog) : Prop := ∀ s, s < nSt P → h 39 s = nI (fate P s)
def FC (h : Hp) (P : Prog) : Prop := FO h P ∧ ∀ m, m < P.length → h 40 m = idl P m
theorem FC.fr {L : List Nat} {h h' : Hp} {P : Prog} (k : FC h P) (hF : Fr L h h') (h1 : 39 ∉ L) (h2 : 40 ∉ L) : FC h' P := by
  unfold FC FO
  rw [hF 39 h1, hF 40 h2]
  exact k
set_option maxHeartbeats 4000000 in
set_option maxRecDepth 100000 in
theorem c_fofSite {a : Am} {S : St} {h : Hp} (hS : IsSt S) {P : Prog} (hV : VB P) (hF : FC h P) {s : Nat} (hs : s < nSt P) : CT a 1 mX0_ofSite [rv a 38, .int (nI s)] S h (Rt (nI (fate P s)) S h) := by
  obtain ⟨hV1, hV2, hV3⟩ := id hV
  have hns := nSt_le hV
  refine met_of (by decide +kernel) (Nat.le_of_ble_eq_true rfl) ?_
  show T a 1 mX0_ofSite 0 [(0, rv a 38), (1, .int (nI s))] [] S h _
  refine tr_iload_n (pc := 0) 1 dX0_ofSite_0 rfl rfl ?_
  refine tr_bipush (pc := 1) (v := nI 32) dX0_ofSite_1 (by decide) ?_
  refine tr_callSN (pc := 3) (rest := []) dX0_ofSite_3 nl_X0_30 cs_X9_isOutside rfl rfl (Nat.le_of_ble_eq_true rfl) (by omega) (c_isOut_in (show s < 32 by omega) (by omega)) ?_
  rintro _ _ _ ⟨rfl, rfl, rfl⟩
  show T a 1 mX0_ofSite 6 [(0, rv a 38), (1, .int (nI s))] [.int (nI 0)] S h _
  refine tr_if_eq (pc := 6) (tgt := 13) dX0_ofSite_6 (by decide) (nI_z_eq (by omega)) (fun _ => ?_) (fun hcc => absurd (by decide) hcc)
  refine tr_aload_n (pc := 13) 0 dX0_ofSite_13 rfl rfl ?_
  refine tr_getR (pc := 14) (q := 39) dX0_ofSite_14 (hS.1 38 (3, 5) rfl) fi_X0_9 rfl (hS.2 38 3 39 rfl) ?_
  refine tr_iload_n (pc := 17) 1 dX0_ofSite_17 rfl rfl ?_
  refine tr_iald (pc := 18) (v := nI (fate P s)) s dX0_ofSite_18 (hS.1 39 (0, 32) rfl) rfl (by omega) (by decide) (hF.1 s hs) ?_
  exact tr_iret (pc := 19) dX0_ofSite_19 rfl rfl (⟨rfl, rfl, rfl⟩)

set_option maxHeartbeats 4000000 in
set_option maxRecDepth 100000 in
theorem c_fidle {a : Am} {S : St} {h : Hp} (hS : IsSt S) {P : Prog} (hV : VB P) (hF : FC h P) {m : Nat} (hm : m < P.length) : CT a 1 mX0_idleLines [rv a 38, .int (nI m)] S h (Rt (idl P m) S h) := by
  obtain ⟨hV1, hV2, hV3⟩ := id hV
  have hns := nSt_le hV
  refine met_of (by decide +kernel) (Nat.le_of_ble_eq_true rfl) ?_
  show T a 1 mX0_idleLines 0 [(0, rv a 38), (1, .int (nI m))] [] S h _
  refine tr_iload_n (pc := 0) 1 dX0_idleLines_0 rfl rfl ?_
  refine tr_iconst (pc := 1) (v := nI 4) dX0_idleLines_1 (by decide) ?_
  refine tr_callSN (pc := 2) (rest := []) dX0_idleLines_2 nl_X0_30 cs_X9_isOutside rfl rfl (Nat.le_of_ble_eq_true rfl) (by omega) (c_isOut_in (show m < 4 by omega) (by omega)) ?_
  rintro _ _ _ ⟨rfl, rfl, rfl⟩
  show T a 1 mX0_idleLines 5 [(0, rv a 38), (1, .int (nI m))] [.int (nI 0)] S h _
  refine tr_if_eq (pc := 5) (tgt := 12) dX0_idleLines_5 (by decide) (nI_z_eq (by omega)) (fun _ => ?_) (fun hcc => absurd (by decide) hcc)
  refine tr_aload_n (pc := 12) 0 dX0_idleLines_12 rfl rfl ?_
  refine tr_getR (pc := 13) (q := 40) dX0_idleLines_13 (hS.1 38 (3, 5) rfl) fi_X0_15 rfl (hS.2 38 4 40 rfl) ?_
  refine tr_iload_n (pc := 16) 1 dX0_idleLines_16 rfl rfl ?_
  refine tr_iald (pc := 17) (v := idl P m) m dX0_idleLines_17 (hS.1 40 (0, 4) rfl) rfl (by omega) (by decide) (hF.2 m hm) ?_
  exact tr_iret (pc := 18) dX0_idleLines_18 rfl rfl (⟨rfl, rfl, rfl⟩)

set_option maxHeartbeats 4000000 in
set_option maxRecDepth 100000 in
theorem c_countOf {a : Am} {S : St} {h : Hp} (hS : IsSt S) {P : Prog} (hV : VB P) (hF : FC h P) (hC : SC h P) {f : Nat} (hf : f < 3) : CT a 1 mX0_countOf [rv a 38, .int (nI f)] S h (Rt (nI (cntG (fun s => decide (fate P s = f)) (nSt P))) S h) := by
  obtain ⟨hV1, hV2, hV3⟩ := id hV
  have hns := nSt_le hV
  refine met_of (by decide +kernel) (Nat.le_of_ble_eq_true rfl) ?_
  show T a 1 mX0_countOf 0 [(0, rv a 38), (1, .int (nI f))] [] S h _
  refine tr_iconst (pc := 0) (v := nI 0) dX0_countOf_0 (by decide) ?_
  refine tr_istore_n (pc := 1) (lv' := [(2, .int (nI 0)), (0, rv a 38), (1, .int (nI f))]) dX0_countOf_1 rfl (by decide) rfl ?_
  refine tr_iconst (pc := 2) (v := nI 0) dX0_countOf_2 (by decide) ?_
  refine tr_istore_n (pc := 3) (lv' := [(3, .int (nI 0)), (2, .int (nI 0)), (0, rv a 38), (1, .int (nI f))]) dX0_countOf_3 rfl (by decide) rfl ?_
  refine tr_sub (pc := 4) (lv' := [(0, rv a 38), (1, .int (nI f)), (2, .int (nI 0)), (3, .int (nI 0))]) [2, 3, 1, 0] rfl ?_
  have L4 : ∀ (fu : Nat) (s : Nat), nSt P - s < fu → s ≤ nSt P → T a 1 mX0_countOf 4 [(0, rv a 38), (1, .int (nI f)), (2, .int (nI (cntG (fun s => decide (fate P s = f)) s))), (3, .int (nI s))] [] S h (Rt (nI (cntG (fun s => decide (fate P s = f)) (nSt P))) S h) := by
    intro fu
    induction fu with
    | zero => intro s hu hs; omega
    | succ fu ih =>
      intro s hu hs
      refine tr_iload_n (pc := 4) 3 dX0_countOf_4 rfl rfl ?_
      refine tr_aload_n (pc := 5) 0 dX0_countOf_5 rfl rfl ?_
      refine tr_getR (pc := 6) (q := 31) dX0_countOf_6 (hS.1 38 (3, 5) rfl) fi_X0_22 rfl (hS.2 38 1 31 rfl) ?_
      refine tr_callV (pc := 9) (rest := [.int (nI s)]) (ci := 4) dX0_countOf_9 ml_X0_34 cv_X4_count rfl rfl (Nat.le_of_ble_eq_true rfl) (hS.1 31 (7, 4) rfl) rfl (by decide) (c_sitecount hS hV hC) ?_
      rintro _ _ _ ⟨rfl, rfl, rfl⟩
      show T a 1 mX0_countOf 12 [(0, rv a 38), (1, .int (nI f)), (2, .int (nI (cntG (fun s => decide (fate P s = f)) s))), (3, .int (nI s))] [.int (nI (nSt P)), .int (nI s)] S h _
      refine tr_icmp_ge (pc := 12) (tgt := 34) dX0_countOf_12 (by decide) (nI_leI (by omega) (by omega)) (fun q12 => ?_) (fun q12 => ?_)
      · skip
        refine tr_iload_n (pc := 34) 2 dX0_countOf_34 rfl rfl ?_
        exact tr_iret (pc := 35) dX0_countOf_35 rfl rfl (by
            rw [show nSt P = s by omega]; exact ⟨rfl, rfl, rfl⟩)
      · skip
        have hfl := fate_lt P s
        refine tr_aload_n (pc := 15) 0 dX0_countOf_15 rfl rfl ?_
        refine tr_getR (pc := 16) (q := 39) dX0_countOf_16 (hS.1 38 (3, 5) rfl) fi_X0_9 rfl (hS.2 38 3 39 rfl) ?_
        refine tr_iload_n (pc := 19) 3 dX0_countOf_19 rfl rfl ?_
        refine tr_iald (pc := 20) (v := nI (fate P s)) s dX0_countOf_20 (hS.1 39 (0, 32) rfl) rfl (by omega) (by decide) (hF.1 s (by omega)) ?_
        refine tr_iload_n (pc := 21) 1 dX0_countOf_21 rfl rfl ?_
        refine tr_icmp_ne (pc := 22) (tgt := 28) dX0_countOf_22 (by decide) (nI_eq (by omega) (by omega)) (fun q22 => ?_) (fun q22 => ?_)
        · skip
          refine tr_iinc (pc := 28) (v := nI (s + 1)) (lv' := [(3, .int (nI (s + 1))), (0, rv a 38), (1, .int (nI f)), (2, .int (nI (cntG (fun s => decide (fate P s = f)) s)))]) 3 dX0_countOf_28 rfl (by rw [show Int32.ofInt 1 = nI 1 from by decide, nI_add]) (by decide) rfl ?_
          refine tr_goto (pc := 31) (tgt := 4) dX0_countOf_31 (by decide) ?_
          refine tr_sub (pc := 4) (lv' := [(0, rv a 38), (1, .int (nI f)), (2, .int (nI (cntG (fun s => decide (fate P s = f)) s))), (3, .int (nI (s + 1)))]) [1, 2, 3, 0] rfl ?_
          have e1 : nI (cntG (fun s => decide (fate P s = f)) s) = nI (cntG (fun s => decide (fate P s = f)) (s + 1)) := by simp only [cntG]; simp [q22]
          rw [e1]
          exact ih (s + 1) (by omega) (by omega)
        · skip
          refine tr_iinc (pc := 25) (v := nI (cntG (fun s => decide (fate P s = f)) s + 1)) (lv' := [(2, .int (nI (cntG (fun s => decide (fate P s = f)) s + 1))), (0, rv a 38), (1, .int (nI f)), (3, .int (nI s))]) 2 dX0_countOf_25 rfl (by rw [show Int32.ofInt 1 = nI 1 from by decide, nI_add]) (by decide) rfl ?_
          refine tr_iinc (pc := 28) (v := nI (s + 1)) (lv' := [(3, .int (nI (s + 1))), (2, .int (nI (cntG (fun s => decide (fate P s = f)) s + 1))), (0, rv a 38), (1, .int (nI f))]) 3 dX0_countOf_28 rfl (by rw [show Int32.ofInt 1 = nI 1 from by decide, nI_add]) (by decide) rfl ?_
          refine tr_goto (pc := 31) (tgt := 4) dX0_countOf_31 (by decide) ?_
          refine tr_sub (pc := 4) (lv' := [(0, rv a 38), (1, .int (nI f)), (2, .int (nI (cntG (fun s => decide (fate P s = f)) s + 1))), (3, .int (nI (s + 1)))]) [2, 3, 1, 0] rfl ?_
          have e1 : nI (cntG (fun s => decide (fate P s = f)) s + 1) = nI (cntG (fun s => decide (fate P s = f)) (s + 1)) := by simp only [cntG]; simp [q22]
          rw [e1]
          exact ih (s + 1) (by omega) (by omega)
  exact L4 (nSt P + 1) 0 (by omega) (by omega)

set_option maxHeartbeats 4000000 in
set_option maxRecDepth 100000 in
theorem c_keptIn {a : Am} {S : St} {h : Hp} (hS : IsSt S) {P : Prog} (hV : VB P) (hF : FC h P) (hC : SC h P) {m : Nat} (hm : m < P.length) : CT a 2 mX0_keptIn [rv a 38, .int (nI m)] S h (Rt (nI (cntG (fun s => decide (sM P s = m ∧ fate P s = 0)) (nSt P))) S h) := by
  obtain ⟨hV1, hV2, hV3⟩ := id hV
  have hns := nSt_le hV
  refine met_of (by decide +kernel) (Nat.le_of_ble_eq_true rfl) ?_
  show T a 2 mX0_keptIn 0 [(0, rv a 38), (1, .int (nI m))] [] S h _
  refine tr_iconst (pc := 0) (v := nI 0) dX0_keptIn_0 (by decide) ?_
  refine tr_istore_n (pc := 1) (lv' := [(2, .int (nI 0)), (0, rv a 38), (1, .int (nI m))]) dX0_keptIn_1 rfl (by decide) rfl ?_
  refine tr_iconst (pc := 2) (v := nI 0) dX0_keptIn_2 (by decide) ?_
  refine tr_istore_n (pc := 3) (lv' := [(3, .int (nI 0)), (2, .int (nI 0)), (0, rv a 38), (1, .int (nI m))]) dX0_keptIn_3 rfl (by decide) rfl ?_
  refine tr_sub (pc := 4) (lv' := [(0, rv a 38), (1, .int (nI m)), (2, .int (nI 0)), (3, .int (nI 0))]) [2, 3, 1, 0] rfl ?_
  have L4 : ∀ (fu : Nat) (s : Nat), nSt P - s < fu → s ≤ nSt P → T a 2 mX0_keptIn 4 [(0, rv a 38), (1, .int (nI m)), (2, .int (nI (cntG (fun s => decide (sM P s = m ∧ fate P s = 0)) s))), (3, .int (nI s))] [] S h (Rt (nI (cntG (fun s => decide (sM P s = m ∧ fate P s = 0)) (nSt P))) S h) := by
    intro fu
    induction fu with
    | zero => intro s hu hs; omega
    | succ fu ih =>
      intro s hu hs
      refine tr_iload_n (pc := 4) 3 dX0_keptIn_4 rfl rfl ?_
      refine tr_aload_n (pc := 5) 0 dX0_keptIn_5 rfl rfl ?_
      refine tr_getR (pc := 6) (q := 31) dX0_keptIn_6 (hS.1 38 (3, 5) rfl) fi_X0_22 rfl (hS.2 38 1 31 rfl) ?_
      refine tr_callV (pc := 9) (rest := [.int (nI s)]) (ci := 4) dX0_keptIn_9 ml_X0_34 cv_X4_count rfl rfl (Nat.le_of_ble_eq_true rfl) (hS.1 31 (7, 4) rfl) rfl (by decide) (c_sitecount hS hV hC) ?_
      rintro _ _ _ ⟨rfl, rfl, rfl⟩
      show T a 2 mX0_keptIn 12 [(0, rv a 38), (1, .int (nI m)), (2, .int (nI (cntG (fun s => decide (sM P s = m ∧ fate P s = 0)) s))), (3, .int (nI s))] [.int (nI (nSt P)), .int (nI s)] S h _
      refine tr_icmp_ge (pc := 12) (tgt := 45) dX0_keptIn_12 (by decide) (nI_leI (by omega) (by omega)) (fun q12 => ?_) (fun q12 => ?_)
      · skip
        refine tr_iload_n (pc := 45) 2 dX0_keptIn_45 rfl rfl ?_
        exact tr_iret (pc := 46) dX0_keptIn_46 rfl rfl (by
            rw [show nSt P = s by omega]; exact ⟨rfl, rfl, rfl⟩)
      · skip
        have hfl := fate_lt P s
        have hsm := (site_at (show s < nSt P by omega)).1
        refine tr_aload_n (pc := 15) 0 dX0_keptIn_15 rfl rfl ?_
        refine tr_getR (pc := 16) (q := 31) dX0_keptIn_16 (hS.1 38 (3, 5) rfl) fi_X0_22 rfl (hS.2 38 1 31 rfl) ?_
        refine tr_iload_n (pc := 19) 3 dX0_keptIn_19 rfl rfl ?_
        refine tr_callV (pc := 20) (rest := []) (ci := 4) dX0_keptIn_20 ml_X0_40 cv_X4_methodOf rfl rfl (Nat.le_of_ble_eq_true rfl) (hS.1 31 (7, 4) rfl) rfl (by decide) (c_methodOf hS hV hC (by omega)) ?_
        rintro _ _ _ ⟨rfl, rfl, rfl⟩
        show T a 2 mX0_keptIn 23 [(0, rv a 38), (1, .int (nI m)), (2, .int (nI (cntG (fun s => decide (sM P s = m ∧ fate P s = 0)) s))), (3, .int (nI s))] [.int (nI (sM P s))] S h _
        refine tr_iload_n (pc := 23) 1 dX0_keptIn_23 rfl rfl ?_
        refine tr_icmp_ne (pc := 24) (tgt := 39) dX0_keptIn_24 (by decide) (nI_eq (by omega) (by omega)) (fun q24 => ?_) (fun q24 => ?_)
        · skip
          refine tr_iinc (pc := 39) (v := nI (s + 1)) (lv' := [(3, .int (nI (s + 1))), (0, rv a 38), (1, .int (nI m)), (2, .int (nI (cntG (fun s => decide (sM P s = m ∧ fate P s = 0)) s)))]) 3 dX0_keptIn_39 rfl (by rw [show Int32.ofInt 1 = nI 1 from by decide, nI_add]) (by decide) rfl ?_
          refine tr_goto (pc := 42) (tgt := 4) dX0_keptIn_42 (by decide) ?_
          refine tr_sub (pc := 4) (lv' := [(0, rv a 38), (1, .int (nI m)), (2, .int (nI (cntG (fun s => decide (sM P s = m ∧ fate P s = 0)) s))), (3, .int (nI (s + 1)))]) [1, 2, 3, 0] rfl ?_
          have e1 : nI (cntG (fun s => decide (sM P s = m ∧ fate P s = 0)) s) = nI (cntG (fun s => decide (sM P s = m ∧ fate P s = 0)) (s + 1)) := by simp only [cntG]; simp [q24]
          rw [e1]
          exact ih (s + 1) (by omega) (by omega)
        · skip
          refine tr_aload_n (pc := 27) 0 dX0_keptIn_27 rfl rfl ?_
          refine tr_getR (pc := 28) (q := 39) dX0_keptIn_28 (hS.1 38 (3, 5) rfl) fi_X0_9 rfl (hS.2 38 3 39 rfl) ?_
          refine tr_iload_n (pc := 31) 3 dX0_keptIn_31 rfl rfl ?_
          refine tr_iald (pc := 32) (v := nI (fate P s)) s dX0_keptIn_32 (hS.1 39 (0, 32) rfl) rfl (by omega) (by decide) (hF.1 s (by omega)) ?_
          refine tr_if_ne (pc := 33) (tgt := 39) dX0_keptIn_33 (by decide) (nI_z_eq (by omega)) (fun q33 => ?_) (fun q33 => ?_)
          · skip
            refine tr_iinc (pc := 39) (v := nI (s + 1)) (lv' := [(3, .int (nI (s + 1))), (0, rv a 38), (1, .int (nI m)), (2, .int (nI (cntG (fun s => decide (sM P s = m ∧ fate P s = 0)) s)))]) 3 dX0_keptIn_39 rfl (by rw [show Int32.ofInt 1 = nI 1 from by decide, nI_add]) (by decide) rfl ?_
            refine tr_goto (pc := 42) (tgt := 4) dX0_keptIn_42 (by decide) ?_
            refine tr_sub (pc := 4) (lv' := [(0, rv a 38), (1, .int (nI m)), (2, .int (nI (cntG (fun s => decide (sM P s = m ∧ fate P s = 0)) s))), (3, .int (nI (s + 1)))]) [1, 2, 3, 0] rfl ?_
            have e1 : nI (cntG (fun s => decide (sM P s = m ∧ fate P s = 0)) s) = nI (cntG (fun s => decide (sM P s = m ∧ fate P s = 0)) (s + 1)) := by simp only [cntG]; simp [q24, q33]
            rw [e1]
            exact ih (s + 1) (by omega) (by omega)
          · skip
            refine tr_iinc (pc := 36) (v := nI (cntG (fun s => decide (sM P s = m ∧ fate P s = 0)) s + 1)) (lv' := [(2, .int (nI (cntG (fun s => decide (sM P s = m ∧ fate P s = 0)) s + 1))), (0, rv a 38), (1, .int (nI m)), (3, .int (nI s))]) 2 dX0_keptIn_36 rfl (by rw [show Int32.ofInt 1 = nI 1 from by decide, nI_add]) (by decide) rfl ?_
            refine tr_iinc (pc := 39) (v := nI (s + 1)) (lv' := [(3, .int (nI (s + 1))), (2, .int (nI (cntG (fun s => decide (sM P s = m ∧ fate P s = 0)) s + 1))), (0, rv a 38), (1, .int (nI m))]) 3 dX0_keptIn_39 rfl (by rw [show Int32.ofInt 1 = nI 1 from by decide, nI_add]) (by decide) rfl ?_
            refine tr_goto (pc := 42) (tgt := 4) dX0_keptIn_42 (by decide) ?_
            refine tr_sub (pc := 4) (lv' := [(0, rv a 38), (1, .int (nI m)), (2, .int (nI (cntG (fun s => decide (sM P s = m ∧ fate P s = 0)) s + 1))), (3, .int (nI (s + 1)))]) [2, 3, 1, 0] rfl ?_
            have e1 : nI (cntG (fun s => decide (sM P s = m ∧ fate P s = 0)) s + 1) = nI (cntG (fun s => decide (sM P s = m ∧ fate P s = 0)) (s + 1)) := by simp only [cntG]; simp [q24, q33]
            rw [e1]
            exact ih (s + 1) (by omega) (by omega)
  exact L4 (nSt P + 1) 0 (by omega) (by omega)

set_option maxHeartbeats 4000000 in
set_option maxRecDepth 100000 in
theorem c_fateOf2 {a : Am} {S : St} {h : Hp} {x y : Int32} (h1 : x = nI 1) : CT a 0 mX0_fateOf [.int x, .int y] S h (Rt (nI 2) S h) := by
  refine met_of (by decide +kernel) (Nat.le_of_ble_eq_true rfl) ?_
  show T a 0 mX0_fateOf 0 [(0, .int x), (1, .int y)] [] S h _
  refine tr_iload_n (pc := 0) 0 dX0_fateOf_0 rfl rfl ?_
  refine tr_iconst (pc := 1) (v := nI 1) dX0_fateOf_1 (by decide) ?_
  refine tr_icmp_ne (pc := 2) (tgt := 7) dX0_fateOf_2 (by decide) Iff.rfl (fun hcc => absurd (h1) hcc) (fun _ => ?_)
  refine tr_iconst (pc := 5) (v := nI 2) dX0_fateOf_5 (by decide) ?_
  exact tr_iret (pc := 6) dX0_fateOf_6 rfl rfl (⟨rfl, rfl, rfl⟩)

set_option maxHeartbeats 4000000 in
set_option maxRecDepth 100000 in
theorem c_fateOf1 {a : Am} {S : St} {h : Hp} {x y : Int32} (h1 : ¬ x = nI 1) (h2 : y = nI 1) : CT a 0 mX0_fateOf [.int x, .int y] S h (Rt (nI 1) S h) := by
  refine met_of (by decide +kernel) (Nat.le_of_ble_eq_true rfl) ?_
  show T a 0 mX0_fateOf 0 [(0, .int x), (1, .int y)] [] S h _
  refine tr_iload_n (pc := 0) 0 dX0_fateOf_0 rfl rfl ?_
  refine tr_iconst (pc := 1) (v := nI 1) dX0_fateOf_1 (by decide) ?_
  refine tr_icmp_ne (pc := 2) (tgt := 7) dX0_fateOf_2 (by decide) Iff.rfl (fun _ => ?_) (fun hcc => absurd hcc (h1))
  refine tr_iload_n (pc := 7) 1 dX0_fateOf_7 rfl rfl ?_
  refine tr_iconst (pc := 8) (v := nI 1) dX0_fateOf_8 (by decide) ?_
  refine tr_icmp_ne (pc := 9) (tgt := 16) dX0_fateOf_9 (by decide) Iff.rfl (fun hcc => absurd (h2) hcc) (fun _ => ?_)
  refine tr_iconst (pc := 12) (v := nI 1) dX0_fateOf_12 (by decide) ?_
  refine tr_goto (pc := 13) (tgt := 17) dX0_fateOf_13 (by decide) ?_
  exact tr_iret (pc := 17) dX0_fateOf_17 rfl rfl (⟨rfl, rfl, rfl⟩)

set_option maxHeartbeats 4000000 in
set_option maxRecDepth 100000 in
theorem c_fateOf0 {a : Am} {S : St} {h : Hp} {x y : Int32} (h1 : ¬ x = nI 1) (h2 : ¬ y = nI 1) : CT a 0 mX0_fateOf [.int x, .int y] S h (Rt (nI 0) S h) := by
  refine met_of (by decide +kernel) (Nat.le_of_ble_eq_true rfl) ?_
  show T a 0 mX0_fateOf 0 [(0, .int x), (1, .int y)] [] S h _
  refine tr_iload_n (pc := 0) 0 dX0_fateOf_0 rfl rfl ?_
  refine tr_iconst (pc := 1) (v := nI 1) dX0_fateOf_1 (by decide) ?_
  refine tr_icmp_ne (pc := 2) (tgt := 7) dX0_fateOf_2 (by decide) Iff.rfl (fun _ => ?_) (fun hcc => absurd hcc (h1))
  refine tr_iload_n (pc := 7) 1 dX0_fateOf_7 rfl rfl ?_
  refine tr_iconst (pc := 8) (v := nI 1) dX0_fateOf_8 (by decide) ?_
  refine tr_icmp_ne (pc := 9) (tgt := 16) dX0_fateOf_9 (by decide) Iff.rfl (fun _ => ?_) (fun hcc => absurd hcc (h2))
  refine tr_iconst (pc := 16) (v := nI 0) dX0_fateOf_16 (by decide) ?_
  exact tr_iret (pc := 17) dX0_fateOf_17 rfl rfl (⟨rfl, rfl, rfl⟩)

theorem c_fateOf {a : Am} {S : St} {h : Hp} {P : Prog} {s : Nat} : CT a 0 mX0_fateOf [.int (opn P >>> (nI s &&& 31) &&& nI 1), .int (outS P (sM P s) >>> (nI s &&& 31) &&& nI 1)] S h (Rt (nI (fate P s)) S h) := by
  unfold fate
  by_cases q1 : opn P >>> (nI s &&& 31) &&& nI 1 = nI 1
  · rw [if_pos (tb_t q1)]; exact c_fateOf2 q1
  · rw [tb_f q1]
    simp only [Bool.false_eq_true, if_false]
    by_cases q2 : outS P (sM P s) >>> (nI s &&& 31) &&& nI 1 = nI 1
    · rw [if_pos (tb_t q2)]; exact c_fateOf1 q1 q2
    · rw [tb_f q2]
      simp only [Bool.false_eq_true, if_false]
      exact c_fateOf0 q1 q2
theorem gf_n {h h1 : Hp} {P : Prog} {m s : Nat} (hI : ∀ t, t < nSt P → (t < s → sM P t = m → h1 39 t = nI (fate P t)) ∧ (s ≤ t ∨ sM P t ≠ m → h1 39 t = h 39 t)) (q : ¬ sM P s = m) : ∀ t, t < nSt P → (t < s + 1 → sM P t = m → h1 39 t = nI (fate P t)) ∧ (s + 1 ≤ t ∨ sM P t ≠ m → h1 39 t = h 39 t) := by
  intro t ht
  refine ⟨fun a b => (hI t ht).1 ?_ b, fun c => (hI t ht).2 (c.imp (by omega) id)⟩
  by_cases e : t = s
  · subst e; exact absurd b q
  · omega
theorem gf_y {h h1 : Hp} {P : Prog} {m s : Nat} (hI : ∀ t, t < nSt P → (t < s → sM P t = m → h1 39 t = nI (fate P t)) ∧ (s ≤ t ∨ sM P t ≠ m → h1 39 t = h 39 t)) (q : sM P s = m) : ∀ t, t < nSt P → (t < s + 1 → sM P t = m → (hs h1 39 (upd (h1 39) s (nI (fate P s)))) 39 t = nI (fate P t)) ∧ (s + 1 ≤ t ∨ sM P t ≠ m → (hs h1 39 (upd (h1 39) s (nI (fate P s)))) 39 t = h 39 t) := by
  intro t ht
  rw [hs_same]
  by_cases e : t = s
  · subst e
    rw [upd_s]
    exact ⟨fun _ _ => rfl, fun c => by rcases c with c | c; omega; exact absurd q c⟩
  · rw [upd_n e]
    exact ⟨fun a b => (hI t ht).1 (by omega) b, fun c => (hI t ht).2 (c.imp (by omega) id)⟩
set_option maxHeartbeats 4000000 in
set_option maxRecDepth 100000 in
theorem c_giveFates {a : Am} {S : St} {h : Hp} (hS : IsSt S) {P : Prog} (hV : VB P) (hC : SC h P) {m : Nat} (hm : m < P.length) : CT a 2 mX0_giveFates [rv a 38, .int (nI m), .int (opn P), .int (outS P m)] S h (fun v S' h' => v = none ∧ S = S' ∧ (∀ s, s < nSt P → (sM P s = m → h' 39 s = nI (fate P s)) ∧ (sM P s ≠ m → h' 39 s = h 39 s)) ∧ Fr [39] h h') := by
  obtain ⟨hV1, hV2, hV3⟩ := id hV
  have hns := nSt_le hV
  refine met_of (by decide +kernel) (Nat.le_of_ble_eq_true rfl) ?_
  show T a 2 mX0_giveFates 0 [(0, rv a 38), (1, .int (nI m)), (2, .int (opn P)), (3, .int (outS P m))] [] S h _
  refine tr_iconst (pc := 0) (v := nI 0) dX0_giveFates_0 (by decide) ?_
  refine tr_istore (pc := 1) (lv' := [(4, .int (nI 0)), (0, rv a 38), (1, .int (nI m)), (2, .int (opn P)), (3, .int (outS P m))]) dX0_giveFates_1 (by decide) rfl ?_
  refine tr_sub (pc := 3) (lv' := [(0, rv a 38), (1, .int (nI m)), (2, .int (opn P)), (3, .int (outS P m)), (4, .int (nI 0))]) [1, 2, 3, 4, 0] rfl ?_
  have L3 : ∀ (fu : Nat) (s : Nat) (h1 : Hp), nSt P - s < fu → s ≤ nSt P → (∀ t, t < nSt P → (t < s → sM P t = m → h1 39 t = nI (fate P t)) ∧ (s ≤ t ∨ sM P t ≠ m → h1 39 t = h 39 t)) → Fr [39] h h1 → T a 2 mX0_giveFates 3 [(0, rv a 38), (1, .int (nI m)), (2, .int (opn P)), (3, .int (outS P m)), (4, .int (nI s))] [] S h1 (fun v S' h' => v = none ∧ S = S' ∧ (∀ s, s < nSt P → (sM P s = m → h' 39 s = nI (fate P s)) ∧ (sM P s ≠ m → h' 39 s = h 39 s)) ∧ Fr [39] h h') := by
    intro fu
    induction fu with
    | zero => intro s h1 hu hs hI hf1; omega
    | succ fu ih =>
      intro s h1 hu hs hI hf1
      have hC1 : SC h1 P := hC.fr hf1 (by decide) (by decide) (by decide) (by decide)
      refine tr_iload (pc := 3) 4 dX0_giveFates_3 rfl ?_
      refine tr_aload_n (pc := 5) 0 dX0_giveFates_5 rfl rfl ?_
      refine tr_getR (pc := 6) (q := 31) dX0_giveFates_6 (hS.1 38 (3, 5) rfl) fi_X0_22 rfl (hS.2 38 1 31 rfl) ?_
      refine tr_callV (pc := 9) (rest := [.int (nI s)]) (ci := 4) dX0_giveFates_9 ml_X0_34 cv_X4_count rfl rfl (Nat.le_of_ble_eq_true rfl) (hS.1 31 (7, 4) rfl) rfl (by decide) (c_sitecount hS hV hC1) ?_
      rintro _ _ _ ⟨rfl, rfl, rfl⟩
      show T a 2 mX0_giveFates 12 [(0, rv a 38), (1, .int (nI m)), (2, .int (opn P)), (3, .int (outS P m)), (4, .int (nI s))] [.int (nI (nSt P)), .int (nI s)] S h1 _
      refine tr_icmp_ge (pc := 12) (tgt := 56) dX0_giveFates_12 (by decide) (nI_leI (by omega) (by omega)) (fun q12 => ?_) (fun q12 => ?_)
      · skip
        exact tr_vret (pc := 56) dX0_giveFates_56 rfl (⟨rfl, rfl, fun t ht => ⟨fun e => (hI t ht).1 (by omega) e, fun e => (hI t ht).2 (Or.inr e)⟩, hf1⟩)
      · skip
        have hsm := (site_at (show s < nSt P by omega)).1
        refine tr_aload_n (pc := 15) 0 dX0_giveFates_15 rfl rfl ?_
        refine tr_getR (pc := 16) (q := 31) dX0_giveFates_16 (hS.1 38 (3, 5) rfl) fi_X0_22 rfl (hS.2 38 1 31 rfl) ?_
        refine tr_iload (pc := 19) 4 dX0_giveFates_19 rfl ?_
        refine tr_callV (pc := 21) (rest := []) (ci := 4) dX0_giveFates_21 ml_X0_40 cv_X4_methodOf rfl rfl (Nat.le_of_ble_eq_true rfl) (hS.1 31 (7, 4) rfl) rfl (by decide) (c_methodOf hS hV hC1 (by omega)) ?_
        rintro _ _ _ ⟨rfl, rfl, rfl⟩
        show T a 2 mX0_giveFates 24 [(0, rv a 38), (1, .int (nI m)), (2, .int (opn P)), (3, .int (outS P m)), (4, .int (nI s))] [.int (nI (sM P s))] S h1 _
        refine tr_iload_n (pc := 24) 1 dX0_giveFates_24 rfl rfl ?_
        refine tr_icmp_ne (pc := 25) (tgt := 50) dX0_giveFates_25 (by decide) (nI_eq (by omega) (by omega)) (fun q25 => ?_) (fun q25 => ?_)
        · skip
          refine tr_iinc (pc := 50) (v := nI (s + 1)) (lv' := [(4, .int (nI (s + 1))), (0, rv a 38), (1, .int (nI m)), (2, .int (opn P)), (3, .int (outS P m))]) 4 dX0_giveFates_50 rfl (by rw [show Int32.ofInt 1 = nI 1 from by decide, nI_add]) (by decide) rfl ?_
          refine tr_goto (pc := 53) (tgt := 3) dX0_giveFates_53 (by decide) ?_
          refine tr_sub (pc := 3) (lv' := [(0, rv a 38), (1, .int (nI m)), (2, .int (opn P)), (3, .int (outS P m)), (4, .int (nI (s + 1)))]) [1, 2, 3, 4, 0] rfl ?_
          exact ih (s + 1) h1 (by omega) (by omega) (gf_n hI q25) hf1
        · skip
          refine tr_aload_n (pc := 28) 0 dX0_giveFates_28 rfl rfl ?_
          refine tr_getR (pc := 29) (q := 39) dX0_giveFates_29 (hS.1 38 (3, 5) rfl) fi_X0_9 rfl (hS.2 38 3 39 rfl) ?_
          refine tr_iload (pc := 32) 4 dX0_giveFates_32 rfl ?_
          refine tr_iload_n (pc := 34) 2 dX0_giveFates_34 rfl rfl ?_
          refine tr_iload (pc := 35) 4 dX0_giveFates_35 rfl ?_
          refine tr_ishr (pc := 37) (v := (opn P) >>> (nI s &&& 31)) dX0_giveFates_37 rfl ?_
          refine tr_iconst (pc := 38) (v := nI 1) dX0_giveFates_38 (by decide) ?_
          refine tr_iand (pc := 39) (v := ((opn P) >>> (nI s &&& 31)) &&& (nI 1)) dX0_giveFates_39 rfl ?_
          refine tr_iload_n (pc := 40) 3 dX0_giveFates_40 rfl rfl ?_
          refine tr_iload (pc := 41) 4 dX0_giveFates_41 rfl ?_
          refine tr_ishr (pc := 43) (v := (outS P m) >>> (nI s &&& 31)) dX0_giveFates_43 rfl ?_
          refine tr_iconst (pc := 44) (v := nI 1) dX0_giveFates_44 (by decide) ?_
          refine tr_iand (pc := 45) (v := ((outS P m) >>> (nI s &&& 31)) &&& (nI 1)) dX0_giveFates_45 rfl ?_
          refine tr_callS (pc := 46) (rest := [.int (nI s), rv a 39]) dX0_giveFates_46 ml_X0_69 cs_X0_fateOf rfl rfl (Nat.le_of_ble_eq_true rfl) (by decide) (show CT a 0 mX0_fateOf [.int (opn P >>> (nI s &&& 31) &&& nI 1), .int (outS P m >>> (nI s &&& 31) &&& nI 1)] S h1 (Rt (nI (fate P s)) S h1) from by rw [← q25]; exact c_fateOf) ?_
          rintro _ _ _ ⟨rfl, rfl, rfl⟩
          show T a 2 mX0_giveFates 49 [(0, rv a 38), (1, .int (nI m)), (2, .int (opn P)), (3, .int (outS P m)), (4, .int (nI s))] [.int (nI (fate P s)), .int (nI s), rv a 39] S h1 _
          refine tr_iast (pc := 49) s dX0_giveFates_49 (hS.1 39 (0, 32) rfl) rfl (by omega) (by decide) ?_
          refine tr_iinc (pc := 50) (v := nI (s + 1)) (lv' := [(4, .int (nI (s + 1))), (0, rv a 38), (1, .int (nI m)), (2, .int (opn P)), (3, .int (outS P m))]) 4 dX0_giveFates_50 rfl (by rw [show Int32.ofInt 1 = nI 1 from by decide, nI_add]) (by decide) rfl ?_
          refine tr_goto (pc := 53) (tgt := 3) dX0_giveFates_53 (by decide) ?_
          refine tr_sub (pc := 3) (lv' := [(0, rv a 38), (1, .int (nI m)), (2, .int (opn P)), (3, .int (outS P m)), (4, .int (nI (s + 1)))]) [1, 2, 3, 4, 0] rfl ?_
          exact ih (s + 1) _ (by omega) (by omega) (gf_y hI q25) (hf1.hs (by decide))
  exact L3 (nSt P + 1) 0 h (by omega) (by omega) (fun t ht => ⟨fun a => by omega, fun _ => rfl⟩) Fr.rf

set_option maxHeartbeats 4000000 in
set_option maxRecDepth 100000 in
theorem c_allKept {a : Am} {S : St} {h : Hp} (hS : IsSt S) {P : Prog} (hV : VB P) (hC : SC h P) (hO : FO h P) : CT a 1 mX0_allKept [rv a 38] S h (Rt (kept P) S h) := by
  obtain ⟨hV1, hV2, hV3⟩ := id hV
  have hns := nSt_le hV
  refine met_of (by decide +kernel) (Nat.le_of_ble_eq_true rfl) ?_
  show T a 1 mX0_allKept 0 [(0, rv a 38)] [] S h _
  refine tr_iconst (pc := 0) (v := nI 0) dX0_allKept_0 (by decide) ?_
  refine tr_istore_n (pc := 1) (lv' := [(1, .int (nI 0)), (0, rv a 38)]) dX0_allKept_1 rfl (by decide) rfl ?_
  refine tr_iconst (pc := 2) (v := nI 0) dX0_allKept_2 (by decide) ?_
  refine tr_istore_n (pc := 3) (lv' := [(2, .int (nI 0)), (1, .int (nI 0)), (0, rv a 38)]) dX0_allKept_3 rfl (by decide) rfl ?_
  refine tr_sub (pc := 4) (lv' := [(0, rv a 38), (1, .int (nI 0)), (2, .int (nI 0))]) [2, 1, 0] rfl ?_
  have L4 : ∀ (fu : Nat) (s : Nat), nSt P - s < fu → s ≤ nSt P → T a 1 mX0_allKept 4 [(0, rv a 38), (1, .int (fatB P 0 s)), (2, .int (nI s))] [] S h (Rt (kept P) S h) := by
    intro fu
    induction fu with
    | zero => intro s hu hs; omega
    | succ fu ih =>
      intro s hu hs
      refine tr_iload_n (pc := 4) 2 dX0_allKept_4 rfl rfl ?_
      refine tr_aload_n (pc := 5) 0 dX0_allKept_5 rfl rfl ?_
      refine tr_getR (pc := 6) (q := 31) dX0_allKept_6 (hS.1 38 (3, 5) rfl) fi_X0_22 rfl (hS.2 38 1 31 rfl) ?_
      refine tr_callV (pc := 9) (rest := [.int (nI s)]) (ci := 4) dX0_allKept_9 ml_X0_34 cv_X4_count rfl rfl (Nat.le_of_ble_eq_true rfl) (hS.1 31 (7, 4) rfl) rfl (by decide) (c_sitecount hS hV hC) ?_
      rintro _ _ _ ⟨rfl, rfl, rfl⟩
      show T a 1 mX0_allKept 12 [(0, rv a 38), (1, .int (fatB P 0 s)), (2, .int (nI s))] [.int (nI (nSt P)), .int (nI s)] S h _
      refine tr_icmp_ge (pc := 12) (tgt := 36) dX0_allKept_12 (by decide) (nI_leI (by omega) (by omega)) (fun q12 => ?_) (fun q12 => ?_)
      · skip
        refine tr_iload_n (pc := 36) 1 dX0_allKept_36 rfl rfl ?_
        exact tr_iret (pc := 37) dX0_allKept_37 rfl rfl (by
            unfold kept; rw [show nSt P = s by omega]; exact ⟨rfl, rfl, rfl⟩)
      · skip
        have hfl := fate_lt P s
        refine tr_aload_n (pc := 15) 0 dX0_allKept_15 rfl rfl ?_
        refine tr_getR (pc := 16) (q := 39) dX0_allKept_16 (hS.1 38 (3, 5) rfl) fi_X0_9 rfl (hS.2 38 3 39 rfl) ?_
        refine tr_iload_n (pc := 19) 2 dX0_allKept_19 rfl rfl ?_
        refine tr_iald (pc := 20) (v := nI (fate P s)) s dX0_allKept_20 (hS.1 39 (0, 32) rfl) rfl (by omega) (by decide) (hO s (by omega)) ?_
        refine tr_if_ne (pc := 21) (tgt := 30) dX0_allKept_21 (by decide) (nI_z_eq (by omega)) (fun q21 => ?_) (fun q21 => ?_)
        · skip
          refine tr_iinc (pc := 30) (v := nI (s + 1)) (lv' := [(2, .int (nI (s + 1))), (0, rv a 38), (1, .int (fatB P 0 s))]) 2 dX0_allKept_30 rfl (by rw [show Int32.ofInt 1 = nI 1 from by decide, nI_add]) (by decide) rfl ?_
          refine tr_goto (pc := 33) (tgt := 4) dX0_allKept_33 (by decide) ?_
          refine tr_sub (pc := 4) (lv' := [(0, rv a 38), (1, .int (fatB P 0 s)), (2, .int (nI (s + 1)))]) [1, 2, 0] rfl ?_
          have e1 : fatB P 0 s = fatB P 0 (s + 1) := by simp only [fatB]; simp [q21]
          rw [e1]
          exact ih (s + 1) (by omega) (by omega)
        · skip
          refine tr_iload_n (pc := 24) 1 dX0_allKept_24 rfl rfl ?_
          refine tr_iconst (pc := 25) (v := nI 1) dX0_allKept_25 (by decide) ?_
          refine tr_iload_n (pc := 26) 2 dX0_allKept_26 rfl rfl ?_
          refine tr_ishl (pc := 27) (v := (nI 1) <<< (nI s &&& 31)) dX0_allKept_27 rfl ?_
          refine tr_ior (pc := 28) (v := (fatB P 0 s) ||| ((nI 1) <<< (nI s &&& 31))) dX0_allKept_28 rfl ?_
          refine tr_istore_n (pc := 29) (lv' := [(1, .int ((fatB P 0 s) ||| ((nI 1) <<< (nI s &&& 31)))), (0, rv a 38), (2, .int (nI s))]) dX0_allKept_29 rfl (by decide) rfl ?_
          refine tr_iinc (pc := 30) (v := nI (s + 1)) (lv' := [(2, .int (nI (s + 1))), (1, .int ((fatB P 0 s) ||| ((nI 1) <<< (nI s &&& 31)))), (0, rv a 38)]) 2 dX0_allKept_30 rfl (by rw [show Int32.ofInt 1 = nI 1 from by decide, nI_add]) (by decide) rfl ?_
          refine tr_goto (pc := 33) (tgt := 4) dX0_allKept_33 (by decide) ?_
          refine tr_sub (pc := 4) (lv' := [(0, rv a 38), (1, .int ((fatB P 0 s) ||| ((nI 1) <<< (nI s &&& 31)))), (2, .int (nI (s + 1)))]) [2, 1, 0] rfl ?_
          have e1 : (fatB P 0 s) ||| ((nI 1) <<< (nI s &&& 31)) = fatB P 0 (s + 1) := by simp only [fatB]; simp [q21]
          rw [e1]
          exact ih (s + 1) (by omega) (by omega)
  exact L4 (nSt P + 1) 0 (by omega) (by omega)

set_option maxHeartbeats 4000000 in
set_option maxRecDepth 100000 in
theorem c_idleAmong {a : Am} {S : St} {h : Hp} (hS : IsSt S) {P : Prog} (hV : VB P) (hMP : MP h 3 P) (hM : MC h (mayV P)) {m : Nat} (hm : m < P.length) : CT a 3 mX0_idleAmong [rv a 38, .int (nI m), .int (kept P)] S h (Rt (idl P m) S h) := by
  obtain ⟨hV1, hV2, hV3⟩ := id hV
  have hns := nSt_le hV
  have hO := mo_3 hS
  have h8 := hV2 m
  refine met_of (by decide +kernel) (Nat.le_of_ble_eq_true rfl) ?_
  show T a 3 mX0_idleAmong 0 [(0, rv a 38), (1, .int (nI m)), (2, .int (kept P))] [] S h _
  refine tr_iconst (pc := 0) (v := nI 0) dX0_idleAmong_0 (by decide) ?_
  refine tr_istore_n (pc := 1) (lv' := [(3, .int (nI 0)), (0, rv a 38), (1, .int (nI m)), (2, .int (kept P))]) dX0_idleAmong_1 rfl (by decide) rfl ?_
  refine tr_iconst (pc := 2) (v := nI 0) dX0_idleAmong_2 (by decide) ?_
  refine tr_istore (pc := 3) (lv' := [(4, .int (nI 0)), (3, .int (nI 0)), (0, rv a 38), (1, .int (nI m)), (2, .int (kept P))]) dX0_idleAmong_3 (by decide) rfl ?_
  refine tr_sub (pc := 5) (lv' := [(0, rv a 38), (1, .int (nI m)), (2, .int (kept P)), (3, .int (nI 0)), (4, .int (nI 0))]) [2, 3, 4, 1, 0] rfl ?_
  have L5 : ∀ (fu : Nat) (i : Nat), lnN P m - i < fu → i ≤ lnN P m → T a 3 mX0_idleAmong 5 [(0, rv a 38), (1, .int (nI m)), (2, .int (kept P)), (3, .int (idlB P m i)), (4, .int (nI i))] [] S h (Rt (idl P m) S h) := by
    intro fu
    induction fu with
    | zero => intro i hu hi; omega
    | succ fu ih =>
      intro i hu hi
      refine tr_iload (pc := 5) 4 dX0_idleAmong_5 rfl ?_
      refine tr_aload_n (pc := 7) 0 dX0_idleAmong_7 rfl rfl ?_
      refine tr_getR (pc := 8) (q := 3) dX0_idleAmong_8 (hS.1 38 (3, 5) rfl) fi_X0_18 rfl (hS.2 38 0 3 rfl) ?_
      refine tr_iload_n (pc := 11) 1 dX0_idleAmong_11 rfl rfl ?_
      refine tr_callV (pc := 12) (rest := [.int (nI i)]) (ci := 2) dX0_idleAmong_12 ml_X0_72 cv_X2_lines rfl rfl (Nat.le_of_ble_eq_true rfl) (hS.1 3 (5, 3) rfl) rfl (by decide) (c_lines_in hO hMP hV hm) ?_
      rintro _ _ _ ⟨rfl, rfl, rfl⟩
      show T a 3 mX0_idleAmong 15 [(0, rv a 38), (1, .int (nI m)), (2, .int (kept P)), (3, .int (idlB P m i)), (4, .int (nI i))] [.int (nI (lnN P m)), .int (nI i)] S h _
      refine tr_icmp_ge (pc := 15) (tgt := 80) dX0_idleAmong_15 (by decide) (nI_leI (by omega) (by omega)) (fun q15 => ?_) (fun q15 => ?_)
      · skip
        refine tr_iload_n (pc := 80) 3 dX0_idleAmong_80 rfl rfl ?_
        exact tr_iret (pc := 81) dX0_idleAmong_81 rfl rfl (by
            unfold idl; rw [show lnN P m = i by omega]; exact ⟨rfl, rfl, rfl⟩)
      · skip
        have hil : i < lnN P m := by omega
        have hok := hV3 m i hil
        obtain ⟨k1, k2, k3, k4⟩ := id hok
        refine tr_aload_n (pc := 18) 0 dX0_idleAmong_18 rfl rfl ?_
        refine tr_getR (pc := 19) (q := 35) dX0_idleAmong_19 (hS.1 38 (3, 5) rfl) fi_X0_26 rfl (hS.2 38 2 35 rfl) ?_
        refine tr_iload_n (pc := 22) 1 dX0_idleAmong_22 rfl rfl ?_
        refine tr_aload_n (pc := 23) 0 dX0_idleAmong_23 rfl rfl ?_
        refine tr_getR (pc := 24) (q := 3) dX0_idleAmong_24 (hS.1 38 (3, 5) rfl) fi_X0_18 rfl (hS.2 38 0 3 rfl) ?_
        refine tr_iload_n (pc := 27) 1 dX0_idleAmong_27 rfl rfl ?_
        refine tr_iload (pc := 28) 4 dX0_idleAmong_28 rfl ?_
        refine tr_callV (pc := 30) (rest := [.int (nI m), rv a 35]) (ci := 2) dX0_idleAmong_30 ml_X0_75 cv_X2_name rfl rfl (Nat.le_of_ble_eq_true rfl) (hS.1 3 (5, 3) rfl) rfl (by decide) (c_name hO hMP hV hil) ?_
        rintro _ _ _ ⟨rfl, rfl, rfl⟩
        show T a 3 mX0_idleAmong 33 [(0, rv a 38), (1, .int (nI m)), (2, .int (kept P)), (3, .int (idlB P m i)), (4, .int (nI i))] [.int (nI ((gt P m i).2.1)), .int (nI m), rv a 35] S h _
        refine tr_callV (pc := 33) (rest := []) (ci := 1) dX0_idleAmong_33 ml_X0_55 cv_X1_inName rfl rfl (Nat.le_of_ble_eq_true rfl) (hS.1 35 (4, 6) rfl) rfl (by decide) (c_inName hS hM (by omega) k2) ?_
        rintro _ _ _ ⟨rfl, rfl, rfl⟩
        show T a 3 mX0_idleAmong 36 [(0, rv a 38), (1, .int (nI m)), (2, .int (kept P)), (3, .int (idlB P m i)), (4, .int (nI i))] [.int (mayV P (4 * m + (gt P m i).2.1))] S h _
        refine tr_istore (pc := 36) (lv' := [(5, .int (mayV P (4 * m + (gt P m i).2.1))), (0, rv a 38), (1, .int (nI m)), (2, .int (kept P)), (3, .int (idlB P m i)), (4, .int (nI i))]) dX0_idleAmong_36 (by decide) rfl ?_
        refine tr_aload_n (pc := 38) 1 dX0_idleAmong_38 rfl rfl ?_
        refine tr_getR (pc := 39) (q := 3) dX0_idleAmong_39 (hS.1 38 (3, 5) rfl) fi_X0_18 rfl (hS.2 38 0 3 rfl) ?_
        refine tr_iload_n (pc := 42) 2 dX0_idleAmong_42 rfl rfl ?_
        refine tr_iload (pc := 43) 5 dX0_idleAmong_43 rfl ?_
        refine tr_callV (pc := 45) (rest := []) (ci := 2) dX0_idleAmong_45 ml_X0_78 cv_X2_sort rfl rfl (Nat.le_of_ble_eq_true rfl) (hS.1 3 (5, 3) rfl) rfl (by decide) (c_sort hO hMP hV hil) ?_
        rintro _ _ _ ⟨rfl, rfl, rfl⟩
        show T a 3 mX0_idleAmong 48 [(5, .int (mayV P (4 * m + (gt P m i).2.1))), (0, rv a 38), (1, .int (nI m)), (2, .int (kept P)), (3, .int (idlB P m i)), (4, .int (nI i))] [.int (nI ((gt P m i).1))] S h _
        refine tr_bipush (pc := 48) (v := nI 6) dX0_idleAmong_48 (by decide) ?_
        refine tr_icmp_ne (pc := 50) (tgt := 74) dX0_idleAmong_50 (by decide) (nI_eq (by omega) (by omega)) (fun q50 => ?_) (fun q50 => ?_)
        · skip
          refine tr_iinc (pc := 74) (v := nI (i + 1)) (lv' := [(4, .int (nI (i + 1))), (5, .int (mayV P (4 * m + (gt P m i).2.1))), (0, rv a 38), (1, .int (nI m)), (2, .int (kept P)), (3, .int (idlB P m i))]) 5 dX0_idleAmong_74 rfl (by rw [show Int32.ofInt 1 = nI 1 from by decide, nI_add]) (by decide) rfl ?_
          refine tr_goto (pc := 77) (tgt := 5) dX0_idleAmong_77 (by decide) ?_
          refine tr_sub (pc := 5) (lv' := [(0, rv a 38), (1, .int (nI m)), (2, .int (kept P)), (3, .int (idlB P m i)), (4, .int (nI (i + 1)))]) [2, 3, 4, 5, 0] rfl ?_
          have e1 : idlB P m i = idlB P m (i + 1) := by simp only [idlB]; rw [if_neg (fun z => q50 z.1)]
          rw [e1]
          exact ih (i + 1) (by omega) (by omega)
        · skip
          refine tr_iload (pc := 53) 0 dX0_idleAmong_53 rfl ?_
          refine tr_if_eq (pc := 55) (tgt := 74) dX0_idleAmong_55 (by decide) Iff.rfl (fun q55 => ?_) (fun q55 => ?_)
          · skip
            refine tr_iinc (pc := 74) (v := nI (i + 1)) (lv' := [(4, .int (nI (i + 1))), (5, .int (mayV P (4 * m + (gt P m i).2.1))), (0, rv a 38), (1, .int (nI m)), (2, .int (kept P)), (3, .int (idlB P m i))]) 5 dX0_idleAmong_74 rfl (by rw [show Int32.ofInt 1 = nI 1 from by decide, nI_add]) (by decide) rfl ?_
            refine tr_goto (pc := 77) (tgt := 5) dX0_idleAmong_77 (by decide) ?_
            refine tr_sub (pc := 5) (lv' := [(0, rv a 38), (1, .int (nI m)), (2, .int (kept P)), (3, .int (idlB P m i)), (4, .int (nI (i + 1)))]) [2, 3, 4, 5, 0] rfl ?_
            have e1 : idlB P m i = idlB P m (i + 1) := by simp only [idlB]; rw [if_neg (fun z => z.2.1 q55)]
            rw [e1]
            exact ih (i + 1) (by omega) (by omega)
          · skip
            refine tr_iload (pc := 58) 0 dX0_idleAmong_58 rfl ?_
            refine tr_iload_n (pc := 60) 3 dX0_idleAmong_60 rfl rfl ?_
            refine tr_iconst (pc := 61) (v := -1) dX0_idleAmong_61 (by decide) ?_
            refine tr_ixor (pc := 62) (v := (kept P) ^^^ (-1)) dX0_idleAmong_62 rfl ?_
            refine tr_iand (pc := 63) (v := (mayV P (4 * m + (gt P m i).2.1)) &&& ((kept P) ^^^ (-1))) dX0_idleAmong_63 rfl ?_
            refine tr_if_ne (pc := 64) (tgt := 74) dX0_idleAmong_64 (by decide) Iff.rfl (fun q64 => ?_) (fun q64 => ?_)
            · skip
              refine tr_iinc (pc := 74) (v := nI (i + 1)) (lv' := [(4, .int (nI (i + 1))), (5, .int (mayV P (4 * m + (gt P m i).2.1))), (0, rv a 38), (1, .int (nI m)), (2, .int (kept P)), (3, .int (idlB P m i))]) 5 dX0_idleAmong_74 rfl (by rw [show Int32.ofInt 1 = nI 1 from by decide, nI_add]) (by decide) rfl ?_
              refine tr_goto (pc := 77) (tgt := 5) dX0_idleAmong_77 (by decide) ?_
              refine tr_sub (pc := 5) (lv' := [(0, rv a 38), (1, .int (nI m)), (2, .int (kept P)), (3, .int (idlB P m i)), (4, .int (nI (i + 1)))]) [2, 3, 4, 5, 0] rfl ?_
              have e1 : idlB P m i = idlB P m (i + 1) := by simp only [idlB]; rw [if_neg (fun z => q64 z.2.2)]
              rw [e1]
              exact ih (i + 1) (by omega) (by omega)
            · skip
              refine tr_iload_n (pc := 67) 4 dX0_idleAmong_67 rfl rfl ?_
              refine tr_iconst (pc := 68) (v := nI 1) dX0_idleAmong_68 (by decide) ?_
              refine tr_iload (pc := 69) 5 dX0_idleAmong_69 rfl ?_
              refine tr_ishl (pc := 71) (v := (nI 1) <<< (nI i &&& 31)) dX0_idleAmong_71 rfl ?_
              refine tr_ior (pc := 72) (v := (idlB P m i) ||| ((nI 1) <<< (nI i &&& 31))) dX0_idleAmong_72 rfl ?_
              refine tr_istore_n (pc := 73) (lv' := [(3, .int ((idlB P m i) ||| ((nI 1) <<< (nI i &&& 31)))), (5, .int (mayV P (4 * m + (gt P m i).2.1))), (0, rv a 38), (1, .int (nI m)), (2, .int (kept P)), (4, .int (nI i))]) dX0_idleAmong_73 rfl (by decide) rfl ?_
              refine tr_iinc (pc := 74) (v := nI (i + 1)) (lv' := [(4, .int (nI (i + 1))), (3, .int ((idlB P m i) ||| ((nI 1) <<< (nI i &&& 31)))), (5, .int (mayV P (4 * m + (gt P m i).2.1))), (0, rv a 38), (1, .int (nI m)), (2, .int (kept P))]) 5 dX0_idleAmong_74 rfl (by rw [show Int32.ofInt 1 = nI 1 from by decide, nI_add]) (by decide) rfl ?_
              refine tr_goto (pc := 77) (tgt := 5) dX0_idleAmong_77 (by decide) ?_
              refine tr_sub (pc := 5) (lv' := [(0, rv a 38), (1, .int (nI m)), (2, .int (kept P)), (3, .int ((idlB P m i) ||| ((nI 1) <<< (nI i &&& 31)))), (4, .int (nI (i + 1)))]) [3, 4, 5, 1, 0] rfl ?_
              have e1 : (idlB P m i) ||| ((nI 1) <<< (nI i &&& 31)) = idlB P m (i + 1) := by simp only [idlB]; rw [if_pos ⟨q50, q55, q64⟩]
              rw [e1]
              exact ih (i + 1) (by omega) (by omega)
  exact L5 (lnN P m + 1) 0 (by omega) (by omega)

set_option maxHeartbeats 4000000 in
set_option maxRecDepth 100000 in
theorem c_ffind {a : Am} {S : St} {h : Hp} (hS : IsSt S) {P : Prog} (hV : VB P) (hMP : MP h 3 P) (hC : SC h P) (hM : MC h (mayV P)) : CT a 4 mX0_find [rv a 38] S h (fun v S' h' => v = none ∧ S = S' ∧ FC h' P ∧ Fr [39, 40] h h') := by
  obtain ⟨hV1, hV2, hV3⟩ := id hV
  have hns := nSt_le hV
  have hO := mo_3 hS
  refine met_of (by decide +kernel) (Nat.le_of_ble_eq_true rfl) ?_
  show T a 4 mX0_find 0 [(0, rv a 38)] [] S h _
  refine tr_aload_n (pc := 0) 0 dX0_find_0 rfl rfl ?_
  refine tr_getR (pc := 1) (q := 35) dX0_find_1 (hS.1 38 (3, 5) rfl) fi_X0_26 rfl (hS.2 38 2 35 rfl) ?_
  refine tr_aload_n (pc := 4) 0 dX0_find_4 rfl rfl ?_
  refine tr_getR (pc := 5) (q := 35) dX0_find_5 (hS.1 38 (3, 5) rfl) fi_X0_26 rfl (hS.2 38 2 35 rfl) ?_
  refine tr_callV (pc := 8) (rest := [rv a 35]) (ci := 1) dX0_find_8 ml_X0_44 cv_X1_inOpenPlace rfl rfl (Nat.le_of_ble_eq_true rfl) (hS.1 35 (4, 6) rfl) rfl (by decide) (c_inOpen hS hM) ?_
  rintro _ _ _ ⟨rfl, rfl, rfl⟩
  show T a 4 mX0_find 11 [(0, rv a 38)] [.int (mayV P 16), rv a 35] S h _
  refine tr_callV (pc := 11) (rest := []) (ci := 1) dX0_find_11 ml_X0_49 cv_X1_reachedFrom rfl rfl (Nat.le_of_ble_eq_true rfl) (hS.1 35 (4, 6) rfl) rfl (by decide) (c_reach hS hV hM hC) ?_
  rintro _ _ _ ⟨rfl, rfl, rfl⟩
  show T a 4 mX0_find 14 [(0, rv a 38)] [.int (opn P)] S h _
  refine tr_istore_n (pc := 14) (lv' := [(1, .int (opn P)), (0, rv a 38)]) dX0_find_14 rfl (by decide) rfl ?_
  refine tr_iconst (pc := 15) (v := nI 0) dX0_find_15 (by decide) ?_
  refine tr_istore_n (pc := 16) (lv' := [(2, .int (nI 0)), (1, .int (opn P)), (0, rv a 38)]) dX0_find_16 rfl (by decide) rfl ?_
  refine tr_sub (pc := 17) (lv' := [(0, rv a 38), (1, .int (opn P)), (2, .int (nI 0))]) [2, 1, 0] rfl ?_
  have L17 : ∀ (fu : Nat) (m : Nat) (h1 : Hp), P.length - m < fu → m ≤ P.length → (∀ s, s < nSt P → sM P s < m → h1 39 s = nI (fate P s)) → Fr [39, 40] h h1 → T a 4 mX0_find 17 [(0, rv a 38), (1, .int (opn P)), (2, .int (nI m))] [] S h1 (fun v S' h' => v = none ∧ S = S' ∧ FC h' P ∧ Fr [39, 40] h h') := by
    intro fu
    induction fu with
    | zero => intro m h1 hu hm hI hf1; omega
    | succ fu ih =>
      intro m h1 hu hm hI hf1
      have hC1 : SC h1 P := hC.fr hf1 (by decide) (by decide) (by decide) (by decide)
      have hMP1 : MP h1 3 P := hMP.fr hf1 (by decide) (by decide) (by decide)
      have hM1 : MC h1 (mayV P) := hM.fr hf1 (by decide) (by decide) (by decide)
      refine tr_iload_n (pc := 17) 2 dX0_find_17 rfl rfl ?_
      refine tr_aload_n (pc := 18) 0 dX0_find_18 rfl rfl ?_
      refine tr_getR (pc := 19) (q := 3) dX0_find_19 (hS.1 38 (3, 5) rfl) fi_X0_18 rfl (hS.2 38 0 3 rfl) ?_
      refine tr_callV (pc := 22) (rest := [.int (nI m)]) (ci := 2) dX0_find_22 ml_X0_52 cv_X2_count rfl rfl (Nat.le_of_ble_eq_true rfl) (hS.1 3 (5, 3) rfl) rfl (by decide) (c_count hO hMP1 hV) ?_
      rintro _ _ _ ⟨rfl, rfl, rfl⟩
      show T a 4 mX0_find 25 [(0, rv a 38), (1, .int (opn P)), (2, .int (nI m))] [.int (nI P.length), .int (nI m)] S h1 _
      refine tr_icmp_ge (pc := 25) (tgt := 68) dX0_find_25 (by decide) (nI_leI (by omega) (by omega)) (fun q25 => ?_) (fun q25 => ?_)
      · skip
        have hFO : FO h1 P := fun s hs => hI s hs (by have := (site_at hs).1; omega)
        refine tr_aload_n (pc := 68) 0 dX0_find_68 rfl rfl ?_
        refine tr_callV (pc := 69) (rest := []) (ci := 0) dX0_find_69 ml_X0_63 cv_X0_allKept rfl rfl (Nat.le_of_ble_eq_true rfl) (hS.1 38 (3, 5) rfl) rfl (by decide) (c_allKept hS hV hC1 hFO) ?_
        rintro _ _ _ ⟨rfl, rfl, rfl⟩
        show T a 4 mX0_find 72 [(0, rv a 38), (1, .int (opn P)), (2, .int (nI m))] [.int (kept P)] S h1 _
        refine tr_istore_n (pc := 72) (lv' := [(2, .int (kept P)), (0, rv a 38), (1, .int (opn P))]) dX0_find_72 rfl (by decide) rfl ?_
        refine tr_iconst (pc := 73) (v := nI 0) dX0_find_73 (by decide) ?_
        refine tr_istore_n (pc := 74) (lv' := [(3, .int (nI 0)), (2, .int (kept P)), (0, rv a 38), (1, .int (opn P))]) dX0_find_74 rfl (by decide) rfl ?_
        refine tr_sub (pc := 75) (lv' := [(0, rv a 38), (2, .int (kept P)), (3, .int (nI 0))]) [2, 1, 0] rfl ?_
        have L75 : ∀ (fu : Nat) (c : Nat) (h3 : Hp), P.length - c < fu → c ≤ P.length → (∀ j, j < c → h3 40 j = idl P j) → Fr [40] h1 h3 → T a 4 mX0_find 75 [(0, rv a 38), (2, .int (kept P)), (3, .int (nI c))] [] S h3 (fun v S' h' => v = none ∧ S = S' ∧ FC h' P ∧ Fr [39, 40] h h') := by
          intro fu
          induction fu with
          | zero => intro c h3 hu3 hc hJ hf3; omega
          | succ fu ih2 =>
            intro c h3 hu3 hc hJ hf3
            have hMP3 : MP h3 3 P := hMP1.fr hf3 (by decide) (by decide) (by decide)
            have hM3 : MC h3 (mayV P) := hM1.fr hf3 (by decide) (by decide) (by decide)
            refine tr_iload_n (pc := 75) 2 dX0_find_75 rfl rfl ?_
            refine tr_aload_n (pc := 76) 0 dX0_find_76 rfl rfl ?_
            refine tr_getR (pc := 77) (q := 3) dX0_find_77 (hS.1 38 (3, 5) rfl) fi_X0_18 rfl (hS.2 38 0 3 rfl) ?_
            refine tr_callV (pc := 80) (rest := [.int (nI c)]) (ci := 2) dX0_find_80 ml_X0_52 cv_X2_count rfl rfl (Nat.le_of_ble_eq_true rfl) (hS.1 3 (5, 3) rfl) rfl (by decide) (c_count hO hMP3 hV) ?_
            rintro _ _ _ ⟨rfl, rfl, rfl⟩
            show T a 4 mX0_find 83 [(0, rv a 38), (2, .int (kept P)), (3, .int (nI c))] [.int (nI P.length), .int (nI c)] S h3 _
            refine tr_icmp_ge (pc := 83) (tgt := 104) dX0_find_83 (by decide) (nI_leI (by omega) (by omega)) (fun q83 => ?_) (fun q83 => ?_)
            · skip
              exact tr_vret (pc := 104) dX0_find_104 rfl (⟨rfl, rfl, ⟨fun s hs => by rw [hf3 39 (by decide)]; exact hFO s hs, fun j hj => hJ j (by omega)⟩, hf1.trans (hf3.mono (by decide))⟩)
            · skip
              refine tr_aload_n (pc := 86) 0 dX0_find_86 rfl rfl ?_
              refine tr_getR (pc := 87) (q := 40) dX0_find_87 (hS.1 38 (3, 5) rfl) fi_X0_15 rfl (hS.2 38 4 40 rfl) ?_
              refine tr_iload_n (pc := 90) 2 dX0_find_90 rfl rfl ?_
              refine tr_aload_n (pc := 91) 0 dX0_find_91 rfl rfl ?_
              refine tr_iload_n (pc := 92) 2 dX0_find_92 rfl rfl ?_
              refine tr_iload_n (pc := 93) 1 dX0_find_93 rfl rfl ?_
              refine tr_callV (pc := 94) (rest := [.int (nI c), rv a 40]) (ci := 0) dX0_find_94 ml_X0_66 cv_X0_idleAmong rfl rfl (Nat.le_of_ble_eq_true rfl) (hS.1 38 (3, 5) rfl) rfl (by decide) (c_idleAmong hS hV hMP3 hM3 (by omega)) ?_
              rintro _ _ _ ⟨rfl, rfl, rfl⟩
              show T a 4 mX0_find 97 [(0, rv a 38), (2, .int (kept P)), (3, .int (nI c))] [.int (idl P c), .int (nI c), rv a 40] S h3 _
              refine tr_iast (pc := 97) c dX0_find_97 (hS.1 40 (0, 4) rfl) rfl (by omega) (by decide) ?_
              refine tr_iinc (pc := 98) (v := nI (c + 1)) (lv' := [(3, .int (nI (c + 1))), (0, rv a 38), (2, .int (kept P))]) 2 dX0_find_98 rfl (by rw [show Int32.ofInt 1 = nI 1 from by decide, nI_add]) (by decide) rfl ?_
              refine tr_goto (pc := 101) (tgt := 75) dX0_find_101 (by decide) ?_
              refine tr_sub (pc := 75) (lv' := [(0, rv a 38), (2, .int (kept P)), (3, .int (nI (c + 1)))]) [1, 2, 0] rfl ?_
              exact ih2 (c + 1) _ (by omega) (by omega) (fun j hj => by
                rw [hs_same]
                by_cases e : j = c
                · subst e; exact upd_s
                · rw [upd_n e]; exact hJ j (by omega)) (hf3.hs (by decide))
        exact L75 (P.length + 1) 0 h1 (by omega) (by omega) (fun j hj => by omega) Fr.rf
      · skip
        refine tr_aload_n (pc := 28) 0 dX0_find_28 rfl rfl ?_
        refine tr_getR (pc := 29) (q := 35) dX0_find_29 (hS.1 38 (3, 5) rfl) fi_X0_26 rfl (hS.2 38 2 35 rfl) ?_
        refine tr_aload_n (pc := 32) 0 dX0_find_32 rfl rfl ?_
        refine tr_getR (pc := 33) (q := 35) dX0_find_33 (hS.1 38 (3, 5) rfl) fi_X0_26 rfl (hS.2 38 2 35 rfl) ?_
        refine tr_iload_n (pc := 36) 2 dX0_find_36 rfl rfl ?_
        refine tr_iconst (pc := 37) (v := nI 0) dX0_find_37 (by decide) ?_
        refine tr_callV (pc := 38) (rest := [rv a 35]) (ci := 1) dX0_find_38 ml_X0_55 cv_X1_inName rfl rfl (Nat.le_of_ble_eq_true rfl) (hS.1 35 (4, 6) rfl) rfl (by decide) (c_inName hS hM1 (by omega) (show 0 < 4 by decide)) ?_
        rintro _ _ _ ⟨rfl, rfl, rfl⟩
        show T a 4 mX0_find 41 [(0, rv a 38), (1, .int (opn P)), (2, .int (nI m))] [.int (mayV P (4 * m + 0)), rv a 35] S h1 _
        refine tr_aload_n (pc := 41) 0 dX0_find_41 rfl rfl ?_
        refine tr_getR (pc := 42) (q := 35) dX0_find_42 (hS.1 38 (3, 5) rfl) fi_X0_26 rfl (hS.2 38 2 35 rfl) ?_
        refine tr_iload_n (pc := 45) 2 dX0_find_45 rfl rfl ?_
        refine tr_iconst (pc := 46) (v := nI 3) dX0_find_46 (by decide) ?_
        refine tr_callV (pc := 47) (rest := [.int (mayV P (4 * m + 0)), rv a 35]) (ci := 1) dX0_find_47 ml_X0_55 cv_X1_inName rfl rfl (Nat.le_of_ble_eq_true rfl) (hS.1 35 (4, 6) rfl) rfl (by decide) (c_inName hS hM1 (by omega) (show 3 < 4 by decide)) ?_
        rintro _ _ _ ⟨rfl, rfl, rfl⟩
        show T a 4 mX0_find 50 [(0, rv a 38), (1, .int (opn P)), (2, .int (nI m))] [.int (mayV P (4 * m + 3)), .int (mayV P (4 * m + 0)), rv a 35] S h1 _
        refine tr_ior (pc := 50) (v := (mayV P (4 * m + 0)) ||| (mayV P (4 * m + 3))) dX0_find_50 rfl ?_
        refine tr_callV (pc := 51) (rest := []) (ci := 1) dX0_find_51 ml_X0_49 cv_X1_reachedFrom rfl rfl (Nat.le_of_ble_eq_true rfl) (hS.1 35 (4, 6) rfl) rfl (by decide) (c_reach hS hV hM1 hC1) ?_
        rintro _ _ _ ⟨rfl, rfl, rfl⟩
        show T a 4 mX0_find 54 [(0, rv a 38), (1, .int (opn P)), (2, .int (nI m))] [.int (outS P m)] S h1 _
        refine tr_istore_n (pc := 54) (lv' := [(3, .int (outS P m)), (0, rv a 38), (1, .int (opn P)), (2, .int (nI m))]) dX0_find_54 rfl (by decide) rfl ?_
        refine tr_aload_n (pc := 55) 1 dX0_find_55 rfl rfl ?_
        refine tr_iload_n (pc := 56) 3 dX0_find_56 rfl rfl ?_
        refine tr_iload_n (pc := 57) 2 dX0_find_57 rfl rfl ?_
        refine tr_iload_n (pc := 58) 0 dX0_find_58 rfl rfl ?_
        refine tr_callV (pc := 59) (rest := []) (ci := 0) dX0_find_59 ml_X0_59 cv_X0_giveFates rfl rfl (Nat.le_of_ble_eq_true rfl) (hS.1 38 (3, 5) rfl) rfl (by decide) (c_giveFates hS hV hC1 (by omega)) ?_
        rintro v1 S1 h2 ⟨rfl, rfl, hG, hf2⟩
        show T a 4 mX0_find 62 [(3, .int (outS P m)), (0, rv a 38), (1, .int (opn P)), (2, .int (nI m))] [] S h2 _
        refine tr_iinc (pc := 62) (v := nI (m + 1)) (lv' := [(2, .int (nI (m + 1))), (3, .int (outS P m)), (0, rv a 38), (1, .int (opn P))]) 3 dX0_find_62 rfl (by rw [show Int32.ofInt 1 = nI 1 from by decide, nI_add]) (by decide) rfl ?_
        refine tr_goto (pc := 65) (tgt := 17) dX0_find_65 (by decide) ?_
        refine tr_sub (pc := 17) (lv' := [(0, rv a 38), (1, .int (opn P)), (2, .int (nI (m + 1)))]) [2, 3, 0] rfl ?_
        exact ih (m + 1) h2 (by omega) (by omega) (fun s hs hsm => by
          by_cases e : sM P s = m
          · exact (hG s hs).1 e
          · rw [(hG s hs).2 e]; exact hI s hs (by omega)) (hf1.trans (hf2.mono (by decide)))
  exact L17 (P.length + 1) 0 h (by omega) (by omega) (fun s hs a => by omega) Fr.rf

set_option maxHeartbeats 4000000 in
set_option maxRecDepth 100000 in
theorem c_mfate {a : Am} {S : St} {h : Hp} (hS : IsSt S) {P : Prog} (hV : VB P) (hN : NP h P) (hSN : SN h P) (hM : MN h (mayV P, false)) {s : Nat} (hs : s < nSt P) : CT a 3 mX10_fateOf [rv a 50, .int (nI s)] S h (Rt (nI (fate P s)) S h) := by
  obtain ⟨hV1, hV2, hV3⟩ := id hV
  have hns := nSt_le hV
  have hsm := (site_at hs).1
  refine met_of (by decide +kernel) (Nat.le_of_ble_eq_true rfl) ?_
  show T a 3 mX10_fateOf 0 [(0, rv a 50), (1, .int (nI s))] [] S h _
  refine tr_aload_n (pc := 0) 0 dX10_fateOf_0 rfl rfl ?_
  refine tr_getR (pc := 1) (q := 58) dX10_fateOf_1 (hS.1 50 (13, 45) rfl) fi_X10_31 rfl (hS.2 50 17 58 rfl) ?_
  refine tr_iload_n (pc := 4) 1 dX10_fateOf_4 rfl rfl ?_
  refine tr_iald (pc := 5) (v := nI (sM P s)) s dX10_fateOf_5 (hS.1 58 (0, 32) rfl) rfl (by omega) (by decide) (hSN.2.1 s hs).1 ?_
  refine tr_istore_n (pc := 6) (lv' := [(2, .int (nI (sM P s))), (0, rv a 50), (1, .int (nI s))]) dX10_fateOf_6 rfl (by decide) rfl ?_
  refine tr_aload_n (pc := 7) 1 dX10_fateOf_7 rfl rfl ?_
  refine tr_aload_n (pc := 8) 1 dX10_fateOf_8 rfl rfl ?_
  refine tr_getR (pc := 9) (q := 61) dX10_fateOf_9 (hS.1 50 (13, 45) rfl) fi_X10_40 rfl (hS.2 50 21 61 rfl) ?_
  refine tr_bipush (pc := 12) (v := nI 16) dX10_fateOf_12 (by decide) ?_
  refine tr_iald (pc := 14) (v := mayV P 16) 16 dX10_fateOf_14 (hS.1 61 (0, 49) rfl) rfl (by omega) (by decide) (hM.1 16 (by decide)) ?_
  refine tr_callV (pc := 15) (rest := []) (ci := 10) dX10_fateOf_15 ml_X10_202 cv_X10_reachedFrom rfl rfl (Nat.le_of_ble_eq_true rfl) (hS.1 50 (13, 45) rfl) rfl (by decide) (c_mreach hS hV hSN hM) ?_
  rintro _ _ _ ⟨rfl, rfl, rfl⟩
  show T a 3 mX10_fateOf 18 [(2, .int (nI (sM P s))), (0, rv a 50), (1, .int (nI s))] [.int (opn P)] S h _
  refine tr_iload_n (pc := 18) 2 dX10_fateOf_18 rfl rfl ?_
  cases ht1 : tb (opn P) s with
  | true => ?_
  | false => ?_
  · skip
    refine tr_callS (pc := 19) (rest := []) dX10_fateOf_19 ml_X10_186 cs_X10_has rfl rfl (Nat.le_of_ble_eq_true rfl) (by decide) (c_mhas_y ht1) ?_
    rintro _ _ _ ⟨rfl, rfl, rfl⟩
    show T a 3 mX10_fateOf 22 [(2, .int (nI (sM P s))), (0, rv a 50), (1, .int (nI s))] [.int (nI 1)] S h _
    refine tr_if_eq (pc := 22) (tgt := 29) dX10_fateOf_22 (by decide) (nI_z_eq (by omega)) (fun hcc => absurd hcc (by decide)) (fun _ => ?_)
    refine tr_iconst (pc := 25) (v := nI 2) dX10_fateOf_25 (by decide) ?_
    refine tr_goto (pc := 26) (tgt := 64) dX10_fateOf_26 (by decide) ?_
    exact tr_iret (pc := 64) dX10_fateOf_64 rfl rfl (by
        unfold fate; rw [ht1]; exact ⟨rfl, rfl, rfl⟩)
  · skip
    refine tr_callS (pc := 19) (rest := []) dX10_fateOf_19 ml_X10_186 cs_X10_has rfl rfl (Nat.le_of_ble_eq_true rfl) (by decide) (c_mhas_n ht1) ?_
    rintro _ _ _ ⟨rfl, rfl, rfl⟩
    show T a 3 mX10_fateOf 22 [(2, .int (nI (sM P s))), (0, rv a 50), (1, .int (nI s))] [.int (nI 0)] S h _
    refine tr_if_eq (pc := 22) (tgt := 29) dX10_fateOf_22 (by decide) (nI_z_eq (by omega)) (fun _ => ?_) (fun hcc => absurd (by decide) hcc)
    refine tr_aload_n (pc := 29) 1 dX10_fateOf_29 rfl rfl ?_
    refine tr_aload_n (pc := 30) 1 dX10_fateOf_30 rfl rfl ?_
    refine tr_getR (pc := 31) (q := 61) dX10_fateOf_31 (hS.1 50 (13, 45) rfl) fi_X10_40 rfl (hS.2 50 21 61 rfl) ?_
    refine tr_iconst (pc := 34) (v := nI 4) dX10_fateOf_34 (by decide) ?_
    refine tr_iload_n (pc := 35) 0 dX10_fateOf_35 rfl rfl ?_
    refine tr_imul (pc := 36) (v := nI (4 * (sM P s))) dX10_fateOf_36 (pk_mul _ _) ?_
    refine tr_iald (pc := 37) (v := mayV P (4 * sM P s)) (4 * (sM P s)) dX10_fateOf_37 (hS.1 61 (0, 49) rfl) rfl (by omega) (by decide) (hM.1 (4 * sM P s) (by omega)) ?_
    refine tr_aload_n (pc := 38) 1 dX10_fateOf_38 rfl rfl ?_
    refine tr_getR (pc := 39) (q := 61) dX10_fateOf_39 (hS.1 50 (13, 45) rfl) fi_X10_40 rfl (hS.2 50 21 61 rfl) ?_
    refine tr_iconst (pc := 42) (v := nI 4) dX10_fateOf_42 (by decide) ?_
    refine tr_iload_n (pc := 43) 0 dX10_fateOf_43 rfl rfl ?_
    refine tr_imul (pc := 44) (v := nI (4 * (sM P s))) dX10_fateOf_44 (pk_mul _ _) ?_
    refine tr_iconst (pc := 45) (v := nI 3) dX10_fateOf_45 (by decide) ?_
    refine tr_iadd (pc := 46) (v := nI (4 * (sM P s) + 3)) dX10_fateOf_46 (nI_add _ _) ?_
    refine tr_iald (pc := 47) (v := mayV P (4 * sM P s + 3)) (4 * (sM P s) + 3) dX10_fateOf_47 (hS.1 61 (0, 49) rfl) rfl (by omega) (by decide) (hM.1 (4 * sM P s + 3) (by omega)) ?_
    refine tr_ior (pc := 48) (v := (mayV P (4 * sM P s)) ||| (mayV P (4 * sM P s + 3))) dX10_fateOf_48 rfl ?_
    refine tr_callV (pc := 49) (rest := []) (ci := 10) dX10_fateOf_49 ml_X10_202 cv_X10_reachedFrom rfl rfl (Nat.le_of_ble_eq_true rfl) (hS.1 50 (13, 45) rfl) rfl (by decide) (c_mreach hS hV hSN hM) ?_
    rintro _ _ _ ⟨rfl, rfl, rfl⟩
    show T a 3 mX10_fateOf 52 [(2, .int (nI (sM P s))), (0, rv a 50), (1, .int (nI s))] [.int (outS P (sM P s))] S h _
    refine tr_iload_n (pc := 52) 2 dX10_fateOf_52 rfl rfl ?_
    cases ht2 : tb (outS P (sM P s)) s with
    | true => ?_
    | false => ?_
    · skip
      refine tr_callS (pc := 53) (rest := []) dX10_fateOf_53 ml_X10_186 cs_X10_has rfl rfl (Nat.le_of_ble_eq_true rfl) (by decide) (c_mhas_y ht2) ?_
      rintro _ _ _ ⟨rfl, rfl, rfl⟩
      show T a 3 mX10_fateOf 56 [(2, .int (nI (sM P s))), (0, rv a 50), (1, .int (nI s))] [.int (nI 1)] S h _
      refine tr_if_eq (pc := 56) (tgt := 63) dX10_fateOf_56 (by decide) (nI_z_eq (by omega)) (fun hcc => absurd hcc (by decide)) (fun _ => ?_)
      refine tr_iconst (pc := 59) (v := nI 1) dX10_fateOf_59 (by decide) ?_
      refine tr_goto (pc := 60) (tgt := 64) dX10_fateOf_60 (by decide) ?_
      exact tr_iret (pc := 64) dX10_fateOf_64 rfl rfl (by
          unfold fate; rw [ht1, ht2]; exact ⟨rfl, rfl, rfl⟩)
    · skip
      refine tr_callS (pc := 53) (rest := []) dX10_fateOf_53 ml_X10_186 cs_X10_has rfl rfl (Nat.le_of_ble_eq_true rfl) (by decide) (c_mhas_n ht2) ?_
      rintro _ _ _ ⟨rfl, rfl, rfl⟩
      show T a 3 mX10_fateOf 56 [(2, .int (nI (sM P s))), (0, rv a 50), (1, .int (nI s))] [.int (nI 0)] S h _
      refine tr_if_eq (pc := 56) (tgt := 63) dX10_fateOf_56 (by decide) (nI_z_eq (by omega)) (fun _ => ?_) (fun hcc => absurd (by decide) hcc)
      refine tr_iconst (pc := 63) (v := nI 0) dX10_fateOf_63 (by decide) ?_
      exact tr_iret (pc := 64) dX10_fateOf_64 rfl rfl (by
          unfold fate; rw [ht1, ht2]; exact ⟨rfl, rfl, rfl⟩)

set_option maxHeartbeats 4000000 in
set_option maxRecDepth 100000 in
theorem c_mfated {a : Am} {S : St} {h : Hp} (hS : IsSt S) {P : Prog} (hV : VB P) (hN : NP h P) (hSN : SN h P) (hM : MN h (mayV P, false)) {f : Nat} (hf : f < 3) : CT a 4 mX10_fated [rv a 50, .int (nI f)] S h (Rt (fatB P f (nSt P)) S h) := by
  obtain ⟨hV1, hV2, hV3⟩ := id hV
  have hns := nSt_le hV
  refine met_of (by decide +kernel) (Nat.le_of_ble_eq_true rfl) ?_
  show T a 4 mX10_fated 0 [(0, rv a 50), (1, .int (nI f))] [] S h _
  refine tr_iconst (pc := 0) (v := nI 0) dX10_fated_0 (by decide) ?_
  refine tr_istore_n (pc := 1) (lv' := [(2, .int (nI 0)), (0, rv a 50), (1, .int (nI f))]) dX10_fated_1 rfl (by decide) rfl ?_
  refine tr_iconst (pc := 2) (v := nI 0) dX10_fated_2 (by decide) ?_
  refine tr_istore_n (pc := 3) (lv' := [(3, .int (nI 0)), (2, .int (nI 0)), (0, rv a 50), (1, .int (nI f))]) dX10_fated_3 rfl (by decide) rfl ?_
  refine tr_sub (pc := 4) (lv' := [(0, rv a 50), (1, .int (nI f)), (2, .int (nI 0)), (3, .int (nI 0))]) [2, 3, 1, 0] rfl ?_
  have L4 : ∀ (fu : Nat) (s : Nat), nSt P - s < fu → s ≤ nSt P → T a 4 mX10_fated 4 [(0, rv a 50), (1, .int (nI f)), (2, .int (fatB P f s)), (3, .int (nI s))] [] S h (Rt (fatB P f (nSt P)) S h) := by
    intro fu
    induction fu with
    | zero => intro s hu hs; omega
    | succ fu ih =>
      intro s hu hs
      refine tr_iload_n (pc := 4) 3 dX10_fated_4 rfl rfl ?_
      refine tr_aload_n (pc := 5) 0 dX10_fated_5 rfl rfl ?_
      refine tr_getI (pc := 6) (x := nI (nSt P)) dX10_fated_6 (hS.1 50 (13, 45) rfl) fi_X10_175 rfl hSN.1 ?_
      refine tr_icmp_ge (pc := 9) (tgt := 37) dX10_fated_9 (by decide) (nI_leI (by omega) (by omega)) (fun q9 => ?_) (fun q9 => ?_)
      · skip
        refine tr_iload_n (pc := 37) 2 dX10_fated_37 rfl rfl ?_
        exact tr_iret (pc := 38) dX10_fated_38 rfl rfl (by
            rw [show nSt P = s by omega]; exact ⟨rfl, rfl, rfl⟩)
      · skip
        have hfl := fate_lt P s
        refine tr_iload_n (pc := 12) 2 dX10_fated_12 rfl rfl ?_
        refine tr_aload_n (pc := 13) 0 dX10_fated_13 rfl rfl ?_
        refine tr_iload_n (pc := 14) 3 dX10_fated_14 rfl rfl ?_
        refine tr_callV (pc := 15) (rest := [.int (fatB P f s)]) (ci := 10) dX10_fated_15 ml_X10_205 cv_X10_fateOf rfl rfl (Nat.le_of_ble_eq_true rfl) (hS.1 50 (13, 45) rfl) rfl (by decide) (c_mfate hS hV hN hSN hM (by omega)) ?_
        rintro _ _ _ ⟨rfl, rfl, rfl⟩
        show T a 4 mX10_fated 18 [(0, rv a 50), (1, .int (nI f)), (2, .int (fatB P f s)), (3, .int (nI s))] [.int (nI (fate P s)), .int (fatB P f s)] S h _
        refine tr_iload_n (pc := 18) 1 dX10_fated_18 rfl rfl ?_
        refine tr_icmp_ne (pc := 19) (tgt := 28) dX10_fated_19 (by decide) (nI_eq (by omega) (by omega)) (fun q19 => ?_) (fun q19 => ?_)
        · skip
          refine tr_iconst (pc := 28) (v := nI 0) dX10_fated_28 (by decide) ?_
          refine tr_ior (pc := 29) (v := (fatB P f s) ||| (nI 0)) dX10_fated_29 rfl ?_
          refine tr_istore_n (pc := 30) (lv' := [(2, .int ((fatB P f s) ||| (nI 0))), (0, rv a 50), (1, .int (nI f)), (3, .int (nI s))]) dX10_fated_30 rfl (by decide) rfl ?_
          refine tr_iinc (pc := 31) (v := nI (s + 1)) (lv' := [(3, .int (nI (s + 1))), (2, .int ((fatB P f s) ||| (nI 0))), (0, rv a 50), (1, .int (nI f))]) 3 dX10_fated_31 rfl (by rw [show Int32.ofInt 1 = nI 1 from by decide, nI_add]) (by decide) rfl ?_
          refine tr_goto (pc := 34) (tgt := 4) dX10_fated_34 (by decide) ?_
          refine tr_sub (pc := 4) (lv' := [(0, rv a 50), (1, .int (nI f)), (2, .int ((fatB P f s) ||| (nI 0))), (3, .int (nI (s + 1)))]) [2, 3, 1, 0] rfl ?_
          have e1 : (fatB P f s) ||| (nI 0) = fatB P f (s + 1) := by simp only [fatB]; simp [q19, or_0]
          rw [e1]
          exact ih (s + 1) (by omega) (by omega)
        · skip
          refine tr_iconst (pc := 22) (v := nI 1) dX10_fated_22 (by decide) ?_
          refine tr_iload_n (pc := 23) 3 dX10_fated_23 rfl rfl ?_
          refine tr_ishl (pc := 24) (v := (nI 1) <<< (nI s &&& 31)) dX10_fated_24 rfl ?_
          refine tr_goto (pc := 25) (tgt := 29) dX10_fated_25 (by decide) ?_
          refine tr_ior (pc := 29) (v := (fatB P f s) ||| ((nI 1) <<< (nI s &&& 31))) dX10_fated_29 rfl ?_
          refine tr_istore_n (pc := 30) (lv' := [(2, .int ((fatB P f s) ||| ((nI 1) <<< (nI s &&& 31)))), (0, rv a 50), (1, .int (nI f)), (3, .int (nI s))]) dX10_fated_30 rfl (by decide) rfl ?_
          refine tr_iinc (pc := 31) (v := nI (s + 1)) (lv' := [(3, .int (nI (s + 1))), (2, .int ((fatB P f s) ||| ((nI 1) <<< (nI s &&& 31)))), (0, rv a 50), (1, .int (nI f))]) 3 dX10_fated_31 rfl (by rw [show Int32.ofInt 1 = nI 1 from by decide, nI_add]) (by decide) rfl ?_
          refine tr_goto (pc := 34) (tgt := 4) dX10_fated_34 (by decide) ?_
          refine tr_sub (pc := 4) (lv' := [(0, rv a 50), (1, .int (nI f)), (2, .int ((fatB P f s) ||| ((nI 1) <<< (nI s &&& 31)))), (3, .int (nI (s + 1)))]) [2, 3, 1, 0] rfl ?_
          have e1 : (fatB P f s) ||| ((nI 1) <<< (nI s &&& 31)) = fatB P f (s + 1) := by simp only [fatB]; simp [q19, or_0]
          rw [e1]
          exact ih (s + 1) (by omega) (by omega)
  exact L4 (nSt P + 1) 0 (by omega) (by omega)

set_option maxHeartbeats 4000000 in
set_option maxRecDepth 100000 in
theorem c_midle {a : Am} {S : St} {h : Hp} (hS : IsSt S) {P : Prog} (hV : VB P) (hN : NP h P) (hSN : SN h P) (hM : MN h (mayV P, false)) {m : Nat} (hm : m < P.length) : CT a 5 mX10_idleOf [rv a 50, .int (nI m)] S h (Rt (idl P m) S h) := by
  obtain ⟨hV1, hV2, hV3⟩ := id hV
  have hns := nSt_le hV
  have h8 := hV2 m
  refine met_of (by decide +kernel) (Nat.le_of_ble_eq_true rfl) ?_
  show T a 5 mX10_idleOf 0 [(0, rv a 50), (1, .int (nI m))] [] S h _
  refine tr_aload_n (pc := 0) 0 dX10_idleOf_0 rfl rfl ?_
  refine tr_iconst (pc := 1) (v := nI 0) dX10_idleOf_1 (by decide) ?_
  refine tr_callV (pc := 2) (rest := []) (ci := 10) dX10_idleOf_2 ml_X10_208 cv_X10_fated rfl rfl (Nat.le_of_ble_eq_true rfl) (hS.1 50 (13, 45) rfl) rfl (by decide) (c_mfated hS hV hN hSN hM (show 0 < 3 by decide)) ?_
  rintro _ _ _ ⟨rfl, rfl, rfl⟩
  show T a 5 mX10_idleOf 5 [(0, rv a 50), (1, .int (nI m))] [.int (kept P)] S h _
  refine tr_istore_n (pc := 5) (lv' := [(2, .int (kept P)), (0, rv a 50), (1, .int (nI m))]) dX10_idleOf_5 rfl (by decide) rfl ?_
  refine tr_iconst (pc := 6) (v := nI 0) dX10_idleOf_6 (by decide) ?_
  refine tr_istore_n (pc := 7) (lv' := [(3, .int (nI 0)), (2, .int (kept P)), (0, rv a 50), (1, .int (nI m))]) dX10_idleOf_7 rfl (by decide) rfl ?_
  refine tr_iconst (pc := 8) (v := nI 0) dX10_idleOf_8 (by decide) ?_
  refine tr_istore (pc := 9) (lv' := [(4, .int (nI 0)), (3, .int (nI 0)), (2, .int (kept P)), (0, rv a 50), (1, .int (nI m))]) dX10_idleOf_9 (by decide) rfl ?_
  refine tr_sub (pc := 11) (lv' := [(0, rv a 50), (1, .int (nI m)), (2, .int (kept P)), (3, .int (nI 0)), (4, .int (nI 0))]) [3, 4, 2, 1, 0] rfl ?_
  have L11 : ∀ (fu : Nat) (i : Nat), lnN P m - i < fu → i ≤ lnN P m → T a 5 mX10_idleOf 11 [(0, rv a 50), (1, .int (nI m)), (2, .int (kept P)), (3, .int (idlB P m i)), (4, .int (nI i))] [] S h (Rt (idl P m) S h) := by
    intro fu
    induction fu with
    | zero => intro i hu hi; omega
    | succ fu ih =>
      intro i hu hi
      refine tr_iload (pc := 11) 4 dX10_idleOf_11 rfl ?_
      refine tr_aload_n (pc := 13) 0 dX10_idleOf_13 rfl rfl ?_
      refine tr_iload_n (pc := 14) 1 dX10_idleOf_14 rfl rfl ?_
      refine tr_callV (pc := 15) (rest := [.int (nI i)]) (ci := 10) dX10_idleOf_15 ml_X10_168 cv_X10_linesOf rfl rfl (Nat.le_of_ble_eq_true rfl) (hS.1 50 (13, 45) rfl) rfl (by decide) (c_mlines hS hV hN hm) ?_
      rintro _ _ _ ⟨rfl, rfl, rfl⟩
      show T a 5 mX10_idleOf 18 [(0, rv a 50), (1, .int (nI m)), (2, .int (kept P)), (3, .int (idlB P m i)), (4, .int (nI i))] [.int (nI (lnN P m)), .int (nI i)] S h _
      refine tr_icmp_ge (pc := 18) (tgt := 101) dX10_idleOf_18 (by decide) (nI_leI (by omega) (by omega)) (fun q18 => ?_) (fun q18 => ?_)
      · skip
        refine tr_iload_n (pc := 101) 3 dX10_idleOf_101 rfl rfl ?_
        exact tr_iret (pc := 102) dX10_idleOf_102 rfl rfl (by
            unfold idl; rw [show lnN P m = i by omega]; exact ⟨rfl, rfl, rfl⟩)
      · skip
        have hil : i < lnN P m := by omega
        have hok := hV3 m i hil
        obtain ⟨k1, k2, k3, k4⟩ := id hok
        refine tr_aload_n (pc := 21) 0 dX10_idleOf_21 rfl rfl ?_
        refine tr_getR (pc := 22) (q := 61) dX10_idleOf_22 (hS.1 50 (13, 45) rfl) fi_X10_40 rfl (hS.2 50 21 61 rfl) ?_
        refine tr_iconst (pc := 25) (v := nI 4) dX10_idleOf_25 (by decide) ?_
        refine tr_iload_n (pc := 26) 1 dX10_idleOf_26 rfl rfl ?_
        refine tr_imul (pc := 27) (v := nI (4 * m)) dX10_idleOf_27 (pk_mul _ _) ?_
        refine tr_aload_n (pc := 28) 0 dX10_idleOf_28 rfl rfl ?_
        refine tr_iload_n (pc := 29) 1 dX10_idleOf_29 rfl rfl ?_
        refine tr_iload (pc := 30) 4 dX10_idleOf_30 rfl ?_
        refine tr_iconst (pc := 32) (v := nI 0) dX10_idleOf_32 (by decide) ?_
        refine tr_callV (pc := 33) (rest := [.int (nI (4 * m)), rv a 61]) (ci := 10) dX10_idleOf_33 ml_X10_178 cv_X10_lineAt rfl rfl (Nat.le_of_ble_eq_true rfl) (hS.1 50 (13, 45) rfl) rfl (by decide) (c_mline hS hV hN hil (show 0 < 4 by decide)) ?_
        rintro _ _ _ ⟨rfl, rfl, rfl⟩
        show T a 5 mX10_idleOf 36 [(0, rv a 50), (1, .int (nI m)), (2, .int (kept P)), (3, .int (idlB P m i)), (4, .int (nI i))] [.int (nI ((gt P m i).1)), .int (nI (4 * m)), rv a 61] S h _
        refine tr_bipush (pc := 36) (v := nI 6) dX10_idleOf_36 (by decide) ?_
        refine tr_icmp_ne (pc := 38) (tgt := 52) dX10_idleOf_38 (by decide) (nI_eq (by omega) (by omega)) (fun q38 => ?_) (fun q38 => ?_)
        · skip
          refine tr_iconst (pc := 52) (v := nI 0) dX10_idleOf_52 (by decide) ?_
          refine tr_iadd (pc := 53) (v := nI (4 * m + 0)) dX10_idleOf_53 (nI_add _ _) ?_
          refine tr_iald (pc := 54) (v := mayV P (4 * m + 0)) (4 * m + 0) dX10_idleOf_54 (hS.1 61 (0, 49) rfl) rfl (by omega) (by decide) (hM.1 (4 * m + 0) (by omega)) ?_
          refine tr_istore (pc := 55) (lv' := [(5, .int (mayV P (4 * m + 0))), (0, rv a 50), (1, .int (nI m)), (2, .int (kept P)), (3, .int (idlB P m i)), (4, .int (nI i))]) dX10_idleOf_55 (by decide) rfl ?_
          refine tr_iload_n (pc := 57) 4 dX10_idleOf_57 rfl rfl ?_
          refine tr_aload_n (pc := 58) 1 dX10_idleOf_58 rfl rfl ?_
          refine tr_iload_n (pc := 59) 2 dX10_idleOf_59 rfl rfl ?_
          refine tr_iload (pc := 60) 5 dX10_idleOf_60 rfl ?_
          refine tr_iconst (pc := 62) (v := nI 0) dX10_idleOf_62 (by decide) ?_
          refine tr_callV (pc := 63) (rest := [.int (idlB P m i)]) (ci := 10) dX10_idleOf_63 ml_X10_178 cv_X10_lineAt rfl rfl (Nat.le_of_ble_eq_true rfl) (hS.1 50 (13, 45) rfl) rfl (by decide) (c_mline hS hV hN hil (show 0 < 4 by decide)) ?_
          rintro _ _ _ ⟨rfl, rfl, rfl⟩
          show T a 5 mX10_idleOf 66 [(5, .int (mayV P (4 * m + 0))), (0, rv a 50), (1, .int (nI m)), (2, .int (kept P)), (3, .int (idlB P m i)), (4, .int (nI i))] [.int (nI ((gt P m i).1)), .int (idlB P m i)] S h _
          refine tr_bipush (pc := 66) (v := nI 6) dX10_idleOf_66 (by decide) ?_
          refine tr_icmp_ne (pc := 68) (tgt := 92) dX10_idleOf_68 (by decide) (nI_eq (by omega) (by omega)) (fun _ => ?_) (fun hcc => absurd hcc (q38))
          refine tr_iconst (pc := 92) (v := nI 0) dX10_idleOf_92 (by decide) ?_
          refine tr_ior (pc := 93) (v := (idlB P m i) ||| (nI 0)) dX10_idleOf_93 rfl ?_
          refine tr_istore_n (pc := 94) (lv' := [(3, .int ((idlB P m i) ||| (nI 0))), (5, .int (mayV P (4 * m + 0))), (0, rv a 50), (1, .int (nI m)), (2, .int (kept P)), (4, .int (nI i))]) dX10_idleOf_94 rfl (by decide) rfl ?_
          refine tr_iinc (pc := 95) (v := nI (i + 1)) (lv' := [(4, .int (nI (i + 1))), (3, .int ((idlB P m i) ||| (nI 0))), (5, .int (mayV P (4 * m + 0))), (0, rv a 50), (1, .int (nI m)), (2, .int (kept P))]) 5 dX10_idleOf_95 rfl (by rw [show Int32.ofInt 1 = nI 1 from by decide, nI_add]) (by decide) rfl ?_
          refine tr_goto (pc := 98) (tgt := 11) dX10_idleOf_98 (by decide) ?_
          refine tr_sub (pc := 11) (lv' := [(0, rv a 50), (1, .int (nI m)), (2, .int (kept P)), (3, .int ((idlB P m i) ||| (nI 0))), (4, .int (nI (i + 1)))]) [3, 4, 5, 1, 0] rfl ?_
          have e1 : (idlB P m i) ||| (nI 0) = idlB P m (i + 1) := by simp only [idlB]; rw [if_neg (fun z => q38 z.1), or_0]
          rw [e1]
          exact ih (i + 1) (by omega) (by omega)
        · skip
          refine tr_aload_n (pc := 41) 0 dX10_idleOf_41 rfl rfl ?_
          refine tr_iload_n (pc := 42) 1 dX10_idleOf_42 rfl rfl ?_
          refine tr_iload (pc := 43) 4 dX10_idleOf_43 rfl ?_
          refine tr_iconst (pc := 45) (v := nI 1) dX10_idleOf_45 (by decide) ?_
          refine tr_callV (pc := 46) (rest := [.int (nI (4 * m)), rv a 61]) (ci := 10) dX10_idleOf_46 ml_X10_178 cv_X10_lineAt rfl rfl (Nat.le_of_ble_eq_true rfl) (hS.1 50 (13, 45) rfl) rfl (by decide) (c_mline hS hV hN hil (show 1 < 4 by decide)) ?_
          rintro _ _ _ ⟨rfl, rfl, rfl⟩
          show T a 5 mX10_idleOf 49 [(0, rv a 50), (1, .int (nI m)), (2, .int (kept P)), (3, .int (idlB P m i)), (4, .int (nI i))] [.int (nI ((gt P m i).2.1)), .int (nI (4 * m)), rv a 61] S h _
          refine tr_goto (pc := 49) (tgt := 53) dX10_idleOf_49 (by decide) ?_
          refine tr_iadd (pc := 53) (v := nI (4 * m + ((gt P m i).2.1))) dX10_idleOf_53 (nI_add _ _) ?_
          refine tr_iald (pc := 54) (v := mayV P (4 * m + (gt P m i).2.1)) (4 * m + ((gt P m i).2.1)) dX10_idleOf_54 (hS.1 61 (0, 49) rfl) rfl (by omega) (by decide) (hM.1 (4 * m + (gt P m i).2.1) (by omega)) ?_
          refine tr_istore (pc := 55) (lv' := [(5, .int (mayV P (4 * m + (gt P m i).2.1))), (0, rv a 50), (1, .int (nI m)), (2, .int (kept P)), (3, .int (idlB P m i)), (4, .int (nI i))]) dX10_idleOf_55 (by decide) rfl ?_
          refine tr_iload_n (pc := 57) 4 dX10_idleOf_57 rfl rfl ?_
          refine tr_aload_n (pc := 58) 1 dX10_idleOf_58 rfl rfl ?_
          refine tr_iload_n (pc := 59) 2 dX10_idleOf_59 rfl rfl ?_
          refine tr_iload (pc := 60) 5 dX10_idleOf_60 rfl ?_
          refine tr_iconst (pc := 62) (v := nI 0) dX10_idleOf_62 (by decide) ?_
          refine tr_callV (pc := 63) (rest := [.int (idlB P m i)]) (ci := 10) dX10_idleOf_63 ml_X10_178 cv_X10_lineAt rfl rfl (Nat.le_of_ble_eq_true rfl) (hS.1 50 (13, 45) rfl) rfl (by decide) (c_mline hS hV hN hil (show 0 < 4 by decide)) ?_
          rintro _ _ _ ⟨rfl, rfl, rfl⟩
          show T a 5 mX10_idleOf 66 [(5, .int (mayV P (4 * m + (gt P m i).2.1))), (0, rv a 50), (1, .int (nI m)), (2, .int (kept P)), (3, .int (idlB P m i)), (4, .int (nI i))] [.int (nI ((gt P m i).1)), .int (idlB P m i)] S h _
          refine tr_bipush (pc := 66) (v := nI 6) dX10_idleOf_66 (by decide) ?_
          refine tr_icmp_ne (pc := 68) (tgt := 92) dX10_idleOf_68 (by decide) (nI_eq (by omega) (by omega)) (fun hcc => absurd (q38) hcc) (fun _ => ?_)
          refine tr_iload (pc := 71) 0 dX10_idleOf_71 rfl ?_
          refine tr_if_eq (pc := 73) (tgt := 92) dX10_idleOf_73 (by decide) Iff.rfl (fun q73 => ?_) (fun q73 => ?_)
          · skip
            refine tr_iconst (pc := 92) (v := nI 0) dX10_idleOf_92 (by decide) ?_
            refine tr_ior (pc := 93) (v := (idlB P m i) ||| (nI 0)) dX10_idleOf_93 rfl ?_
            refine tr_istore_n (pc := 94) (lv' := [(3, .int ((idlB P m i) ||| (nI 0))), (5, .int (mayV P (4 * m + (gt P m i).2.1))), (0, rv a 50), (1, .int (nI m)), (2, .int (kept P)), (4, .int (nI i))]) dX10_idleOf_94 rfl (by decide) rfl ?_
            refine tr_iinc (pc := 95) (v := nI (i + 1)) (lv' := [(4, .int (nI (i + 1))), (3, .int ((idlB P m i) ||| (nI 0))), (5, .int (mayV P (4 * m + (gt P m i).2.1))), (0, rv a 50), (1, .int (nI m)), (2, .int (kept P))]) 5 dX10_idleOf_95 rfl (by rw [show Int32.ofInt 1 = nI 1 from by decide, nI_add]) (by decide) rfl ?_
            refine tr_goto (pc := 98) (tgt := 11) dX10_idleOf_98 (by decide) ?_
            refine tr_sub (pc := 11) (lv' := [(0, rv a 50), (1, .int (nI m)), (2, .int (kept P)), (3, .int ((idlB P m i) ||| (nI 0))), (4, .int (nI (i + 1)))]) [3, 4, 5, 1, 0] rfl ?_
            have e1 : (idlB P m i) ||| (nI 0) = idlB P m (i + 1) := by simp only [idlB]; rw [if_neg (fun z => z.2.1 q73), or_0]
            rw [e1]
            exact ih (i + 1) (by omega) (by omega)
          · skip
            refine tr_iload (pc := 76) 0 dX10_idleOf_76 rfl ?_
            refine tr_iload_n (pc := 78) 3 dX10_idleOf_78 rfl rfl ?_
            refine tr_iconst (pc := 79) (v := -1) dX10_idleOf_79 (by decide) ?_
            refine tr_ixor (pc := 80) (v := (kept P) ^^^ (-1)) dX10_idleOf_80 rfl ?_
            refine tr_iand (pc := 81) (v := (mayV P (4 * m + (gt P m i).2.1)) &&& ((kept P) ^^^ (-1))) dX10_idleOf_81 rfl ?_
            refine tr_if_ne (pc := 82) (tgt := 92) dX10_idleOf_82 (by decide) Iff.rfl (fun q82 => ?_) (fun q82 => ?_)
            · skip
              refine tr_iconst (pc := 92) (v := nI 0) dX10_idleOf_92 (by decide) ?_
              refine tr_ior (pc := 93) (v := (idlB P m i) ||| (nI 0)) dX10_idleOf_93 rfl ?_
              refine tr_istore_n (pc := 94) (lv' := [(3, .int ((idlB P m i) ||| (nI 0))), (5, .int (mayV P (4 * m + (gt P m i).2.1))), (0, rv a 50), (1, .int (nI m)), (2, .int (kept P)), (4, .int (nI i))]) dX10_idleOf_94 rfl (by decide) rfl ?_
              refine tr_iinc (pc := 95) (v := nI (i + 1)) (lv' := [(4, .int (nI (i + 1))), (3, .int ((idlB P m i) ||| (nI 0))), (5, .int (mayV P (4 * m + (gt P m i).2.1))), (0, rv a 50), (1, .int (nI m)), (2, .int (kept P))]) 5 dX10_idleOf_95 rfl (by rw [show Int32.ofInt 1 = nI 1 from by decide, nI_add]) (by decide) rfl ?_
              refine tr_goto (pc := 98) (tgt := 11) dX10_idleOf_98 (by decide) ?_
              refine tr_sub (pc := 11) (lv' := [(0, rv a 50), (1, .int (nI m)), (2, .int (kept P)), (3, .int ((idlB P m i) ||| (nI 0))), (4, .int (nI (i + 1)))]) [3, 4, 5, 1, 0] rfl ?_
              have e1 : (idlB P m i) ||| (nI 0) = idlB P m (i + 1) := by simp only [idlB]; rw [if_neg (fun z => q82 z.2.2), or_0]
              rw [e1]
              exact ih (i + 1) (by omega) (by omega)
            · skip
              refine tr_iconst (pc := 85) (v := nI 1) dX10_idleOf_85 (by decide) ?_
              refine tr_iload (pc := 86) 5 dX10_idleOf_86 rfl ?_
              refine tr_ishl (pc := 88) (v := (nI 1) <<< (nI i &&& 31)) dX10_idleOf_88 rfl ?_
              refine tr_goto (pc := 89) (tgt := 93) dX10_idleOf_89 (by decide) ?_
              refine tr_ior (pc := 93) (v := (idlB P m i) ||| ((nI 1) <<< (nI i &&& 31))) dX10_idleOf_93 rfl ?_
              refine tr_istore_n (pc := 94) (lv' := [(3, .int ((idlB P m i) ||| ((nI 1) <<< (nI i &&& 31)))), (5, .int (mayV P (4 * m + (gt P m i).2.1))), (0, rv a 50), (1, .int (nI m)), (2, .int (kept P)), (4, .int (nI i))]) dX10_idleOf_94 rfl (by decide) rfl ?_
              refine tr_iinc (pc := 95) (v := nI (i + 1)) (lv' := [(4, .int (nI (i + 1))), (3, .int ((idlB P m i) ||| ((nI 1) <<< (nI i &&& 31)))), (5, .int (mayV P (4 * m + (gt P m i).2.1))), (0, rv a 50), (1, .int (nI m)), (2, .int (kept P))]) 5 dX10_idleOf_95 rfl (by rw [show Int32.ofInt 1 = nI 1 from by decide, nI_add]) (by decide) rfl ?_
              refine tr_goto (pc := 98) (tgt := 11) dX10_idleOf_98 (by decide) ?_
              refine tr_sub (pc := 11) (lv' := [(0, rv a 50), (1, .int (nI m)), (2, .int (kept P)), (3, .int ((idlB P m i) ||| ((nI 1) <<< (nI i &&& 31)))), (4, .int (nI (i + 1)))]) [3, 4, 5, 1, 0] rfl ?_
              have e1 : (idlB P m i) ||| ((nI 1) <<< (nI i &&& 31)) = idlB P m (i + 1) := by simp only [idlB]; rw [if_pos ⟨q38, q73, q82⟩]
              rw [e1]
              exact ih (i + 1) (by omega) (by omega)
  exact L11 (lnN P m + 1) 0 (by omega) (by omega)
