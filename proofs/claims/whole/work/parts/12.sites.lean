/-! ===== SITES ===== -/
def sitesM (P : Prog) (m : Nat) : Nat → List (Nat × Nat)
  | 0 => []
  | i + 1 => if (gt P m i).1 = 0 then sitesM P m i ++ [(m, i)] else sitesM P m i
def sitesP (P : Prog) : Nat → List (Nat × Nat)
  | 0 => []
  | m + 1 => sitesP P m ++ sitesM P m (lnN P m)
def sl (P : Prog) (m i : Nat) : List (Nat × Nat) := sitesP P m ++ sitesM P m i
def sno (P : Prog) (m i : Nat) : Nat := (sl P m i).length
def nSt (P : Prog) : Nat := (sitesP P P.length).length
def siteAt (P : Prog) (m i : Nat) : Int32 := if (gt P m i).1 = 0 then nI (sno P m i) else -1
def sG (L : List (Nat × Nat)) (s : Nat) : Nat × Nat := L.getD s (0, 0)
theorem sG_app {L : List (Nat × Nat)} {x : Nat × Nat} {s : Nat} : sG (L ++ [x]) s = if s = L.length then x else sG L s := by
  unfold sG
  rw [List.getD_eq_getElem?_getD, List.getD_eq_getElem?_getD, List.getElem?_append]
  by_cases q : s < L.length
  · rw [if_pos q, if_neg (by omega)]
  · rw [if_neg q]
    by_cases q2 : s = L.length
    · subst q2; simp
    · rw [if_neg q2]
      have e : s - L.length = (s - L.length - 1) + 1 := by omega
      rw [e, List.getElem?_eq_none (l := L) (by omega)]
      simp
theorem sl_m {P : Prog} {m : Nat} : sl P (m + 1) 0 = sl P m (lnN P m) := by simp [sl, sitesP, sitesM]
theorem sno_m {P : Prog} {m : Nat} : sno P (m + 1) 0 = sno P m (lnN P m) := by unfold sno; rw [sl_m]
theorem sl_y {P : Prog} {m i : Nat} (h : (gt P m i).1 = 0) : sl P m (i + 1) = sl P m i ++ [(m, i)] := by simp [sl, sitesM, h]
theorem sl_n {P : Prog} {m i : Nat} (h : ¬ (gt P m i).1 = 0) : sl P m (i + 1) = sl P m i := by simp [sl, sitesM, h]
theorem sno_y {P : Prog} {m i : Nat} (h : (gt P m i).1 = 0) : sno P m (i + 1) = sno P m i + 1 := by unfold sno; rw [sl_y h]; simp
theorem sno_n {P : Prog} {m i : Nat} (h : ¬ (gt P m i).1 = 0) : sno P m (i + 1) = sno P m i := by unfold sno; rw [sl_n h]
theorem sitesM_s {P : Prog} {m i : Nat} : sitesM P m (i + 1) = if (gt P m i).1 = 0 then sitesM P m i ++ [(m, i)] else sitesM P m i := rfl
theorem sitesM_le (P : Prog) (m i : Nat) : (sitesM P m i).length ≤ i := by
  induction i with
  | zero => simp [sitesM]
  | succ i ih =>
    unfold sitesM
    split
    · simp; omega
    · omega
theorem sitesP_le {P : Prog} (hV : VB P) (m : Nat) : (sitesP P m).length ≤ 8 * m := by
  induction m with
  | zero => simp [sitesP]
  | succ m ih =>
    have h1 := sitesM_le P m (lnN P m)
    have h2 := hV.2.1 m
    simp only [sitesP, List.length_append]
    omega
theorem sno_le {P : Prog} (hV : VB P) (m i : Nat) : sno P m i ≤ 8 * m + i := by
  have h1 := sitesM_le P m i
  have h2 := sitesP_le hV m
  simp only [sno, sl, List.length_append]
  omega
theorem nSt_le {P : Prog} (hV : VB P) : nSt P ≤ 32 := by
  have h1 := sitesP_le hV P.length
  have h2 := hV.1
  unfold nSt
  omega
/-- every site is a line of sort 0, and it has its own number -/
theorem sitesM_at {P : Prog} {m : Nat} : ∀ (i s : Nat), s < (sitesM P m i).length → (sG (sitesM P m i) s).1 = m ∧ (sG (sitesM P m i) s).2 < i ∧ (gt P m (sG (sitesM P m i) s).2).1 = 0 ∧ (sitesM P m (sG (sitesM P m i) s).2).length = s := by
  intro i
  induction i with
  | zero => intro s hs; simp [sitesM] at hs
  | succ i ih =>
    intro s hs
    by_cases q : (gt P m i).1 = 0
    · have e : sitesM P m (i + 1) = sitesM P m i ++ [(m, i)] := by rw [sitesM_s, if_pos q]
      rw [e] at hs ⊢
      rw [sG_app]
      by_cases q2 : s = (sitesM P m i).length
      · rw [if_pos q2]; exact ⟨rfl, Nat.lt_succ_self _, q, q2.symm⟩
      · rw [if_neg q2]
        simp at hs
        obtain ⟨h1, h2, h3, h4⟩ := ih s (by omega)
        exact ⟨h1, by omega, h3, h4⟩
    · have e : sitesM P m (i + 1) = sitesM P m i := by rw [sitesM_s, if_neg q]
      rw [e] at hs ⊢
      obtain ⟨h1, h2, h3, h4⟩ := ih s hs
      exact ⟨h1, by omega, h3, h4⟩
theorem sG_appL {L1 L2 : List (Nat × Nat)} {s : Nat} (h : s < L1.length) : sG (L1 ++ L2) s = sG L1 s := by
  unfold sG
  rw [List.getD_eq_getElem?_getD, List.getD_eq_getElem?_getD, List.getElem?_append_left h]
theorem sG_appR {L1 L2 : List (Nat × Nat)} {s : Nat} (h : L1.length ≤ s) : sG (L1 ++ L2) s = sG L2 (s - L1.length) := by
  unfold sG
  rw [List.getD_eq_getElem?_getD, List.getD_eq_getElem?_getD, List.getElem?_append_right h]
theorem sitesP_at {P : Prog} : ∀ (m s : Nat), s < (sitesP P m).length → (sG (sitesP P m) s).1 < m ∧ (sG (sitesP P m) s).2 < lnN P (sG (sitesP P m) s).1 ∧ (gt P (sG (sitesP P m) s).1 (sG (sitesP P m) s).2).1 = 0 ∧ sno P (sG (sitesP P m) s).1 (sG (sitesP P m) s).2 = s := by
  intro m
  induction m with
  | zero => intro s hs; simp [sitesP] at hs
  | succ m ih =>
    intro s hs
    simp only [sitesP] at hs ⊢
    by_cases q : s < (sitesP P m).length
    · rw [sG_appL q]
      obtain ⟨h1, h2, h3, h4⟩ := ih s q
      exact ⟨by omega, h2, h3, h4⟩
    · rw [sG_appR (by omega)]
      simp only [List.length_append] at hs
      obtain ⟨h1, h2, h3, h4⟩ := sitesM_at (P := P) (m := m) (lnN P m) (s - (sitesP P m).length) (by omega)
      rw [h1]
      refine ⟨Nat.lt_succ_self _, h2, h3, ?_⟩
      simp only [sno, sl, List.length_append]
      omega
/-- the site of number s: its method and line -/
def sM (P : Prog) (s : Nat) : Nat := (sG (sitesP P P.length) s).1
def sI (P : Prog) (s : Nat) : Nat := (sG (sitesP P P.length) s).2
theorem site_at {P : Prog} {s : Nat} (hs : s < nSt P) : sM P s < P.length ∧ sI P s < lnN P (sM P s) ∧ (gt P (sM P s) (sI P s)).1 = 0 ∧ sno P (sM P s) (sI P s) = s := sitesP_at P.length s hs
theorem sitesP_mono {P : Prog} {m k : Nat} (h : m ≤ k) : (sitesP P m).length ≤ (sitesP P k).length := by
  induction k with
  | zero => have : m = 0 := by omega
            subst this; exact Nat.le_refl _
  | succ k ih =>
    by_cases q : m = k + 1
    · subst q; exact Nat.le_refl _
    · have := ih (by omega)
      simp only [sitesP, List.length_append]
      omega
theorem sitesM_mono {P : Prog} {m i j : Nat} (h : i ≤ j) : (sitesM P m i).length ≤ (sitesM P m j).length := by
  induction j with
  | zero => have : i = 0 := by omega
            subst this; exact Nat.le_refl _
  | succ j ih =>
    by_cases q : i = j + 1
    · subst q; exact Nat.le_refl _
    · have := ih (by omega)
      rw [sitesM_s]
      split
      · simp; omega
      · omega
theorem sno_lt {P : Prog} {m i : Nat} (hi : i < lnN P m) (h0 : (gt P m i).1 = 0) : sno P m i < nSt P := by
  have hm := lnN_lt hi
  have h1 := sno_y h0
  have h2 : (sitesM P m (i + 1)).length ≤ (sitesM P m (lnN P m)).length := sitesM_mono hi
  have h3 := sitesP_mono (P := P) (show m + 1 ≤ P.length by omega)
  simp only [sitesP, List.length_append] at h3
  simp only [sno, sl, List.length_append] at h1 ⊢
  unfold nSt
  omega
/-! ===== the class Sites ===== -/
def SI (h : Hp) (P : Prog) (m i : Nat) : Prop := h 31 0 = nI (sno P m i) ∧ (∀ s, s < sno P m i → h 32 s = nI ((sG (sl P m i) s).1 * 8 + (sG (sl P m i) s).2)) ∧ (∀ m' i', i' < lnN P m' → (m' < m ∨ m' = m ∧ i' < i) → h 33 (m' * 8 + i') = siteAt P m' i') ∧ (∀ m' i', i' < lnN P m' → (m < m' ∨ m' = m ∧ i ≤ i') → h 33 (m' * 8 + i') = -1) ∧ (∀ m', m' < m → h 34 m' = nI (sitesM P m' (lnN P m')).length) ∧ (m < 4 → h 34 m = nI (sitesM P m i).length) ∧ ∀ m', m < m' → m' < 4 → h 34 m' = 0
def SC (h : Hp) (P : Prog) : Prop := h 31 0 = nI (nSt P) ∧ (∀ s, s < nSt P → h 32 s = nI (sM P s * 8 + sI P s)) ∧ (∀ m i, i < lnN P m → h 33 (m * 8 + i) = siteAt P m i) ∧ ∀ m, m < P.length → h 34 m = nI (sitesM P m (lnN P m)).length
theorem si_m {h : Hp} {P : Prog} {m : Nat} (k : SI h P m (lnN P m)) (hm : m < P.length) (hV : VB P) : SI h P (m + 1) 0 := by
  obtain ⟨k1, k2, k3, k4, k5, k6, k7⟩ := k
  have hv := hV.1
  refine ⟨by rw [sno_m]; exact k1, fun s hs => by rw [sl_m]; exact k2 s (by rw [sno_m] at hs; exact hs), fun m' i' hi' q => k3 m' i' hi' ?_, fun m' i' hi' q => k4 m' i' hi' ?_, fun m' q => ?_, fun q => ?_, fun m' q q2 => k7 m' (by omega) q2⟩
  · rcases q with q | q
    · by_cases e : m' = m
      · subst e; exact Or.inr ⟨rfl, hi'⟩
      · exact Or.inl (by omega)
    · omega
  · left; omega
  · by_cases e : m' = m
    · subst e; exact k6 (by omega)
    · exact k5 m' (by omega)
  · have := k7 (m + 1) (by omega) q
    rw [this]; rfl
theorem si_n {h : Hp} {P : Prog} {m i : Nat} (k : SI h P m i) (hi : i < lnN P m) (h0 : ¬ (gt P m i).1 = 0) : SI h P m (i + 1) := by
  obtain ⟨k1, k2, k3, k4, k5, k6, k7⟩ := k
  refine ⟨by rw [sno_n h0]; exact k1, fun s hs => by rw [sl_n h0]; exact k2 s (by rw [sno_n h0] at hs; exact hs), fun m' i' hi' q => ?_, fun m' i' hi' q => k4 m' i' hi' (by omega), k5, fun q => ?_, k7⟩
  · by_cases e : m' = m ∧ i' = i
    · obtain ⟨rfl, rfl⟩ := e
      rw [k4 m' i' hi' (Or.inr ⟨rfl, Nat.le_refl _⟩)]
      unfold siteAt
      rw [if_neg h0]
    · exact k3 m' i' hi' (by omega)
  · rw [k6 q]
    simp [sitesM, h0]
theorem si_y {h : Hp} {P : Prog} {m i : Nat} (k : SI h P m i) (hi : i < lnN P m) (hV : VB P) (h0 : (gt P m i).1 = 0) : SI (hs (hs (hs (hs h 32 (upd (h 32) (sno P m i) (nI (m * 8 + i)))) 33 (upd (h 33) (m * 8 + i) (nI (sno P m i)))) 34 (upd (h 34) m (nI ((sitesM P m i).length + 1)))) 31 (upd (h 31) 0 (nI (sno P m i + 1)))) P m (i + 1) := by
  obtain ⟨k1, k2, k3, k4, k5, k6, k7⟩ := k
  have hm := lnN_lt hi
  obtain ⟨v1, v2, v3⟩ := hV
  have h8 := v2 m
  refine ⟨?_, fun s hs => ?_, fun m' i' hi' q => ?_, fun m' i' hi' q => ?_, fun m' q => ?_, fun q => ?_, fun m' q q2 => ?_⟩
  · rw [hs_same, upd_s, sno_y h0]
  · rw [hs_ne (by decide), hs_ne (by decide), hs_ne (by decide), hs_same, sl_y h0, sG_app]
    rw [sno_y h0] at hs
    by_cases e : s = sno P m i
    · subst e
      rw [upd_s, if_pos (by rfl)]
    · rw [upd_n e, if_neg (by exact e)]
      exact k2 s (by omega)
  · rw [hs_ne (by decide), hs_ne (by decide), hs_same]
    have h9 := v2 m'
    by_cases e : m' = m ∧ i' = i
    · obtain ⟨rfl, rfl⟩ := e
      rw [upd_s]
      unfold siteAt
      rw [if_pos h0]
    · rw [upd_n (by
        intro e2
        apply e
        by_cases e3 : m' = m
        · subst e3; omega
        · omega)]
      exact k3 m' i' hi' (by omega)
  · rw [hs_ne (by decide), hs_ne (by decide), hs_same]
    have h9 := v2 m'
    rw [upd_n (by
        intro e2
        by_cases e3 : m' = m
        · subst e3; omega
        · omega)]
    exact k4 m' i' hi' (by omega)
  · rw [hs_ne (by decide), hs_same, upd_n (by omega)]
    exact k5 m' q
  · rw [hs_ne (by decide), hs_same, upd_s]
    simp [sitesM, h0]
  · rw [hs_ne (by decide), hs_same, upd_n (by omega)]
    exact k7 m' q q2
theorem si_end {h : Hp} {P : Prog} (k : SI h P P.length 0) : SC h P := by
  obtain ⟨k1, k2, k3, k4, k5, k6, k7⟩ := k
  have e : sl P P.length 0 = sitesP P P.length := by simp [sl, sitesM]
  have e2 : sno P P.length 0 = nSt P := by unfold sno; rw [e]; rfl
  rw [e2] at k1 k2
  rw [e] at k2
  exact ⟨k1, k2, fun m i hi => k3 m i hi (Or.inl (lnN_lt hi)), k5⟩
theorem SC.fr {L : List Nat} {h h' : Hp} {P : Prog} (k : SC h P) (hF : Fr L h h') (h1 : 31 ∉ L) (h2 : 32 ∉ L) (h3 : 33 ∉ L) (h4 : 34 ∉ L) : SC h' P := by
  unfold SC
  rw [hF 31 h1, hF 32 h2, hF 33 h3, hF 34 h4]
  exact k
set_option maxHeartbeats 4000000 in
set_option maxRecDepth 100000 in
theorem c_sadd {a : Am} {S : St} {h : Hp} (hS : IsSt S) {P : Prog} (hV : VB P) {m i : Nat} (hi : i < lnN P m) (h0 : (gt P m i).1 = 0) (hI : SI h P m i) : CT a 0 mX4_add [rv a 31, .int (nI m), .int (nI i)] S h (fun v S' h' => v = none ∧ S = S' ∧ SI h' P m (i + 1) ∧ Fr [31, 32, 33, 34] h h') := by
  obtain ⟨hV1, hV2, hV3⟩ := id hV
  have hm := lnN_lt hi
  have h8 := hV2 m
  have hs1 := sno_le hV m i
  refine met_of (by decide +kernel) (Nat.le_of_ble_eq_true rfl) ?_
  show T a 0 mX4_add 0 [(0, rv a 31), (1, .int (nI m)), (2, .int (nI i))] [] S h _
  refine tr_aload_n (pc := 0) 0 dX4_add_0 rfl rfl ?_
  refine tr_getI (pc := 1) (x := nI (sno P m i)) dX4_add_1 (hS.1 31 (7, 4) rfl) fi_X4_21 rfl hI.1 ?_
  refine tr_bipush (pc := 4) (v := nI 32) dX4_add_4 (by decide) ?_
  refine tr_icmp_ge (pc := 6) (tgt := 59) dX4_add_6 (by decide) (nI_leI (by omega) (by omega)) (fun hcc => absurd hcc (by omega)) (fun _ => ?_)
  refine tr_aload_n (pc := 9) 0 dX4_add_9 rfl rfl ?_
  refine tr_getR (pc := 10) (q := 32) dX4_add_10 (hS.1 31 (7, 4) rfl) fi_X4_9 rfl (hS.2 31 1 32 rfl) ?_
  refine tr_aload_n (pc := 13) 0 dX4_add_13 rfl rfl ?_
  refine tr_getI (pc := 14) (x := nI (sno P m i)) dX4_add_14 (hS.1 31 (7, 4) rfl) fi_X4_21 rfl hI.1 ?_
  refine tr_iload_n (pc := 17) 1 dX4_add_17 rfl rfl ?_
  refine tr_bipush (pc := 18) (v := nI 8) dX4_add_18 (by decide) ?_
  refine tr_imul (pc := 20) (v := nI (m * 8)) dX4_add_20 (pk_mul _ _) ?_
  refine tr_iload_n (pc := 21) 2 dX4_add_21 rfl rfl ?_
  refine tr_iadd (pc := 22) (v := nI (m * 8 + i)) dX4_add_22 (nI_add _ _) ?_
  refine tr_iast (pc := 23) (sno P m i) dX4_add_23 (hS.1 32 (0, 32) rfl) rfl (by omega) (by decide) ?_
  refine tr_aload_n (pc := 24) 0 dX4_add_24 rfl rfl ?_
  refine tr_getR (pc := 25) (q := 33) dX4_add_25 (hS.1 31 (7, 4) rfl) fi_X4_15 rfl (hS.2 31 2 33 rfl) ?_
  refine tr_iload_n (pc := 28) 1 dX4_add_28 rfl rfl ?_
  refine tr_bipush (pc := 29) (v := nI 8) dX4_add_29 (by decide) ?_
  refine tr_imul (pc := 31) (v := nI (m * 8)) dX4_add_31 (pk_mul _ _) ?_
  refine tr_iload_n (pc := 32) 2 dX4_add_32 rfl rfl ?_
  refine tr_iadd (pc := 33) (v := nI (m * 8 + i)) dX4_add_33 (nI_add _ _) ?_
  refine tr_aload_n (pc := 34) 0 dX4_add_34 rfl rfl ?_
  refine tr_getI (pc := 35) (x := nI (sno P m i)) dX4_add_35 (hS.1 31 (7, 4) rfl) fi_X4_21 rfl hI.1 ?_
  refine tr_iast (pc := 38) (m * 8 + i) dX4_add_38 (hS.1 33 (0, 32) rfl) rfl (by omega) (by decide) ?_
  refine tr_aload_n (pc := 39) 0 dX4_add_39 rfl rfl ?_
  refine tr_getR (pc := 40) (q := 34) dX4_add_40 (hS.1 31 (7, 4) rfl) fi_X4_18 rfl (hS.2 31 3 34 rfl) ?_
  refine tr_iload_n (pc := 43) 1 dX4_add_43 rfl rfl ?_
  refine tr_dup2 (pc := 44) dX4_add_44 rfl rfl ?_
  refine tr_iald (pc := 45) (v := nI ((sitesM P m i).length)) m dX4_add_45 (hS.1 34 (0, 4) rfl) rfl (by omega) (by decide) (hI.2.2.2.2.2.1 (by omega)) ?_
  refine tr_iconst (pc := 46) (v := nI 1) dX4_add_46 (by decide) ?_
  refine tr_iadd (pc := 47) (v := nI ((sitesM P m i).length + 1)) dX4_add_47 (nI_add _ _) ?_
  refine tr_iast (pc := 48) m dX4_add_48 (hS.1 34 (0, 4) rfl) rfl (by omega) (by decide) ?_
  refine tr_aload_n (pc := 49) 0 dX4_add_49 rfl rfl ?_
  refine tr_dup (pc := 50) dX4_add_50 rfl ?_
  refine tr_getI (pc := 51) (x := nI (sno P m i)) dX4_add_51 (hS.1 31 (7, 4) rfl) fi_X4_21 rfl hI.1 ?_
  refine tr_iconst (pc := 54) (v := nI 1) dX4_add_54 (by decide) ?_
  refine tr_iadd (pc := 55) (v := nI (sno P m i + 1)) dX4_add_55 (nI_add _ _) ?_
  refine tr_putI (pc := 56) (x := nI (sno P m i + 1)) dX4_add_56 (hS.1 31 (7, 4) rfl) fi_X4_21 rfl rfl rfl ?_
  exact tr_vret (pc := 59) dX4_add_59 rfl (⟨rfl, rfl, si_y hI hi hV h0, (((Fr.rf.hs (by decide)).hs (by decide)).hs (by decide)).hs (by decide)⟩)

theorem si_0 {h : Hp} {P : Prog} (e1 : h 31 0 = nI 0) (e2 : ∀ j, j < 32 → h 33 j = -1) (e3 : ∀ j, j < 4 → h 34 j = 0) (hV : VB P) : SI h P 0 0 := by
  obtain ⟨v1, v2, v3⟩ := hV
  refine ⟨e1, fun s hs => by simp [sno, sl, sitesP, sitesM] at hs, fun m' i' _ q => by omega, fun m' i' hi' _ => e2 _ ?_, fun m' q => by omega, fun q => by rw [e3 0 (by omega)]; rfl, fun m' _ q2 => e3 m' q2⟩
  have := lnN_lt hi'
  have := v2 m'
  omega
set_option maxHeartbeats 4000000 in
set_option maxRecDepth 100000 in
theorem c_number {a : Am} {S : St} {h : Hp} (hS : IsSt S) {P : Prog} (hV : VB P) (hM : MP h 3 P) : CT a 4 mX4_number [rv a 31, rv a 3] S h (fun v S' h' => v = none ∧ S = S' ∧ SC h' P ∧ Fr [31, 32, 33, 34] h h') := by
  obtain ⟨hV1, hV2, hV3⟩ := id hV
  refine met_of (by decide +kernel) (Nat.le_of_ble_eq_true rfl) ?_
  show T a 4 mX4_number 0 [(0, rv a 31), (1, rv a 3)] [] S h _
  refine tr_aload_n (pc := 0) 0 dX4_number_0 rfl rfl ?_
  refine tr_iconst (pc := 1) (v := nI 0) dX4_number_1 (by decide) ?_
  refine tr_putI (pc := 2) (x := nI 0) dX4_number_2 (hS.1 31 (7, 4) rfl) fi_X4_21 rfl rfl rfl ?_
  refine tr_aload_n (pc := 5) 0 dX4_number_5 rfl rfl ?_
  refine tr_getR (pc := 6) (q := 33) dX4_number_6 (hS.1 31 (7, 4) rfl) fi_X4_15 rfl (hS.2 31 2 33 rfl) ?_
  refine tr_iconst (pc := 9) (v := -1) dX4_number_9 (by decide) ?_
  refine tr_callS (pc := 10) (rest := []) dX4_number_10 ml_X4_29 cs_J7_fill_53178 rfl rfl (Nat.le_of_ble_eq_true rfl) (by omega) (c_fill (hS.1 33 _ rfl) (by decide)) ?_
  rintro v1 S1 h1 ⟨rfl, rfl, f1, hf1, rfl⟩
  show T a 4 mX4_number 13 [(0, rv a 31), (1, rv a 3)] [] S (hs (hs h 31 (upd (h 31) 0 (nI 0))) 33 f1) _
  refine tr_aload_n (pc := 13) 0 dX4_number_13 rfl rfl ?_
  refine tr_getR (pc := 14) (q := 34) dX4_number_14 (hS.1 31 (7, 4) rfl) fi_X4_18 rfl (hS.2 31 3 34 rfl) ?_
  refine tr_iconst (pc := 17) (v := nI 0) dX4_number_17 (by decide) ?_
  refine tr_callS (pc := 18) (rest := []) dX4_number_18 ml_X4_29 cs_J7_fill_53178 rfl rfl (Nat.le_of_ble_eq_true rfl) (by omega) (c_fill (hS.1 34 _ rfl) (by decide)) ?_
  rintro v1 S1 h1 ⟨rfl, rfl, f2, hf2, rfl⟩
  show T a 4 mX4_number 21 [(0, rv a 31), (1, rv a 3)] [] S (hs (hs (hs h 31 (upd (h 31) 0 (nI 0))) 33 f1) 34 f2) _
  refine tr_iconst (pc := 21) (v := nI 0) dX4_number_21 (by decide) ?_
  refine tr_istore_n (pc := 22) (lv' := [(2, .int (nI 0)), (0, rv a 31), (1, rv a 3)]) dX4_number_22 rfl (by decide) rfl ?_
  refine tr_sub (pc := 23) (lv' := [(0, rv a 31), (1, rv a 3), (2, .int (nI 0))]) [1, 2, 0] rfl ?_
  have L23 : ∀ (fu : Nat) (m : Nat) (h1 : Hp), P.length - m < fu → m ≤ P.length → SI h1 P m 0 → Fr [31, 32, 33, 34] h h1 → T a 4 mX4_number 23 [(0, rv a 31), (1, rv a 3), (2, .int (nI m))] [] S h1 (fun v S' h' => v = none ∧ S = S' ∧ SC h' P ∧ Fr [31, 32, 33, 34] h h') := by
    intro fu
    induction fu with
    | zero => intro m h1 hu hm hI hf; omega
    | succ fu ih =>
      intro m h1 hu hm hI hf
      have hM1 : MP h1 3 P := hM.fr hf (by decide) (by decide) (by decide)
      refine tr_iload_n (pc := 23) 2 dX4_number_23 rfl rfl ?_
      refine tr_aload_n (pc := 24) 1 dX4_number_24 rfl rfl ?_
      refine tr_callV (pc := 25) (rest := [.int (nI m)]) (ci := 2) dX4_number_25 ml_X4_35 cv_X2_count rfl rfl (Nat.le_of_ble_eq_true rfl) (hS.1 3 (5, 3) rfl) rfl (by decide) (c_count (mo_3 hS) hM1 hV) ?_
      rintro _ _ _ ⟨rfl, rfl, rfl⟩
      show T a 4 mX4_number 28 [(0, rv a 31), (1, rv a 3), (2, .int (nI m))] [.int (nI P.length), .int (nI m)] S h1 _
      refine tr_icmp_ge (pc := 28) (tgt := 69) dX4_number_28 (by decide) (nI_leI (by omega) (by omega)) (fun q28 => ?_) (fun q28 => ?_)
      · skip
        exact tr_vret (pc := 69) dX4_number_69 rfl (⟨rfl, rfl, si_end (by rw [show P.length = m by omega]; exact hI), hf⟩)
      · skip
        have h8 := hV2 m
        refine tr_iconst (pc := 31) (v := nI 0) dX4_number_31 (by decide) ?_
        refine tr_istore_n (pc := 32) (lv' := [(3, .int (nI 0)), (0, rv a 31), (1, rv a 3), (2, .int (nI m))]) dX4_number_32 rfl (by decide) rfl ?_
        refine tr_sub (pc := 33) (lv' := [(0, rv a 31), (1, rv a 3), (2, .int (nI m)), (3, .int (nI 0))]) [1, 2, 3, 0] rfl ?_
        have L33 : ∀ (fu : Nat) (i : Nat) (h2 : Hp), lnN P m - i < fu → i ≤ lnN P m → SI h2 P m i → Fr [31, 32, 33, 34] h h2 → T a 4 mX4_number 33 [(0, rv a 31), (1, rv a 3), (2, .int (nI m)), (3, .int (nI i))] [] S h2 (fun v S' h' => v = none ∧ S = S' ∧ SC h' P ∧ Fr [31, 32, 33, 34] h h') := by
          intro fu
          induction fu with
          | zero => intro i h2 hu2 hi hI2 hf2; omega
          | succ fu ih2 =>
            intro i h2 hu2 hi hI2 hf2
            have hM2 : MP h2 3 P := hM.fr hf2 (by decide) (by decide) (by decide)
            refine tr_iload_n (pc := 33) 3 dX4_number_33 rfl rfl ?_
            refine tr_aload_n (pc := 34) 1 dX4_number_34 rfl rfl ?_
            refine tr_iload_n (pc := 35) 2 dX4_number_35 rfl rfl ?_
            refine tr_callV (pc := 36) (rest := [.int (nI i)]) (ci := 2) dX4_number_36 ml_X4_40 cv_X2_lines rfl rfl (Nat.le_of_ble_eq_true rfl) (hS.1 3 (5, 3) rfl) rfl (by decide) (c_lines_in (mo_3 hS) hM2 hV (by omega)) ?_
            rintro _ _ _ ⟨rfl, rfl, rfl⟩
            show T a 4 mX4_number 39 [(0, rv a 31), (1, rv a 3), (2, .int (nI m)), (3, .int (nI i))] [.int (nI (lnN P m)), .int (nI i)] S h2 _
            refine tr_icmp_ge (pc := 39) (tgt := 63) dX4_number_39 (by decide) (nI_leI (by omega) (by omega)) (fun q39 => ?_) (fun q39 => ?_)
            · skip
              refine tr_iinc (pc := 63) (v := nI (m + 1)) (lv' := [(2, .int (nI (m + 1))), (0, rv a 31), (1, rv a 3), (3, .int (nI i))]) 2 dX4_number_63 rfl (by rw [show Int32.ofInt 1 = nI 1 from by decide, nI_add]) (by decide) rfl ?_
              refine tr_goto (pc := 66) (tgt := 23) dX4_number_66 (by decide) ?_
              refine tr_sub (pc := 23) (lv' := [(0, rv a 31), (1, rv a 3), (2, .int (nI (m + 1)))]) [1, 2, 0] rfl ?_
              exact ih (m + 1) h2 (by omega) (by omega) (si_m (by rw [show lnN P m = i by omega]; exact hI2) (by omega) hV) hf2
            · skip
              refine tr_aload_n (pc := 42) 1 dX4_number_42 rfl rfl ?_
              refine tr_iload_n (pc := 43) 2 dX4_number_43 rfl rfl ?_
              refine tr_iload_n (pc := 44) 3 dX4_number_44 rfl rfl ?_
              refine tr_callV (pc := 45) (rest := []) (ci := 2) dX4_number_45 ml_X4_44 cv_X2_sort rfl rfl (Nat.le_of_ble_eq_true rfl) (hS.1 3 (5, 3) rfl) rfl (by decide) (c_sort (mo_3 hS) hM2 hV (Nat.lt_of_not_le q39)) ?_
              rintro _ _ _ ⟨rfl, rfl, rfl⟩
              show T a 4 mX4_number 48 [(0, rv a 31), (1, rv a 3), (2, .int (nI m)), (3, .int (nI i))] [.int (nI ((gt P m i).1))] S h2 _
              refine tr_if_ne (pc := 48) (tgt := 57) dX4_number_48 (by decide) (nI_z_eq (by have := (hV3 m i (Nat.lt_of_not_le q39)).1; omega)) (fun q48 => ?_) (fun q48 => ?_)
              · skip
                have hI3 := si_n hI2 (Nat.lt_of_not_le q39) q48
                have hf3 := hf2
                refine tr_iinc (pc := 57) (v := nI (i + 1)) (lv' := [(3, .int (nI (i + 1))), (0, rv a 31), (1, rv a 3), (2, .int (nI m))]) 3 dX4_number_57 rfl (by rw [show Int32.ofInt 1 = nI 1 from by decide, nI_add]) (by decide) rfl ?_
                refine tr_goto (pc := 60) (tgt := 33) dX4_number_60 (by decide) ?_
                refine tr_sub (pc := 33) (lv' := [(0, rv a 31), (1, rv a 3), (2, .int (nI m)), (3, .int (nI (i + 1)))]) [1, 2, 3, 0] rfl ?_
                exact ih2 (i + 1) _ (by omega) (by omega) hI3 hf3
              · skip
                refine tr_aload_n (pc := 51) 0 dX4_number_51 rfl rfl ?_
                refine tr_iload_n (pc := 52) 2 dX4_number_52 rfl rfl ?_
                refine tr_iload_n (pc := 53) 3 dX4_number_53 rfl rfl ?_
                refine tr_callV (pc := 54) (rest := []) (ci := 4) dX4_number_54 ml_X4_48 cv_X4_add rfl rfl (Nat.le_of_ble_eq_true rfl) (hS.1 31 (7, 4) rfl) rfl (by decide) (c_sadd hS hV (Nat.lt_of_not_le q39) q48 hI2) ?_
                rintro v1 S1 h3 ⟨rfl, rfl, hI3, hf3a⟩
                have hf3 := hf2.trans hf3a
                show T a 4 mX4_number 57 [(0, rv a 31), (1, rv a 3), (2, .int (nI m)), (3, .int (nI i))] [] S h3 _
                refine tr_iinc (pc := 57) (v := nI (i + 1)) (lv' := [(3, .int (nI (i + 1))), (0, rv a 31), (1, rv a 3), (2, .int (nI m))]) 3 dX4_number_57 rfl (by rw [show Int32.ofInt 1 = nI 1 from by decide, nI_add]) (by decide) rfl ?_
                refine tr_goto (pc := 60) (tgt := 33) dX4_number_60 (by decide) ?_
                refine tr_sub (pc := 33) (lv' := [(0, rv a 31), (1, rv a 3), (2, .int (nI m)), (3, .int (nI (i + 1)))]) [1, 2, 3, 0] rfl ?_
                exact ih2 (i + 1) _ (by omega) (by omega) hI3 hf3
        exact L33 (lnN P m + 1) 0 h1 (by omega) (by omega) hI hf
  exact L23 (P.length + 1) 0 _ (by omega) (by omega) (si_0 rfl hf1 (fun j hj => hf2 j hj) hV) (((Fr.rf.hs (by decide)).hs (by decide)).hs (by decide))

set_option maxHeartbeats 4000000 in
set_option maxRecDepth 100000 in
theorem c_sitecount {a : Am} {S : St} {h : Hp} (hS : IsSt S) {P : Prog} (hV : VB P) (hC : SC h P) : CT a 0 mX4_count [rv a 31] S h (Rt (nI (nSt P)) S h) := by
  refine met_of (by decide +kernel) (Nat.le_of_ble_eq_true rfl) ?_
  show T a 0 mX4_count 0 [(0, rv a 31)] [] S h _
  refine tr_aload_n (pc := 0) 0 dX4_count_0 rfl rfl ?_
  refine tr_getI (pc := 1) (x := nI (nSt P)) dX4_count_1 (hS.1 31 (7, 4) rfl) fi_X4_21 rfl hC.1 ?_
  exact tr_iret (pc := 4) dX4_count_4 rfl rfl (⟨rfl, rfl, rfl⟩)

set_option maxHeartbeats 4000000 in
set_option maxRecDepth 100000 in
theorem c_methodOf {a : Am} {S : St} {h : Hp} (hS : IsSt S) {P : Prog} (hV : VB P) (hC : SC h P) {s : Nat} (hs : s < nSt P) : CT a 1 mX4_methodOf [rv a 31, .int (nI s)] S h (Rt (nI (sM P s)) S h) := by
  obtain ⟨hV1, hV2, hV3⟩ := id hV
  have hns := nSt_le hV
  obtain ⟨a1, a2, a3, a4⟩ := site_at hs
  have a8 := hV2 (sM P s)
  refine met_of (by decide +kernel) (Nat.le_of_ble_eq_true rfl) ?_
  show T a 1 mX4_methodOf 0 [(0, rv a 31), (1, .int (nI s))] [] S h _
  refine tr_iload_n (pc := 0) 1 dX4_methodOf_0 rfl rfl ?_
  refine tr_aload_n (pc := 1) 0 dX4_methodOf_1 rfl rfl ?_
  refine tr_getI (pc := 2) (x := nI (nSt P)) dX4_methodOf_2 (hS.1 31 (7, 4) rfl) fi_X4_21 rfl hC.1 ?_
  refine tr_callSN (pc := 5) (rest := []) dX4_methodOf_5 nl_X4_25 cs_X9_isOutside rfl rfl (Nat.le_of_ble_eq_true rfl) (by omega) (c_isOut_in hs (by omega)) ?_
  rintro _ _ _ ⟨rfl, rfl, rfl⟩
  show T a 1 mX4_methodOf 8 [(0, rv a 31), (1, .int (nI s))] [.int (nI 0)] S h _
  refine tr_if_eq (pc := 8) (tgt := 15) dX4_methodOf_8 (by decide) (nI_z_eq (by omega)) (fun _ => ?_) (fun hcc => absurd (by decide) hcc)
  refine tr_aload_n (pc := 15) 0 dX4_methodOf_15 rfl rfl ?_
  refine tr_getR (pc := 16) (q := 32) dX4_methodOf_16 (hS.1 31 (7, 4) rfl) fi_X4_9 rfl (hS.2 31 1 32 rfl) ?_
  refine tr_iload_n (pc := 19) 1 dX4_methodOf_19 rfl rfl ?_
  refine tr_iald (pc := 20) (v := nI (sM P s * 8 + sI P s)) s dX4_methodOf_20 (hS.1 32 (0, 32) rfl) rfl (by omega) (by decide) (hC.2.1 s hs) ?_
  refine tr_bipush (pc := 21) (v := nI 8) dX4_methodOf_21 (by decide) ?_
  refine tr_idiv (pc := 23) (v := nI (sM P s)) dX4_methodOf_23 (by decide) (by rw [pk_div (by omega) (by omega) (by omega)]; congr 1; omega) ?_
  exact tr_iret (pc := 24) dX4_methodOf_24 rfl rfl (⟨rfl, rfl, rfl⟩)

set_option maxHeartbeats 4000000 in
set_option maxRecDepth 100000 in
theorem c_lineOf {a : Am} {S : St} {h : Hp} (hS : IsSt S) {P : Prog} (hV : VB P) (hC : SC h P) {s : Nat} (hs : s < nSt P) : CT a 1 mX4_lineOf [rv a 31, .int (nI s)] S h (Rt (nI (sI P s)) S h) := by
  obtain ⟨hV1, hV2, hV3⟩ := id hV
  have hns := nSt_le hV
  obtain ⟨a1, a2, a3, a4⟩ := site_at hs
  have a8 := hV2 (sM P s)
  refine met_of (by decide +kernel) (Nat.le_of_ble_eq_true rfl) ?_
  show T a 1 mX4_lineOf 0 [(0, rv a 31), (1, .int (nI s))] [] S h _
  refine tr_iload_n (pc := 0) 1 dX4_lineOf_0 rfl rfl ?_
  refine tr_aload_n (pc := 1) 0 dX4_lineOf_1 rfl rfl ?_
  refine tr_getI (pc := 2) (x := nI (nSt P)) dX4_lineOf_2 (hS.1 31 (7, 4) rfl) fi_X4_21 rfl hC.1 ?_
  refine tr_callSN (pc := 5) (rest := []) dX4_lineOf_5 nl_X4_25 cs_X9_isOutside rfl rfl (Nat.le_of_ble_eq_true rfl) (by omega) (c_isOut_in hs (by omega)) ?_
  rintro _ _ _ ⟨rfl, rfl, rfl⟩
  show T a 1 mX4_lineOf 8 [(0, rv a 31), (1, .int (nI s))] [.int (nI 0)] S h _
  refine tr_if_eq (pc := 8) (tgt := 15) dX4_lineOf_8 (by decide) (nI_z_eq (by omega)) (fun _ => ?_) (fun hcc => absurd (by decide) hcc)
  refine tr_aload_n (pc := 15) 0 dX4_lineOf_15 rfl rfl ?_
  refine tr_getR (pc := 16) (q := 32) dX4_lineOf_16 (hS.1 31 (7, 4) rfl) fi_X4_9 rfl (hS.2 31 1 32 rfl) ?_
  refine tr_iload_n (pc := 19) 1 dX4_lineOf_19 rfl rfl ?_
  refine tr_iald (pc := 20) (v := nI (sM P s * 8 + sI P s)) s dX4_lineOf_20 (hS.1 32 (0, 32) rfl) rfl (by omega) (by decide) (hC.2.1 s hs) ?_
  refine tr_bipush (pc := 21) (v := nI 8) dX4_lineOf_21 (by decide) ?_
  refine tr_irem (pc := 23) (v := nI (sI P s)) dX4_lineOf_23 (by decide) (by rw [pk_rem (by omega) (by omega) (by omega)]; congr 1; omega) ?_
  exact tr_iret (pc := 24) dX4_lineOf_24 rfl rfl (⟨rfl, rfl, rfl⟩)

set_option maxHeartbeats 4000000 in
set_option maxRecDepth 100000 in
theorem c_inMethod {a : Am} {S : St} {h : Hp} (hS : IsSt S) {P : Prog} (hV : VB P) (hC : SC h P) {m : Nat} (hm : m < P.length) : CT a 1 mX4_inMethod [rv a 31, .int (nI m)] S h (Rt (nI (sitesM P m (lnN P m)).length) S h) := by
  obtain ⟨hV1, hV2, hV3⟩ := id hV
  refine met_of (by decide +kernel) (Nat.le_of_ble_eq_true rfl) ?_
  show T a 1 mX4_inMethod 0 [(0, rv a 31), (1, .int (nI m))] [] S h _
  refine tr_iload_n (pc := 0) 1 dX4_inMethod_0 rfl rfl ?_
  refine tr_iconst (pc := 1) (v := nI 4) dX4_inMethod_1 (by decide) ?_
  refine tr_callSN (pc := 2) (rest := []) dX4_inMethod_2 nl_X4_25 cs_X9_isOutside rfl rfl (Nat.le_of_ble_eq_true rfl) (by omega) (c_isOut_in (show m < 4 by omega) (by omega)) ?_
  rintro _ _ _ ⟨rfl, rfl, rfl⟩
  show T a 1 mX4_inMethod 5 [(0, rv a 31), (1, .int (nI m))] [.int (nI 0)] S h _
  refine tr_if_eq (pc := 5) (tgt := 12) dX4_inMethod_5 (by decide) (nI_z_eq (by omega)) (fun _ => ?_) (fun hcc => absurd (by decide) hcc)
  refine tr_aload_n (pc := 12) 0 dX4_inMethod_12 rfl rfl ?_
  refine tr_getR (pc := 13) (q := 34) dX4_inMethod_13 (hS.1 31 (7, 4) rfl) fi_X4_18 rfl (hS.2 31 3 34 rfl) ?_
  refine tr_iload_n (pc := 16) 1 dX4_inMethod_16 rfl rfl ?_
  refine tr_iald (pc := 17) (v := nI ((sitesM P m (lnN P m)).length)) m dX4_inMethod_17 (hS.1 34 (0, 4) rfl) rfl (by omega) (by decide) (hC.2.2.2 m hm) ?_
  exact tr_iret (pc := 18) dX4_inMethod_18 rfl rfl (⟨rfl, rfl, rfl⟩)

set_option maxHeartbeats 4000000 in
set_option maxRecDepth 100000 in
theorem c_ofLine {a : Am} {S : St} {h : Hp} (hS : IsSt S) {P : Prog} (hV : VB P) (hC : SC h P) {m j : Nat} (hj : j < lnN P m) : CT a 1 mX4_ofLine [rv a 31, .int (nI m), .int (nI j)] S h (Rt (siteAt P m j) S h) := by
  obtain ⟨hV1, hV2, hV3⟩ := id hV
  have hm := lnN_lt hj
  have h8 := hV2 m
  refine met_of (by decide +kernel) (Nat.le_of_ble_eq_true rfl) ?_
  show T a 1 mX4_ofLine 0 [(0, rv a 31), (1, .int (nI m)), (2, .int (nI j))] [] S h _
  refine tr_iload_n (pc := 0) 1 dX4_ofLine_0 rfl rfl ?_
  refine tr_iconst (pc := 1) (v := nI 4) dX4_ofLine_1 (by decide) ?_
  refine tr_callSN (pc := 2) (rest := []) dX4_ofLine_2 nl_X4_25 cs_X9_isOutside rfl rfl (Nat.le_of_ble_eq_true rfl) (by omega) (c_isOut_in (show m < 4 by omega) (by omega)) ?_
  rintro _ _ _ ⟨rfl, rfl, rfl⟩
  show T a 1 mX4_ofLine 5 [(0, rv a 31), (1, .int (nI m)), (2, .int (nI j))] [.int (nI 0)] S h _
  refine tr_if_ne (pc := 5) (tgt := 17) dX4_ofLine_5 (by decide) (nI_z_eq (by omega)) (fun hcc => absurd (by decide) hcc) (fun _ => ?_)
  refine tr_iload_n (pc := 8) 2 dX4_ofLine_8 rfl rfl ?_
  refine tr_bipush (pc := 9) (v := nI 8) dX4_ofLine_9 (by decide) ?_
  refine tr_callSN (pc := 11) (rest := []) dX4_ofLine_11 nl_X4_25 cs_X9_isOutside rfl rfl (Nat.le_of_ble_eq_true rfl) (by omega) (c_isOut_in (show j < 8 by omega) (by omega)) ?_
  rintro _ _ _ ⟨rfl, rfl, rfl⟩
  show T a 1 mX4_ofLine 14 [(0, rv a 31), (1, .int (nI m)), (2, .int (nI j))] [.int (nI 0)] S h _
  refine tr_if_eq (pc := 14) (tgt := 21) dX4_ofLine_14 (by decide) (nI_z_eq (by omega)) (fun _ => ?_) (fun hcc => absurd (by decide) hcc)
  refine tr_aload_n (pc := 21) 0 dX4_ofLine_21 rfl rfl ?_
  refine tr_getR (pc := 22) (q := 33) dX4_ofLine_22 (hS.1 31 (7, 4) rfl) fi_X4_15 rfl (hS.2 31 2 33 rfl) ?_
  refine tr_iload_n (pc := 25) 1 dX4_ofLine_25 rfl rfl ?_
  refine tr_bipush (pc := 26) (v := nI 8) dX4_ofLine_26 (by decide) ?_
  refine tr_imul (pc := 28) (v := nI (m * 8)) dX4_ofLine_28 (pk_mul _ _) ?_
  refine tr_iload_n (pc := 29) 2 dX4_ofLine_29 rfl rfl ?_
  refine tr_iadd (pc := 30) (v := nI (m * 8 + j)) dX4_ofLine_30 (nI_add _ _) ?_
  refine tr_iald (pc := 31) (v := siteAt P m j) (m * 8 + j) dX4_ofLine_31 (hS.1 33 (0, 32) rfl) rfl (by omega) (by decide) (hC.2.2.1 m j hj) ?_
  exact tr_iret (pc := 32) dX4_ofLine_32 rfl rfl (⟨rfl, rfl, rfl⟩)

/-! ===== the reference: its rows ===== -/
/-- only cells of L and fields Fs of the reference change -/
def Fm (Fs L : List Nat) (h h' : Hp) : Prop := (∀ o, o ≠ 50 → o ∉ L → h' o = h o) ∧ ∀ k, k ∉ Fs → h' 50 k = h 50 k
theorem Fm.rf {Fs L : List Nat} {h : Hp} : Fm Fs L h h := ⟨fun _ _ _ => rfl, fun _ _ => rfl⟩
theorem Fm.set {Fs L : List Nat} {h h' : Hp} {o : Nat} {f : Nat → Int32} (k : Fm Fs L h h') (ho : o ∈ L) (h5 : o ≠ 50) : Fm Fs L h (hs h' o f) := by
  refine ⟨fun j h1 h2 => ?_, fun j h1 => ?_⟩
  · rw [hs_ne (fun q => h2 (by rw [q]; exact ho))]; exact k.1 j h1 h2
  · rw [hs_ne (Ne.symm h5)]; exact k.2 j h1
theorem Fm.put {Fs L : List Nat} {h h' : Hp} {p : Nat} {x : Int32} (k : Fm Fs L h h') (hp : p ∈ Fs) : Fm Fs L h (hs h' 50 (upd (h' 50) p x)) := by
  refine ⟨fun j h1 h2 => ?_, fun j h1 => ?_⟩
  · rw [hs_ne h1]; exact k.1 j h1 h2
  · rw [hs_same, upd_n (fun q => h1 (by rw [q]; exact hp))]; exact k.2 j h1
theorem Fm.trans {Fs L : List Nat} {h h1 h2 : Hp} (k1 : Fm Fs L h h1) (k2 : Fm Fs L h1 h2) : Fm Fs L h h2 := ⟨fun j a b => (k2.1 j a b).trans (k1.1 j a b), fun j a => (k2.2 j a).trans (k1.2 j a)⟩
theorem Fm.mono {Fs L Fs' L' : List Nat} {h h' : Hp} (k : Fm Fs L h h') (h1 : ∀ o ∈ Fs, o ∈ Fs') (h2 : ∀ o ∈ L, o ∈ L') : Fm Fs' L' h h' := ⟨fun j a b => k.1 j a (fun q => b (h2 j q)), fun j a => k.2 j (fun q => a (h1 j q))⟩
/-- a part of a line, as the reference keeps it -/
def cmp (l : Ln) (w : Nat) : Int32 := match w with
  | 0 => nI l.1
  | 1 => nI l.2.1
  | 2 => if hasY l.1 = true then nI l.2.2.1 else -1
  | _ => if l.1 = 7 then nI l.2.2.2 else -1
/-- a program in a row of the reference, from place b on -/
def RW (f : Nat → Int32) (b : Nat) (P : Prog) : Prop := f b = nI P.length ∧ (∀ m, m < P.length → f (b + (1 + 33 * m)) = nI (lnN P m)) ∧ ∀ m i w, m < P.length → i < lnN P m → w < 4 → f (b + (2 + 33 * m + 4 * i + w)) = cmp (gt P m i) w
def NP (h : Hp) (P : Prog) : Prop := h 51 0 = nI P.length ∧ (∀ m, m < P.length → h 51 (1 + 33 * m) = nI (lnN P m)) ∧ ∀ m i w, m < P.length → i < lnN P m → w < 4 → h 51 (2 + 33 * m + 4 * i + w) = cmp (gt P m i) w
theorem NP.fm {Fs L : List Nat} {h h' : Hp} {P : Prog} (hN : NP h P) (k : Fm Fs L h h') (h1 : 51 ∉ L) : NP h' P := by
  unfold NP
  rw [k.1 51 (by decide) h1]
  exact hN
theorem lt_pred {x : Int32} {c : Nat} (h : nI c ≤ x) (hc : c < 2 ^ 30) : nI c - nI 1 < x := by
  rw [Int32.lt_iff_toInt_lt, pk_sub_toInt hc (by decide)]
  rw [Int32.le_iff_toInt_le, nI_toInt (by omega)] at h
  omega
set_option maxHeartbeats 4000000 in
set_option maxRecDepth 100000 in
theorem c_min_in {a : Am} {S : St} {h : Hp} {x y z : Int32} (h1 : ¬ x < y) (h2 : ¬ z < x) : CT a 0 mX10_in [.int x, .int y, .int z] S h (Rt (nI 1) S h) := by
  refine met_of (by decide +kernel) (Nat.le_of_ble_eq_true rfl) ?_
  show T a 0 mX10_in 0 [(0, .int x), (1, .int y), (2, .int z)] [] S h _
  refine tr_iload_n (pc := 0) 0 dX10_in_0 rfl rfl ?_
  refine tr_iload_n (pc := 1) 1 dX10_in_1 rfl rfl ?_
  refine tr_icmp_lt (pc := 2) (tgt := 14) dX10_in_2 (by decide) Iff.rfl (fun hcc => absurd hcc (h1)) (fun _ => ?_)
  refine tr_iload_n (pc := 5) 0 dX10_in_5 rfl rfl ?_
  refine tr_iload_n (pc := 6) 2 dX10_in_6 rfl rfl ?_
  refine tr_icmp_gt (pc := 7) (tgt := 14) dX10_in_7 (by decide) Iff.rfl (fun hcc => absurd hcc (h2)) (fun _ => ?_)
  refine tr_iconst (pc := 10) (v := nI 1) dX10_in_10 (by decide) ?_
  refine tr_goto (pc := 11) (tgt := 15) dX10_in_11 (by decide) ?_
  exact tr_iret (pc := 15) dX10_in_15 rfl (by decide) (⟨rfl, rfl, rfl⟩)

set_option maxHeartbeats 4000000 in
set_option maxRecDepth 100000 in
theorem c_min_out {a : Am} {S : St} {h : Hp} {x y z : Int32} (h1 : x < y ∨ z < x) : CT a 0 mX10_in [.int x, .int y, .int z] S h (Rt (nI 0) S h) := by
  refine met_of (by decide +kernel) (Nat.le_of_ble_eq_true rfl) ?_
  show T a 0 mX10_in 0 [(0, .int x), (1, .int y), (2, .int z)] [] S h _
  refine tr_iload_n (pc := 0) 0 dX10_in_0 rfl rfl ?_
  refine tr_iload_n (pc := 1) 1 dX10_in_1 rfl rfl ?_
  refine tr_icmp_lt (pc := 2) (tgt := 14) dX10_in_2 (by decide) Iff.rfl (fun q2 => ?_) (fun q2 => ?_)
  · skip
    refine tr_iconst (pc := 14) (v := nI 0) dX10_in_14 (by decide) ?_
    exact tr_iret (pc := 15) dX10_in_15 rfl (by decide) (⟨rfl, rfl, rfl⟩)
  · skip
    refine tr_iload_n (pc := 5) 0 dX10_in_5 rfl rfl ?_
    refine tr_iload_n (pc := 6) 2 dX10_in_6 rfl rfl ?_
    refine tr_icmp_gt (pc := 7) (tgt := 14) dX10_in_7 (by decide) Iff.rfl (fun _ => ?_) (fun hcc => absurd (h1.resolve_left q2) hcc)
    refine tr_iconst (pc := 14) (v := nI 0) dX10_in_14 (by decide) ?_
    exact tr_iret (pc := 15) dX10_in_15 rfl (by decide) (⟨rfl, rfl, rfl⟩)

set_option maxHeartbeats 4000000 in
set_option maxRecDepth 100000 in
theorem c_mlines {a : Am} {S : St} {h : Hp} (hS : IsSt S) {P : Prog} (hV : VB P) (hN : NP h P) {m : Nat} (hm : m < P.length) : CT a 0 mX10_linesOf [rv a 50, .int (nI m)] S h (Rt (nI (lnN P m)) S h) := by
  obtain ⟨hV1, hV2, hV3⟩ := id hV
  refine met_of (by decide +kernel) (Nat.le_of_ble_eq_true rfl) ?_
  show T a 0 mX10_linesOf 0 [(0, rv a 50), (1, .int (nI m))] [] S h _
  refine tr_aload_n (pc := 0) 0 dX10_linesOf_0 rfl rfl ?_
  refine tr_getR (pc := 1) (q := 51) dX10_linesOf_1 (hS.1 50 (13, 45) rfl) fi_X10_7 rfl (hS.2 50 0 51 rfl) ?_
  refine tr_iconst (pc := 4) (v := nI 1) dX10_linesOf_4 (by decide) ?_
  refine tr_bipush (pc := 5) (v := nI 33) dX10_linesOf_5 (by decide) ?_
  refine tr_iload_n (pc := 7) 1 dX10_linesOf_7 rfl rfl ?_
  refine tr_imul (pc := 8) (v := nI (33 * m)) dX10_linesOf_8 (pk_mul _ _) ?_
  refine tr_iadd (pc := 9) (v := nI (1 + (33 * m))) dX10_linesOf_9 (nI_add _ _) ?_
  refine tr_iald (pc := 10) (v := nI (lnN P m)) (1 + (33 * m)) dX10_linesOf_10 (hS.1 51 (0, 133) rfl) rfl (by omega) (by decide) (hN.2.1 m hm) ?_
  exact tr_iret (pc := 11) dX10_linesOf_11 rfl rfl (⟨rfl, rfl, rfl⟩)

set_option maxHeartbeats 4000000 in
set_option maxRecDepth 100000 in
theorem c_mline {a : Am} {S : St} {h : Hp} (hS : IsSt S) {P : Prog} (hV : VB P) (hN : NP h P) {m i w : Nat} (hi : i < lnN P m) (hw : w < 4) : CT a 0 mX10_lineAt [rv a 50, .int (nI m), .int (nI i), .int (nI w)] S h (Rt (cmp (gt P m i) w) S h) := by
  obtain ⟨hV1, hV2, hV3⟩ := id hV
  have hm := lnN_lt hi
  have h8 := hV2 m
  refine met_of (by decide +kernel) (Nat.le_of_ble_eq_true rfl) ?_
  show T a 0 mX10_lineAt 0 [(0, rv a 50), (1, .int (nI m)), (2, .int (nI i)), (3, .int (nI w))] [] S h _
  refine tr_aload_n (pc := 0) 0 dX10_lineAt_0 rfl rfl ?_
  refine tr_getR (pc := 1) (q := 51) dX10_lineAt_1 (hS.1 50 (13, 45) rfl) fi_X10_7 rfl (hS.2 50 0 51 rfl) ?_
  refine tr_iconst (pc := 4) (v := nI 2) dX10_lineAt_4 (by decide) ?_
  refine tr_bipush (pc := 5) (v := nI 33) dX10_lineAt_5 (by decide) ?_
  refine tr_iload_n (pc := 7) 1 dX10_lineAt_7 rfl rfl ?_
  refine tr_imul (pc := 8) (v := nI (33 * m)) dX10_lineAt_8 (pk_mul _ _) ?_
  refine tr_iadd (pc := 9) (v := nI (2 + (33 * m))) dX10_lineAt_9 (nI_add _ _) ?_
  refine tr_iconst (pc := 10) (v := nI 4) dX10_lineAt_10 (by decide) ?_
  refine tr_iload_n (pc := 11) 2 dX10_lineAt_11 rfl rfl ?_
  refine tr_imul (pc := 12) (v := nI (4 * i)) dX10_lineAt_12 (pk_mul _ _) ?_
  refine tr_iadd (pc := 13) (v := nI (2 + (33 * m) + (4 * i))) dX10_lineAt_13 (nI_add _ _) ?_
  refine tr_iload_n (pc := 14) 3 dX10_lineAt_14 rfl rfl ?_
  refine tr_iadd (pc := 15) (v := nI (2 + (33 * m) + (4 * i) + w)) dX10_lineAt_15 (nI_add _ _) ?_
  refine tr_iald (pc := 16) (v := cmp (gt P m i) w) (2 + (33 * m) + (4 * i) + w) dX10_lineAt_16 (hS.1 51 (0, 133) rfl) rfl (by omega) (by decide) (hN.2.2 m i w hm hi hw) ?_
  exact tr_iret (pc := 17) dX10_lineAt_17 rfl rfl (⟨rfl, rfl, rfl⟩)

set_option maxHeartbeats 4000000 in
set_option maxRecDepth 100000 in
theorem c_misM_in {a : Am} {S : St} {h : Hp} (hS : IsSt S) {P : Prog} (hV : VB P) (hN : NP h P) {m : Nat} (hm : m < P.length) : CT a 1 mX10_isMethod [rv a 50, .int (nI m)] S h (Rt (nI 1) S h) := by
  obtain ⟨hV1, hV2, hV3⟩ := id hV
  refine met_of (by decide +kernel) (Nat.le_of_ble_eq_true rfl) ?_
  show T a 1 mX10_isMethod 0 [(0, rv a 50), (1, .int (nI m))] [] S h _
  refine tr_iload_n (pc := 0) 1 dX10_isMethod_0 rfl rfl ?_
  refine tr_iconst (pc := 1) (v := nI 0) dX10_isMethod_1 (by decide) ?_
  refine tr_aload_n (pc := 2) 0 dX10_isMethod_2 rfl rfl ?_
  refine tr_getR (pc := 3) (q := 51) dX10_isMethod_3 (hS.1 50 (13, 45) rfl) fi_X10_7 rfl (hS.2 50 0 51 rfl) ?_
  refine tr_iconst (pc := 6) (v := nI 0) dX10_isMethod_6 (by decide) ?_
  refine tr_iald (pc := 7) (v := nI P.length) 0 dX10_isMethod_7 (hS.1 51 (0, 133) rfl) rfl (by omega) (by decide) hN.1 ?_
  refine tr_iconst (pc := 8) (v := nI 1) dX10_isMethod_8 (by decide) ?_
  refine tr_isub (pc := 9) (v := nI (P.length - 1)) dX10_isMethod_9 (pk_sub (by omega)) ?_
  refine tr_callS (pc := 10) (rest := []) dX10_isMethod_10 ml_X10_99 cs_X10_in rfl rfl (Nat.le_of_ble_eq_true rfl) (by omega) (c_min_in (nI_pos (by omega)) (by rw [nI_ltI (by omega) (by omega)]; omega)) ?_
  rintro _ _ _ ⟨rfl, rfl, rfl⟩
  show T a 1 mX10_isMethod 13 [(0, rv a 50), (1, .int (nI m))] [.int (nI 1)] S h _
  exact tr_iret (pc := 13) dX10_isMethod_13 rfl (by decide) (⟨rfl, rfl, rfl⟩)

set_option maxHeartbeats 4000000 in
set_option maxRecDepth 100000 in
theorem c_misM_out {a : Am} {S : St} {h : Hp} (hS : IsSt S) {P : Prog} (hV : VB P) (hN : NP h P) {x : Int32} (hx : outN x P.length) : CT a 1 mX10_isMethod [rv a 50, .int x] S h (Rt (nI 0) S h) := by
  obtain ⟨hV1, hV2, hV3⟩ := id hV
  refine met_of (by decide +kernel) (Nat.le_of_ble_eq_true rfl) ?_
  show T a 1 mX10_isMethod 0 [(0, rv a 50), (1, .int x)] [] S h _
  refine tr_iload_n (pc := 0) 1 dX10_isMethod_0 rfl rfl ?_
  refine tr_iconst (pc := 1) (v := nI 0) dX10_isMethod_1 (by decide) ?_
  refine tr_aload_n (pc := 2) 0 dX10_isMethod_2 rfl rfl ?_
  refine tr_getR (pc := 3) (q := 51) dX10_isMethod_3 (hS.1 50 (13, 45) rfl) fi_X10_7 rfl (hS.2 50 0 51 rfl) ?_
  refine tr_iconst (pc := 6) (v := nI 0) dX10_isMethod_6 (by decide) ?_
  refine tr_iald (pc := 7) (v := nI P.length) 0 dX10_isMethod_7 (hS.1 51 (0, 133) rfl) rfl (by omega) (by decide) hN.1 ?_
  refine tr_iconst (pc := 8) (v := nI 1) dX10_isMethod_8 (by decide) ?_
  refine tr_isub (pc := 9) (v := nI P.length - nI 1) dX10_isMethod_9 rfl ?_
  refine tr_callS (pc := 10) (rest := []) dX10_isMethod_10 ml_X10_99 cs_X10_in rfl rfl (Nat.le_of_ble_eq_true rfl) (by omega) (c_min_out (hx.imp (fun q => q) (fun q => lt_pred q (by omega)))) ?_
  rintro _ _ _ ⟨rfl, rfl, rfl⟩
  show T a 1 mX10_isMethod 13 [(0, rv a 50), (1, .int x)] [.int (nI 0)] S h _
  exact tr_iret (pc := 13) dX10_isMethod_13 rfl (by decide) (⟨rfl, rfl, rfl⟩)

set_option maxHeartbeats 4000000 in
set_option maxRecDepth 100000 in
theorem c_misL_in {a : Am} {S : St} {h : Hp} (hS : IsSt S) {P : Prog} (hV : VB P) (hN : NP h P) {m j : Nat} (hj : j < lnN P m) : CT a 2 mX10_isLine [rv a 50, .int (nI m), .int (nI j)] S h (Rt (nI 1) S h) := by
  obtain ⟨hV1, hV2, hV3⟩ := id hV
  have h8 := hV2 m
  refine met_of (by decide +kernel) (Nat.le_of_ble_eq_true rfl) ?_
  show T a 2 mX10_isLine 0 [(0, rv a 50), (1, .int (nI m)), (2, .int (nI j))] [] S h _
  refine tr_aload_n (pc := 0) 0 dX10_isLine_0 rfl rfl ?_
  refine tr_iload_n (pc := 1) 1 dX10_isLine_1 rfl rfl ?_
  refine tr_callV (pc := 2) (rest := []) (ci := 10) dX10_isLine_2 ml_X10_165 cv_X10_isMethod rfl rfl (Nat.le_of_ble_eq_true rfl) (hS.1 50 (13, 45) rfl) rfl (by omega) (c_misM_in hS hV hN (lnN_lt hj)) ?_
  rintro _ _ _ ⟨rfl, rfl, rfl⟩
  show T a 2 mX10_isLine 5 [(0, rv a 50), (1, .int (nI m)), (2, .int (nI j))] [.int (nI 1)] S h _
  refine tr_if_eq (pc := 5) (tgt := 27) dX10_isLine_5 (by decide) (nI_z_eq (by omega)) (fun hcc => absurd hcc (by decide)) (fun _ => ?_)
  refine tr_iload_n (pc := 8) 2 dX10_isLine_8 rfl rfl ?_
  refine tr_iconst (pc := 9) (v := nI 0) dX10_isLine_9 (by decide) ?_
  refine tr_aload_n (pc := 10) 0 dX10_isLine_10 rfl rfl ?_
  refine tr_iload_n (pc := 11) 1 dX10_isLine_11 rfl rfl ?_
  refine tr_callV (pc := 12) (rest := [.int (nI 0), .int (nI j)]) (ci := 10) dX10_isLine_12 ml_X10_168 cv_X10_linesOf rfl rfl (Nat.le_of_ble_eq_true rfl) (hS.1 50 (13, 45) rfl) rfl (by omega) (c_mlines hS hV hN (lnN_lt hj)) ?_
  rintro _ _ _ ⟨rfl, rfl, rfl⟩
  show T a 2 mX10_isLine 15 [(0, rv a 50), (1, .int (nI m)), (2, .int (nI j))] [.int (nI (lnN P m)), .int (nI 0), .int (nI j)] S h _
  refine tr_iconst (pc := 15) (v := nI 1) dX10_isLine_15 (by decide) ?_
  refine tr_isub (pc := 16) (v := nI ((lnN P m) - 1)) dX10_isLine_16 (pk_sub (by omega)) ?_
  refine tr_callS (pc := 17) (rest := []) dX10_isLine_17 ml_X10_99 cs_X10_in rfl rfl (Nat.le_of_ble_eq_true rfl) (by omega) (c_min_in (nI_pos (by omega)) (by rw [nI_ltI (by omega) (by omega)]; omega)) ?_
  rintro _ _ _ ⟨rfl, rfl, rfl⟩
  show T a 2 mX10_isLine 20 [(0, rv a 50), (1, .int (nI m)), (2, .int (nI j))] [.int (nI 1)] S h _
  refine tr_if_eq (pc := 20) (tgt := 27) dX10_isLine_20 (by decide) (nI_z_eq (by omega)) (fun hcc => absurd hcc (by decide)) (fun _ => ?_)
  refine tr_iconst (pc := 23) (v := nI 1) dX10_isLine_23 (by decide) ?_
  refine tr_goto (pc := 24) (tgt := 28) dX10_isLine_24 (by decide) ?_
  exact tr_iret (pc := 28) dX10_isLine_28 rfl (by decide) (⟨rfl, rfl, rfl⟩)

set_option maxHeartbeats 4000000 in
set_option maxRecDepth 100000 in
theorem c_misL_o1 {a : Am} {S : St} {h : Hp} (hS : IsSt S) {P : Prog} (hV : VB P) (hN : NP h P) {x y : Int32} (hx : outN x P.length) : CT a 2 mX10_isLine [rv a 50, .int x, .int y] S h (Rt (nI 0) S h) := by
  obtain ⟨hV1, hV2, hV3⟩ := id hV
  refine met_of (by decide +kernel) (Nat.le_of_ble_eq_true rfl) ?_
  show T a 2 mX10_isLine 0 [(0, rv a 50), (1, .int x), (2, .int y)] [] S h _
  refine tr_aload_n (pc := 0) 0 dX10_isLine_0 rfl rfl ?_
  refine tr_iload_n (pc := 1) 1 dX10_isLine_1 rfl rfl ?_
  refine tr_callV (pc := 2) (rest := []) (ci := 10) dX10_isLine_2 ml_X10_165 cv_X10_isMethod rfl rfl (Nat.le_of_ble_eq_true rfl) (hS.1 50 (13, 45) rfl) rfl (by omega) (c_misM_out hS hV hN hx) ?_
  rintro _ _ _ ⟨rfl, rfl, rfl⟩
  show T a 2 mX10_isLine 5 [(0, rv a 50), (1, .int x), (2, .int y)] [.int (nI 0)] S h _
  refine tr_if_eq (pc := 5) (tgt := 27) dX10_isLine_5 (by decide) (nI_z_eq (by omega)) (fun _ => ?_) (fun hcc => absurd (by decide) hcc)
  refine tr_iconst (pc := 27) (v := nI 0) dX10_isLine_27 (by decide) ?_
  exact tr_iret (pc := 28) dX10_isLine_28 rfl (by decide) (⟨rfl, rfl, rfl⟩)

set_option maxHeartbeats 4000000 in
set_option maxRecDepth 100000 in
theorem c_misL_o2 {a : Am} {S : St} {h : Hp} (hS : IsSt S) {P : Prog} (hV : VB P) (hN : NP h P) {m : Nat} {y : Int32} (hm : m < P.length) (hy : outN y (lnN P m)) : CT a 2 mX10_isLine [rv a 50, .int (nI m), .int y] S h (Rt (nI 0) S h) := by
  obtain ⟨hV1, hV2, hV3⟩ := id hV
  have h8 := hV2 m
  refine met_of (by decide +kernel) (Nat.le_of_ble_eq_true rfl) ?_
  show T a 2 mX10_isLine 0 [(0, rv a 50), (1, .int (nI m)), (2, .int y)] [] S h _
  refine tr_aload_n (pc := 0) 0 dX10_isLine_0 rfl rfl ?_
  refine tr_iload_n (pc := 1) 1 dX10_isLine_1 rfl rfl ?_
  refine tr_callV (pc := 2) (rest := []) (ci := 10) dX10_isLine_2 ml_X10_165 cv_X10_isMethod rfl rfl (Nat.le_of_ble_eq_true rfl) (hS.1 50 (13, 45) rfl) rfl (by omega) (c_misM_in hS hV hN hm) ?_
  rintro _ _ _ ⟨rfl, rfl, rfl⟩
  show T a 2 mX10_isLine 5 [(0, rv a 50), (1, .int (nI m)), (2, .int y)] [.int (nI 1)] S h _
  refine tr_if_eq (pc := 5) (tgt := 27) dX10_isLine_5 (by decide) (nI_z_eq (by omega)) (fun hcc => absurd hcc (by decide)) (fun _ => ?_)
  refine tr_iload_n (pc := 8) 2 dX10_isLine_8 rfl rfl ?_
  refine tr_iconst (pc := 9) (v := nI 0) dX10_isLine_9 (by decide) ?_
  refine tr_aload_n (pc := 10) 0 dX10_isLine_10 rfl rfl ?_
  refine tr_iload_n (pc := 11) 1 dX10_isLine_11 rfl rfl ?_
  refine tr_callV (pc := 12) (rest := [.int (nI 0), .int y]) (ci := 10) dX10_isLine_12 ml_X10_168 cv_X10_linesOf rfl rfl (Nat.le_of_ble_eq_true rfl) (hS.1 50 (13, 45) rfl) rfl (by omega) (c_mlines hS hV hN hm) ?_
  rintro _ _ _ ⟨rfl, rfl, rfl⟩
  show T a 2 mX10_isLine 15 [(0, rv a 50), (1, .int (nI m)), (2, .int y)] [.int (nI (lnN P m)), .int (nI 0), .int y] S h _
  refine tr_iconst (pc := 15) (v := nI 1) dX10_isLine_15 (by decide) ?_
  refine tr_isub (pc := 16) (v := nI (lnN P m) - nI 1) dX10_isLine_16 rfl ?_
  refine tr_callS (pc := 17) (rest := []) dX10_isLine_17 ml_X10_99 cs_X10_in rfl rfl (Nat.le_of_ble_eq_true rfl) (by omega) (c_min_out (hy.imp (fun q => q) (fun q => lt_pred q (by omega)))) ?_
  rintro _ _ _ ⟨rfl, rfl, rfl⟩
  show T a 2 mX10_isLine 20 [(0, rv a 50), (1, .int (nI m)), (2, .int y)] [.int (nI 0)] S h _
  refine tr_if_eq (pc := 20) (tgt := 27) dX10_isLine_20 (by decide) (nI_z_eq (by omega)) (fun _ => ?_) (fun hcc => absurd (by decide) hcc)
  refine tr_iconst (pc := 27) (v := nI 0) dX10_isLine_27 (by decide) ?_
  exact tr_iret (pc := 28) dX10_isLine_28 rfl (by decide) (⟨rfl, rfl, rfl⟩)

/-! ===== the reference: findSites ===== -/
def SJ (h : Hp) (P : Prog) (m i : Nat) : Prop := h 50 20 = nI (sno P m i) ∧ (∀ s, s < sno P m i → h 58 s = nI (sG (sl P m i) s).1 ∧ h 59 s = nI (sG (sl P m i) s).2) ∧ ∀ m' i', i' < lnN P m' → (m' < m ∨ m' = m ∧ i' < i) → h 60 (8 * m' + i') = siteAt P m' i'
def SN (h : Hp) (P : Prog) : Prop := h 50 20 = nI (nSt P) ∧ (∀ s, s < nSt P → h 58 s = nI (sM P s) ∧ h 59 s = nI (sI P s)) ∧ ∀ m i, i < lnN P m → h 60 (8 * m + i) = siteAt P m i
theorem SN.fm {Fs L : List Nat} {h h' : Hp} {P : Prog} (hN : SN h P) (k : Fm Fs L h h') (h0 : 20 ∉ Fs) (h1 : 58 ∉ L) (h2 : 59 ∉ L) (h3 : 60 ∉ L) : SN h' P := by
  unfold SN
  rw [k.1 58 (by decide) h1, k.1 59 (by decide) h2, k.1 60 (by decide) h3, k.2 20 h0]
  exact hN
theorem sj_m {h : Hp} {P : Prog} {m : Nat} (k : SJ h P m (lnN P m)) : SJ h P (m + 1) 0 := by
  obtain ⟨k1, k2, k3⟩ := k
  refine ⟨by rw [sno_m]; exact k1, fun s hs => by rw [sl_m]; exact k2 s (by rw [sno_m] at hs; exact hs), fun m' i' hi' q => k3 m' i' hi' ?_⟩
  rcases q with q | q
  · by_cases e : m' = m
    · subst e; exact Or.inr ⟨rfl, hi'⟩
    · exact Or.inl (by omega)
  · omega
theorem sj_n {h : Hp} {P : Prog} {m i : Nat} (k : SJ h P m i) (hi : i < lnN P m) (hV : VB P) (h0 : ¬ (gt P m i).1 = 0) : SJ (hs h 60 (upd (h 60) (8 * m + i) (-1))) P m (i + 1) := by
  obtain ⟨k1, k2, k3⟩ := k
  obtain ⟨v1, v2, v3⟩ := hV
  refine ⟨by rw [sno_n h0]; exact k1, fun s hs => by rw [sl_n h0]; exact k2 s (by rw [sno_n h0] at hs; exact hs), fun m' i' hi' q => ?_⟩
  rw [hs_same]
  have h8 := v2 m
  have h9 := v2 m'
  by_cases e : m' = m ∧ i' = i
  · obtain ⟨rfl, rfl⟩ := e
    rw [upd_s]
    unfold siteAt
    rw [if_neg h0]
  · rw [upd_n (by
      intro e2
      apply e
      by_cases e3 : m' = m
      · subst e3; omega
      · omega)]
    exact k3 m' i' hi' (by omega)
theorem sj_y {h : Hp} {P : Prog} {m i : Nat} (k : SJ h P m i) (hi : i < lnN P m) (hV : VB P) (h0 : (gt P m i).1 = 0) {f : Nat → Int32} (hf : f = upd (upd (h 60) (8 * m + i) (-1)) (8 * m + i) (nI (sno P m i))) {h' : Hp} (e1 : h' 50 20 = nI (sno P m i + 1)) (e2 : h' 58 = upd (h 58) (sno P m i) (nI m)) (e3 : h' 59 = upd (h 59) (sno P m i) (nI i)) (e4 : h' 60 = f) : SJ h' P m (i + 1) := by
  obtain ⟨k1, k2, k3⟩ := k
  obtain ⟨v1, v2, v3⟩ := hV
  refine ⟨by rw [sno_y h0]; exact e1, fun s hs => ?_, fun m' i' hi' q => ?_⟩
  · rw [e2, e3, sl_y h0, sG_app]
    rw [sno_y h0] at hs
    by_cases e : s = sno P m i
    · subst e
      rw [upd_s, upd_s, if_pos (by rfl)]
      exact ⟨rfl, rfl⟩
    · rw [upd_n e, upd_n e, if_neg (by exact e)]
      exact k2 s (by omega)
  · have h8 := v2 m
    have h9 := v2 m'
    rw [e4, hf]
    by_cases e : m' = m ∧ i' = i
    · obtain ⟨rfl, rfl⟩ := e
      rw [upd_s]
      unfold siteAt
      rw [if_pos h0]
    · have hne : 8 * m' + i' ≠ 8 * m + i := by
        intro e2
        apply e
        by_cases e3 : m' = m
        · subst e3; omega
        · omega
      rw [upd_n hne, upd_n hne]
      exact k3 m' i' hi' (by omega)
theorem sj_end {h : Hp} {P : Prog} (k : SJ h P P.length 0) : SN h P := by
  obtain ⟨k1, k2, k3⟩ := k
  have e : sl P P.length 0 = sitesP P P.length := by simp [sl, sitesM]
  have e2 : sno P P.length 0 = nSt P := by unfold sno; rw [e]; rfl
  rw [e2] at k1 k2
  rw [e] at k2
  exact ⟨k1, k2, fun m i hi => k3 m i hi (Or.inl (lnN_lt hi))⟩
set_option maxHeartbeats 4000000 in
set_option maxRecDepth 100000 in
theorem c_findSites {a : Am} {S : St} {h : Hp} (hS : IsSt S) {P : Prog} (hV : VB P) (hN : NP h P) : CT a 1 mX10_findSites [rv a 50] S h (fun v S' h' => v = none ∧ S = S' ∧ SN h' P ∧ Fm [20] [58, 59, 60] h h') := by
  obtain ⟨hV1, hV2, hV3⟩ := id hV
  refine met_of (by decide +kernel) (Nat.le_of_ble_eq_true rfl) ?_
  show T a 1 mX10_findSites 0 [(0, rv a 50)] [] S h _
  refine tr_aload_n (pc := 0) 0 dX10_findSites_0 rfl rfl ?_
  refine tr_iconst (pc := 1) (v := nI 0) dX10_findSites_1 (by decide) ?_
  refine tr_putI (pc := 2) (x := nI 0) dX10_findSites_2 (hS.1 50 (13, 45) rfl) fi_X10_175 rfl rfl rfl ?_
  refine tr_iconst (pc := 5) (v := nI 0) dX10_findSites_5 (by decide) ?_
  refine tr_istore_n (pc := 6) (lv' := [(1, .int (nI 0)), (0, rv a 50)]) dX10_findSites_6 rfl (by decide) rfl ?_
  refine tr_sub (pc := 7) (lv' := [(0, rv a 50), (1, .int (nI 0))]) [1, 0] rfl ?_
  have L7 : ∀ (fu : Nat) (m : Nat) (h1 : Hp), P.length - m < fu → m ≤ P.length → SJ h1 P m 0 → Fm [20] [58, 59, 60] h h1 → T a 1 mX10_findSites 7 [(0, rv a 50), (1, .int (nI m))] [] S h1 (fun v S' h' => v = none ∧ S = S' ∧ SN h' P ∧ Fm [20] [58, 59, 60] h h') := by
    intro fu
    induction fu with
    | zero => intro m h1 hu hm hI hf; omega
    | succ fu ih =>
      intro m h1 hu hm hI hf
      have hN1 : NP h1 P := hN.fm hf (by decide)
      refine tr_iload_n (pc := 7) 1 dX10_findSites_7 rfl rfl ?_
      refine tr_aload_n (pc := 8) 0 dX10_findSites_8 rfl rfl ?_
      refine tr_getR (pc := 9) (q := 51) dX10_findSites_9 (hS.1 50 (13, 45) rfl) fi_X10_7 rfl (hS.2 50 0 51 rfl) ?_
      refine tr_iconst (pc := 12) (v := nI 0) dX10_findSites_12 (by decide) ?_
      refine tr_iald (pc := 13) (v := nI P.length) 0 dX10_findSites_13 (hS.1 51 (0, 133) rfl) rfl (by omega) (by decide) hN1.1 ?_
      refine tr_icmp_ge (pc := 14) (tgt := 107) dX10_findSites_14 (by decide) (nI_leI (by omega) (by omega)) (fun q14 => ?_) (fun q14 => ?_)
      · skip
        exact tr_vret (pc := 107) dX10_findSites_107 rfl (⟨rfl, rfl, sj_end (by rw [show P.length = m by omega]; exact hI), hf⟩)
      · skip
        have h8 := hV2 m
        refine tr_iconst (pc := 17) (v := nI 0) dX10_findSites_17 (by decide) ?_
        refine tr_istore_n (pc := 18) (lv' := [(2, .int (nI 0)), (0, rv a 50), (1, .int (nI m))]) dX10_findSites_18 rfl (by decide) rfl ?_
        refine tr_sub (pc := 19) (lv' := [(0, rv a 50), (1, .int (nI m)), (2, .int (nI 0))]) [1, 2, 0] rfl ?_
        have L19 : ∀ (fu : Nat) (i : Nat) (h2 : Hp), lnN P m - i < fu → i ≤ lnN P m → SJ h2 P m i → Fm [20] [58, 59, 60] h h2 → T a 1 mX10_findSites 19 [(0, rv a 50), (1, .int (nI m)), (2, .int (nI i))] [] S h2 (fun v S' h' => v = none ∧ S = S' ∧ SN h' P ∧ Fm [20] [58, 59, 60] h h') := by
          intro fu
          induction fu with
          | zero => intro i h2 hu2 hi hI2 hf2; omega
          | succ fu ih2 =>
            intro i h2 hu2 hi hI2 hf2
            have hN2 : NP h2 P := hN.fm hf2 (by decide)
            refine tr_iload_n (pc := 19) 2 dX10_findSites_19 rfl rfl ?_
            refine tr_aload_n (pc := 20) 0 dX10_findSites_20 rfl rfl ?_
            refine tr_iload_n (pc := 21) 1 dX10_findSites_21 rfl rfl ?_
            refine tr_callV (pc := 22) (rest := [.int (nI i)]) (ci := 10) dX10_findSites_22 ml_X10_168 cv_X10_linesOf rfl rfl (Nat.le_of_ble_eq_true rfl) (hS.1 50 (13, 45) rfl) rfl (by decide) (c_mlines hS hV hN2 (by omega)) ?_
            rintro _ _ _ ⟨rfl, rfl, rfl⟩
            show T a 1 mX10_findSites 25 [(0, rv a 50), (1, .int (nI m)), (2, .int (nI i))] [.int (nI (lnN P m)), .int (nI i)] S h2 _
            refine tr_icmp_ge (pc := 25) (tgt := 101) dX10_findSites_25 (by decide) (nI_leI (by omega) (by omega)) (fun q25 => ?_) (fun q25 => ?_)
            · skip
              refine tr_iinc (pc := 101) (v := nI (m + 1)) (lv' := [(1, .int (nI (m + 1))), (0, rv a 50), (2, .int (nI i))]) 1 dX10_findSites_101 rfl (by rw [show Int32.ofInt 1 = nI 1 from by decide, nI_add]) (by decide) rfl ?_
              refine tr_goto (pc := 104) (tgt := 7) dX10_findSites_104 (by decide) ?_
              refine tr_sub (pc := 7) (lv' := [(0, rv a 50), (1, .int (nI (m + 1)))]) [1, 0] rfl ?_
              exact ih (m + 1) h2 (by omega) (by omega) (sj_m (by rw [show lnN P m = i by omega]; exact hI2)) hf2
            · skip
              have hil : i < lnN P m := by omega
              have hs1 := sno_le hV m i
              refine tr_aload_n (pc := 28) 0 dX10_findSites_28 rfl rfl ?_
              refine tr_getR (pc := 29) (q := 60) dX10_findSites_29 (hS.1 50 (13, 45) rfl) fi_X10_37 rfl (hS.2 50 19 60 rfl) ?_
              refine tr_bipush (pc := 32) (v := nI 8) dX10_findSites_32 (by decide) ?_
              refine tr_iload_n (pc := 34) 1 dX10_findSites_34 rfl rfl ?_
              refine tr_imul (pc := 35) (v := nI (8 * m)) dX10_findSites_35 (pk_mul _ _) ?_
              refine tr_iload_n (pc := 36) 2 dX10_findSites_36 rfl rfl ?_
              refine tr_iadd (pc := 37) (v := nI (8 * m + i)) dX10_findSites_37 (nI_add _ _) ?_
              refine tr_iconst (pc := 38) (v := -1) dX10_findSites_38 (by decide) ?_
              refine tr_iast (pc := 39) (8 * m + i) dX10_findSites_39 (hS.1 60 (0, 32) rfl) rfl (by omega) (by decide) ?_
              refine tr_aload_n (pc := 40) 0 dX10_findSites_40 rfl rfl ?_
              refine tr_iload_n (pc := 41) 1 dX10_findSites_41 rfl rfl ?_
              refine tr_iload_n (pc := 42) 2 dX10_findSites_42 rfl rfl ?_
              refine tr_iconst (pc := 43) (v := nI 0) dX10_findSites_43 (by decide) ?_
              refine tr_callV (pc := 44) (rest := []) (ci := 10) dX10_findSites_44 ml_X10_178 cv_X10_lineAt rfl rfl (Nat.le_of_ble_eq_true rfl) (hS.1 50 (13, 45) rfl) rfl (by decide) (c_mline hS hV (hN2.fm (Fm.rf.set (L := [60]) (Fs := []) (by decide) (by decide)) (by decide)) hil (show 0 < 4 by decide)) ?_
              rintro _ _ _ ⟨rfl, rfl, rfl⟩
              show T a 1 mX10_findSites 47 [(0, rv a 50), (1, .int (nI m)), (2, .int (nI i))] [.int (nI ((gt P m i).1))] S (hs h2 60 (upd (h2 60) (8 * m + i) (-1))) _
              refine tr_if_ne (pc := 47) (tgt := 95) dX10_findSites_47 (by decide) (nI_z_eq (by have := (hV3 m i hil).1; omega)) (fun q47 => ?_) (fun q47 => ?_)
              · skip
                have hI3 := sj_n hI2 hil hV q47
                have hf3 := hf2.set (o := 60) (f := upd (h2 60) (8 * m + i) (-1)) (by decide) (by decide)
                refine tr_iinc (pc := 95) (v := nI (i + 1)) (lv' := [(2, .int (nI (i + 1))), (0, rv a 50), (1, .int (nI m))]) 2 dX10_findSites_95 rfl (by rw [show Int32.ofInt 1 = nI 1 from by decide, nI_add]) (by decide) rfl ?_
                refine tr_goto (pc := 98) (tgt := 19) dX10_findSites_98 (by decide) ?_
                refine tr_sub (pc := 19) (lv' := [(0, rv a 50), (1, .int (nI m)), (2, .int (nI (i + 1)))]) [1, 2, 0] rfl ?_
                exact ih2 (i + 1) _ (by omega) (by omega) hI3 hf3
              · skip
                refine tr_aload_n (pc := 50) 0 dX10_findSites_50 rfl rfl ?_
                refine tr_getR (pc := 51) (q := 58) dX10_findSites_51 (hS.1 50 (13, 45) rfl) fi_X10_31 rfl (hS.2 50 17 58 rfl) ?_
                refine tr_aload_n (pc := 54) 0 dX10_findSites_54 rfl rfl ?_
                refine tr_getI (pc := 55) (x := nI (sno P m i)) dX10_findSites_55 (hS.1 50 (13, 45) rfl) fi_X10_175 rfl hI2.1 ?_
                refine tr_iload_n (pc := 58) 1 dX10_findSites_58 rfl rfl ?_
                refine tr_iast (pc := 59) (sno P m i) dX10_findSites_59 (hS.1 58 (0, 32) rfl) rfl (by omega) (by decide) ?_
                refine tr_aload_n (pc := 60) 0 dX10_findSites_60 rfl rfl ?_
                refine tr_getR (pc := 61) (q := 59) dX10_findSites_61 (hS.1 50 (13, 45) rfl) fi_X10_34 rfl (hS.2 50 18 59 rfl) ?_
                refine tr_aload_n (pc := 64) 0 dX10_findSites_64 rfl rfl ?_
                refine tr_getI (pc := 65) (x := nI (sno P m i)) dX10_findSites_65 (hS.1 50 (13, 45) rfl) fi_X10_175 rfl hI2.1 ?_
                refine tr_iload_n (pc := 68) 2 dX10_findSites_68 rfl rfl ?_
                refine tr_iast (pc := 69) (sno P m i) dX10_findSites_69 (hS.1 59 (0, 32) rfl) rfl (by omega) (by decide) ?_
                refine tr_aload_n (pc := 70) 0 dX10_findSites_70 rfl rfl ?_
                refine tr_getR (pc := 71) (q := 60) dX10_findSites_71 (hS.1 50 (13, 45) rfl) fi_X10_37 rfl (hS.2 50 19 60 rfl) ?_
                refine tr_bipush (pc := 74) (v := nI 8) dX10_findSites_74 (by decide) ?_
                refine tr_iload_n (pc := 76) 1 dX10_findSites_76 rfl rfl ?_
                refine tr_imul (pc := 77) (v := nI (8 * m)) dX10_findSites_77 (pk_mul _ _) ?_
                refine tr_iload_n (pc := 78) 2 dX10_findSites_78 rfl rfl ?_
                refine tr_iadd (pc := 79) (v := nI (8 * m + i)) dX10_findSites_79 (nI_add _ _) ?_
                refine tr_aload_n (pc := 80) 0 dX10_findSites_80 rfl rfl ?_
                refine tr_getI (pc := 81) (x := nI (sno P m i)) dX10_findSites_81 (hS.1 50 (13, 45) rfl) fi_X10_175 rfl hI2.1 ?_
                refine tr_iast (pc := 84) (8 * m + i) dX10_findSites_84 (hS.1 60 (0, 32) rfl) rfl (by omega) (by decide) ?_
                refine tr_aload_n (pc := 85) 0 dX10_findSites_85 rfl rfl ?_
                refine tr_dup (pc := 86) dX10_findSites_86 rfl ?_
                refine tr_getI (pc := 87) (x := nI (sno P m i)) dX10_findSites_87 (hS.1 50 (13, 45) rfl) fi_X10_175 rfl hI2.1 ?_
                refine tr_iconst (pc := 90) (v := nI 1) dX10_findSites_90 (by decide) ?_
                refine tr_iadd (pc := 91) (v := nI (sno P m i + 1)) dX10_findSites_91 (nI_add _ _) ?_
                refine tr_putI (pc := 92) (x := nI (sno P m i + 1)) dX10_findSites_92 (hS.1 50 (13, 45) rfl) fi_X10_175 rfl rfl rfl ?_
                have hI3 := sj_y (h' := (hs (hs (hs (hs (hs h2 60 (upd (h2 60) (8 * m + i) (-1))) 58 (upd ((hs h2 60 (upd (h2 60) (8 * m + i) (-1))) 58) (sno P m i) (nI m))) 59 (upd ((hs (hs h2 60 (upd (h2 60) (8 * m + i) (-1))) 58 (upd ((hs h2 60 (upd (h2 60) (8 * m + i) (-1))) 58) (sno P m i) (nI m))) 59) (sno P m i) (nI i))) 60 (upd ((hs (hs (hs h2 60 (upd (h2 60) (8 * m + i) (-1))) 58 (upd ((hs h2 60 (upd (h2 60) (8 * m + i) (-1))) 58) (sno P m i) (nI m))) 59 (upd ((hs (hs h2 60 (upd (h2 60) (8 * m + i) (-1))) 58 (upd ((hs h2 60 (upd (h2 60) (8 * m + i) (-1))) 58) (sno P m i) (nI m))) 59) (sno P m i) (nI i))) 60) (8 * m + i) (nI (sno P m i)))) 50 (upd ((hs (hs (hs (hs h2 60 (upd (h2 60) (8 * m + i) (-1))) 58 (upd ((hs h2 60 (upd (h2 60) (8 * m + i) (-1))) 58) (sno P m i) (nI m))) 59 (upd ((hs (hs h2 60 (upd (h2 60) (8 * m + i) (-1))) 58 (upd ((hs h2 60 (upd (h2 60) (8 * m + i) (-1))) 58) (sno P m i) (nI m))) 59) (sno P m i) (nI i))) 60 (upd ((hs (hs (hs h2 60 (upd (h2 60) (8 * m + i) (-1))) 58 (upd ((hs h2 60 (upd (h2 60) (8 * m + i) (-1))) 58) (sno P m i) (nI m))) 59 (upd ((hs (hs h2 60 (upd (h2 60) (8 * m + i) (-1))) 58 (upd ((hs h2 60 (upd (h2 60) (8 * m + i) (-1))) 58) (sno P m i) (nI m))) 59) (sno P m i) (nI i))) 60) (8 * m + i) (nI (sno P m i)))) 50) 20 (nI (sno P m i + 1))))) hI2 hil hV q47 rfl rfl rfl rfl rfl
                have hf3 : Fm [20] [58, 59, 60] h (hs (hs (hs (hs (hs h2 60 (upd (h2 60) (8 * m + i) (-1))) 58 (upd ((hs h2 60 (upd (h2 60) (8 * m + i) (-1))) 58) (sno P m i) (nI m))) 59 (upd ((hs (hs h2 60 (upd (h2 60) (8 * m + i) (-1))) 58 (upd ((hs h2 60 (upd (h2 60) (8 * m + i) (-1))) 58) (sno P m i) (nI m))) 59) (sno P m i) (nI i))) 60 (upd ((hs (hs (hs h2 60 (upd (h2 60) (8 * m + i) (-1))) 58 (upd ((hs h2 60 (upd (h2 60) (8 * m + i) (-1))) 58) (sno P m i) (nI m))) 59 (upd ((hs (hs h2 60 (upd (h2 60) (8 * m + i) (-1))) 58 (upd ((hs h2 60 (upd (h2 60) (8 * m + i) (-1))) 58) (sno P m i) (nI m))) 59) (sno P m i) (nI i))) 60) (8 * m + i) (nI (sno P m i)))) 50 (upd ((hs (hs (hs (hs h2 60 (upd (h2 60) (8 * m + i) (-1))) 58 (upd ((hs h2 60 (upd (h2 60) (8 * m + i) (-1))) 58) (sno P m i) (nI m))) 59 (upd ((hs (hs h2 60 (upd (h2 60) (8 * m + i) (-1))) 58 (upd ((hs h2 60 (upd (h2 60) (8 * m + i) (-1))) 58) (sno P m i) (nI m))) 59) (sno P m i) (nI i))) 60 (upd ((hs (hs (hs h2 60 (upd (h2 60) (8 * m + i) (-1))) 58 (upd ((hs h2 60 (upd (h2 60) (8 * m + i) (-1))) 58) (sno P m i) (nI m))) 59 (upd ((hs (hs h2 60 (upd (h2 60) (8 * m + i) (-1))) 58 (upd ((hs h2 60 (upd (h2 60) (8 * m + i) (-1))) 58) (sno P m i) (nI m))) 59) (sno P m i) (nI i))) 60) (8 * m + i) (nI (sno P m i)))) 50) 20 (nI (sno P m i + 1)))) := ((((hf2.set (by decide) (by decide)).set (by decide) (by decide)).set (by decide) (by decide)).set (by decide) (by decide)).put (by decide)
                refine tr_iinc (pc := 95) (v := nI (i + 1)) (lv' := [(2, .int (nI (i + 1))), (0, rv a 50), (1, .int (nI m))]) 2 dX10_findSites_95 rfl (by rw [show Int32.ofInt 1 = nI 1 from by decide, nI_add]) (by decide) rfl ?_
                refine tr_goto (pc := 98) (tgt := 19) dX10_findSites_98 (by decide) ?_
                refine tr_sub (pc := 19) (lv' := [(0, rv a 50), (1, .int (nI m)), (2, .int (nI (i + 1)))]) [1, 2, 0] rfl ?_
                exact ih2 (i + 1) _ (by omega) (by omega) hI3 hf3
        exact L19 (lnN P m + 1) 0 h1 (by omega) (by omega) hI hf
  exact L7 (P.length + 1) 0 _ (by omega) (by omega) ⟨rfl, fun s hs => by simp [sno, sl, sitesP, sitesM] at hs, fun m i _ q => by omega⟩ (Fm.rf.put (by decide))
