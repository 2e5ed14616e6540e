/-! ===== class and reference side by side ===== -/
def PR (a : Am) (Mc Mm : Mt) (as : List Value) (S : St) (h : Hp) (tx : List Nat) (P : Prog) (past : List Prog) (b n f : Int32) : Prop := ∃ (ans : Int32) (tx' : List Nat) (P' : Prog) (past' : List Prog) (b' n' f' : Int32), CT a 20 Mc (rv a 0 :: as) S h (fun v S' h' => v = some (.int ans) ∧ KS S' h' tx' P' past' b' n' f' ∧ CF h h') ∧ ∀ S1 h1, IsSt S1 → KM h1 tx P past b n f → CT a 20 Mm (rv a 50 :: as) S1 h1 (fun v S' h' => v = some (.int ans) ∧ S1 = S' ∧ KM h' tx' P' past' b' n' f' ∧ MF h1 h')
section PAIRS
variable {a : Am} {S : St} {h : Hp} {tx : List Nat} {P : Prog} {past : List Prog} {b n f : Int32}
theorem pr_type {c : Int32} (hC : KS S h tx P past b n f) : PR a mX9_type mX10_type [.int c] S h tx P past b n f := by
  have hv := hC.2.1.2
  have hVP := hC.2.2.1.2
  have hpv := hC.2.2.2.1.2
  have hp5 : past.length ≤ 5 := by
    obtain ⟨r, k⟩ := hC.2.2.2.1.1
    exact k.2.1
  have hV1 := hVP.1.1
  have hnS := nSt_le hVP.1
  rcases in_or c (n := 128) (by decide) with hc | ⟨k, hk, rfl⟩
  · exact ⟨_, _, _, _, _, _, _, q_type_b hC hc, fun S1 h1 hS1 hM => n_type_b hS1 hM hv hVP hpv hp5 hc⟩
  · by_cases hl : tx.length = 200
    · exact ⟨_, _, _, _, _, _, _, q_type_f hC hk hl, fun S1 h1 hS1 hM => n_type_f hS1 hM hv hVP hpv hp5 hk hl⟩
    · have hl2 : tx.length < 200 := by have := hv.1; omega
      exact ⟨_, _, _, _, _, _, _, q_type_o hC hk hl2, fun S1 h1 hS1 hM => n_type_o hS1 hM hv hVP hpv hp5 hk hl2⟩
theorem pr_clear (hC : KS S h tx P past b n f) : PR a mX9_clear mX10_clear [] S h tx P past b n f := by
  have hv := hC.2.1.2
  have hVP := hC.2.2.1.2
  have hpv := hC.2.2.2.1.2
  have hp5 : past.length ≤ 5 := by
    obtain ⟨r, k⟩ := hC.2.2.2.1.1
    exact k.2.1
  have hV1 := hVP.1.1
  have hnS := nSt_le hVP.1
  exact ⟨_, _, _, _, _, _, _, q_clear hC , fun S1 h1 hS1 hM => n_clear hS1 hM hv hVP hpv hp5 ⟩
theorem pr_reads (hC : KS S h tx P past b n f) : PR a mX9_reads mX10_reads [] S h tx P past b n f := by
  have hv := hC.2.1.2
  have hVP := hC.2.2.1.2
  have hpv := hC.2.2.2.1.2
  have hp5 : past.length ≤ 5 := by
    obtain ⟨r, k⟩ := hC.2.2.2.1.1
    exact k.2.1
  have hV1 := hVP.1.1
  have hnS := nSt_le hVP.1
  cases hr : rdA tx with
  | error e => exact ⟨_, _, _, _, _, _, _, q_reads_e hC hr, fun S1 h1 hS1 hM => n_reads_e hS1 hM hv hVP hpv hp5 hr⟩
  | ok P1 => exact ⟨_, _, _, _, _, _, _, q_reads_o hC hr, fun S1 h1 hS1 hM => n_reads_o hS1 hM hv hVP hpv hp5 hr⟩
theorem pr_drops {x y : Int32} (hC : KS S h tx P past b n f) : PR a mX9_drops mX10_drops [.int x, .int y] S h tx P past b n f := by
  have hv := hC.2.1.2
  have hVP := hC.2.2.1.2
  have hpv := hC.2.2.2.1.2
  have hp5 : past.length ≤ 5 := by
    obtain ⟨r, k⟩ := hC.2.2.2.1.1
    exact k.2.1
  have hV1 := hVP.1.1
  have hnS := nSt_le hVP.1
  rcases in_or x (n := P.length) (by omega) with hx | ⟨m, hm, rfl⟩
  · exact ⟨_, _, _, _, _, _, _, q_drops_1 hC hx, fun S1 h1 hS1 hM => n_drops_1 hS1 hM hv hVP hpv hp5 hx⟩
  · have hm8 := hVP.1.2.1 m
    rcases in_or y (n := lnN P m) (by omega) with hy | ⟨i, hi, rfl⟩
    · exact ⟨_, _, _, _, _, _, _, q_drops_2 hC hm hy, fun S1 h1 hS1 hM => n_drops_2 hS1 hM hv hVP hpv hp5 hm hy⟩
    · exact ⟨_, _, _, _, _, _, _, q_drops_o hC hi, fun S1 h1 hS1 hM => n_drops_o hS1 hM hv hVP hpv hp5 hi⟩
theorem pr_swaps {x y : Int32} (hC : KS S h tx P past b n f) : PR a mX9_swaps mX10_swaps [.int x, .int y] S h tx P past b n f := by
  have hv := hC.2.1.2
  have hVP := hC.2.2.1.2
  have hpv := hC.2.2.2.1.2
  have hp5 : past.length ≤ 5 := by
    obtain ⟨r, k⟩ := hC.2.2.2.1.1
    exact k.2.1
  have hV1 := hVP.1.1
  have hnS := nSt_le hVP.1
  rcases in_or x (n := P.length) (by omega) with hx | ⟨m, hm, rfl⟩
  · exact ⟨_, _, _, _, _, _, _, q_swaps_1 hC hx, fun S1 h1 hS1 hM => n_swaps_1 hS1 hM hv hVP hpv hp5 hx⟩
  · have hm8 := hVP.1.2.1 m
    rcases in_or y (n := lnN P m) (by omega) with hy | ⟨i, hi, rfl⟩
    · exact ⟨_, _, _, _, _, _, _, q_swaps_2 hC hm hy, fun S1 h1 hS1 hM => n_swaps_2 hS1 hM hv hVP hpv hp5 hm hy⟩
    · by_cases hi2 : i + 1 = lnN P m
      · exact ⟨_, _, _, _, _, _, _, q_swaps_3 hC hi hi2, fun S1 h1 hS1 hM => n_swaps_3 hS1 hM hv hVP hpv hp5 hi hi2⟩
      · have hi3 : i + 1 < lnN P m := by omega
        exact ⟨_, _, _, _, _, _, _, q_swaps_o hC hi3, fun S1 h1 hS1 hM => n_swaps_o hS1 hM hv hVP hpv hp5 hi3⟩
theorem pr_of {x y : Int32} (hC : KS S h tx P past b n f) : PR a mX9_of mX10_of [.int x, .int y] S h tx P past b n f := by
  have hv := hC.2.1.2
  have hVP := hC.2.2.1.2
  have hpv := hC.2.2.2.1.2
  have hp5 : past.length ≤ 5 := by
    obtain ⟨r, k⟩ := hC.2.2.2.1.1
    exact k.2.1
  have hV1 := hVP.1.1
  have hnS := nSt_le hVP.1
  rcases in_or x (n := P.length) (by omega) with hx | ⟨m, hm, rfl⟩
  · exact ⟨_, _, _, _, _, _, _, q_of_1 hC hx, fun S1 h1 hS1 hM => n_of_1 hS1 hM hv hVP hpv hp5 hx⟩
  · rcases in_or y (n := 5) (by decide) with hy | ⟨w, hw, rfl⟩
    · exact ⟨_, _, _, _, _, _, _, q_of_2 hC hm hy, fun S1 h1 hS1 hM => n_of_2 hS1 hM hv hVP hpv hp5 hm hy⟩
    · exact ⟨_, _, _, _, _, _, _, q_of_o hC hm hw, fun S1 h1 hS1 hM => n_of_o hS1 hM hv hVP hpv hp5 hm hw⟩
theorem pr_may {x y : Int32} (hC : KS S h tx P past b n f) : PR a mX9_may mX10_may [.int x, .int y] S h tx P past b n f := by
  have hv := hC.2.1.2
  have hVP := hC.2.2.1.2
  have hpv := hC.2.2.2.1.2
  have hp5 : past.length ≤ 5 := by
    obtain ⟨r, k⟩ := hC.2.2.2.1.1
    exact k.2.1
  have hV1 := hVP.1.1
  have hnS := nSt_le hVP.1
  rcases in_or x (n := P.length) (by omega) with hx | ⟨m, hm, rfl⟩
  · exact ⟨_, _, _, _, _, _, _, q_may_1 hC hx, fun S1 h1 hS1 hM => n_may_1 hS1 hM hv hVP hpv hp5 hx⟩
  · rcases in_or y (n := 4) (by decide) with hy | ⟨w, hw, rfl⟩
    · exact ⟨_, _, _, _, _, _, _, q_may_2 hC hm hy, fun S1 h1 hS1 hM => n_may_2 hS1 hM hv hVP hpv hp5 hm hy⟩
    · exact ⟨_, _, _, _, _, _, _, q_may_o hC hm hw, fun S1 h1 hS1 hM => n_may_o hS1 hM hv hVP hpv hp5 hm hw⟩
theorem pr_reached {x y : Int32} (hC : KS S h tx P past b n f) : PR a mX9_reached mX10_reached [.int x, .int y] S h tx P past b n f := by
  have hv := hC.2.1.2
  have hVP := hC.2.2.1.2
  have hpv := hC.2.2.2.1.2
  have hp5 : past.length ≤ 5 := by
    obtain ⟨r, k⟩ := hC.2.2.2.1.1
    exact k.2.1
  have hV1 := hVP.1.1
  have hnS := nSt_le hVP.1
  rcases in_or x (n := P.length) (by omega) with hx | ⟨m, hm, rfl⟩
  · exact ⟨_, _, _, _, _, _, _, q_reached_1 hC hx, fun S1 h1 hS1 hM => n_reached_1 hS1 hM hv hVP hpv hp5 hx⟩
  · rcases in_or y (n := 4) (by decide) with hy | ⟨w, hw, rfl⟩
    · exact ⟨_, _, _, _, _, _, _, q_reached_2 hC hm hy, fun S1 h1 hS1 hM => n_reached_2 hS1 hM hv hVP hpv hp5 hm hy⟩
    · exact ⟨_, _, _, _, _, _, _, q_reached_o hC hm hw, fun S1 h1 hS1 hM => n_reached_o hS1 hM hv hVP hpv hp5 hm hw⟩
theorem pr_line {x y z : Int32} (hC : KS S h tx P past b n f) : PR a mX9_line mX10_line [.int x, .int y, .int z] S h tx P past b n f := by
  have hv := hC.2.1.2
  have hVP := hC.2.2.1.2
  have hpv := hC.2.2.2.1.2
  have hp5 : past.length ≤ 5 := by
    obtain ⟨r, k⟩ := hC.2.2.2.1.1
    exact k.2.1
  have hV1 := hVP.1.1
  have hnS := nSt_le hVP.1
  rcases in_or x (n := P.length) (by omega) with hx | ⟨m, hm, rfl⟩
  · exact ⟨_, _, _, _, _, _, _, q_line_1 hC hx, fun S1 h1 hS1 hM => n_line_1 hS1 hM hv hVP hpv hp5 hx⟩
  · have hm8 := hVP.1.2.1 m
    rcases in_or y (n := lnN P m) (by omega) with hy | ⟨i, hi, rfl⟩
    · exact ⟨_, _, _, _, _, _, _, q_line_2 hC hm hy, fun S1 h1 hS1 hM => n_line_2 hS1 hM hv hVP hpv hp5 hm hy⟩
    · rcases in_or z (n := 5) (by decide) with hz | ⟨w, hw, rfl⟩
      · exact ⟨_, _, _, _, _, _, _, q_line_3 hC hi hz, fun S1 h1 hS1 hM => n_line_3 hS1 hM hv hVP hpv hp5 hi hz⟩
      · exact ⟨_, _, _, _, _, _, _, q_line_o hC hi hw, fun S1 h1 hS1 hM => n_line_o hS1 hM hv hVP hpv hp5 hi hw⟩
theorem pr_site {x y : Int32} (hC : KS S h tx P past b n f) : PR a mX9_site mX10_site [.int x, .int y] S h tx P past b n f := by
  have hv := hC.2.1.2
  have hVP := hC.2.2.1.2
  have hpv := hC.2.2.2.1.2
  have hp5 : past.length ≤ 5 := by
    obtain ⟨r, k⟩ := hC.2.2.2.1.1
    exact k.2.1
  have hV1 := hVP.1.1
  have hnS := nSt_le hVP.1
  rcases in_or x (n := nSt P) (by omega) with hx | ⟨s, hs, rfl⟩
  · exact ⟨_, _, _, _, _, _, _, q_site_1 hC hx, fun S1 h1 hS1 hM => n_site_1 hS1 hM hv hVP hpv hp5 hx⟩
  · rcases in_or y (n := 4) (by decide) with hy | ⟨w, hw, rfl⟩
    · exact ⟨_, _, _, _, _, _, _, q_site_2 hC hs hy, fun S1 h1 hS1 hM => n_site_2 hS1 hM hv hVP hpv hp5 hs hy⟩
    · exact ⟨_, _, _, _, _, _, _, q_site_o hC hs hw, fun S1 h1 hS1 hM => n_site_o hS1 hM hv hVP hpv hp5 hs hw⟩
theorem pr_ran {x y : Int32} (hC : KS S h tx P past b n f) : PR a mX9_ran mX10_ran [.int x, .int y] S h tx P past b n f := by
  have hv := hC.2.1.2
  have hVP := hC.2.2.1.2
  have hpv := hC.2.2.2.1.2
  have hp5 : past.length ≤ 5 := by
    obtain ⟨r, k⟩ := hC.2.2.2.1.1
    exact k.2.1
  have hV1 := hVP.1.1
  have hnS := nSt_le hVP.1
  rcases in_or x (n := nSt P) (by omega) with hx | ⟨s, hs, rfl⟩
  · exact ⟨_, _, _, _, _, _, _, q_ran_1 hC hx, fun S1 h1 hS1 hM => n_ran_1 hS1 hM hv hVP hpv hp5 hx⟩
  · rcases in_or y (n := 3) (by decide) with hy | ⟨w, hw, rfl⟩
    · exact ⟨_, _, _, _, _, _, _, q_ran_2 hC hs hy, fun S1 h1 hS1 hM => n_ran_2 hS1 hM hv hVP hpv hp5 hs hy⟩
    · exact ⟨_, _, _, _, _, _, _, q_ran_o hC hs hw, fun S1 h1 hS1 hM => n_ran_o hS1 hM hv hVP hpv hp5 hs hw⟩
theorem pr_open (hC : KS S h tx P past b n f) : PR a mX9_open mX10_open [] S h tx P past b n f := by
  have hv := hC.2.1.2
  have hVP := hC.2.2.1.2
  have hpv := hC.2.2.2.1.2
  have hp5 : past.length ≤ 5 := by
    obtain ⟨r, k⟩ := hC.2.2.2.1.1
    exact k.2.1
  have hV1 := hVP.1.1
  have hnS := nSt_le hVP.1
  exact ⟨_, _, _, _, _, _, _, q_open hC , fun S1 h1 hS1 hM => n_open hS1 hM hv hVP hpv hp5 ⟩
theorem pr_held (hC : KS S h tx P past b n f) : PR a mX9_held mX10_held [] S h tx P past b n f := by
  have hv := hC.2.1.2
  have hVP := hC.2.2.1.2
  have hpv := hC.2.2.2.1.2
  have hp5 : past.length ≤ 5 := by
    obtain ⟨r, k⟩ := hC.2.2.2.1.1
    exact k.2.1
  have hV1 := hVP.1.1
  have hnS := nSt_le hVP.1
  exact ⟨_, _, _, _, _, _, _, q_held hC , fun S1 h1 hS1 hM => n_held hS1 hM hv hVP hpv hp5 ⟩
theorem pr_fates {x : Int32} (hC : KS S h tx P past b n f) : PR a mX9_fates mX10_fates [.int x] S h tx P past b n f := by
  have hv := hC.2.1.2
  have hVP := hC.2.2.1.2
  have hpv := hC.2.2.2.1.2
  have hp5 : past.length ≤ 5 := by
    obtain ⟨r, k⟩ := hC.2.2.2.1.1
    exact k.2.1
  have hV1 := hVP.1.1
  have hnS := nSt_le hVP.1
  rcases in_or x (n := 3) (by decide) with hx | ⟨w, hw, rfl⟩
  · exact ⟨_, _, _, _, _, _, _, q_fates_1 hC hx, fun S1 h1 hS1 hM => n_fates_1 hS1 hM hv hVP hpv hp5 hx⟩
  · exact ⟨_, _, _, _, _, _, _, q_fates_o hC hw, fun S1 h1 hS1 hM => n_fates_o hS1 hM hv hVP hpv hp5 hw⟩
theorem pr_run {x : Int32} (hC : KS S h tx P past b n f) : PR a mX9_run mX10_run [.int x] S h tx P past b n f := by
  have hv := hC.2.1.2
  have hVP := hC.2.2.1.2
  have hpv := hC.2.2.2.1.2
  have hp5 : past.length ≤ 5 := by
    obtain ⟨r, k⟩ := hC.2.2.2.1.1
    exact k.2.1
  have hV1 := hVP.1.1
  have hnS := nSt_le hVP.1
  rcases in_or x (n := 6) (by decide) with hx | ⟨w, hw, rfl⟩
  · exact ⟨_, _, _, _, _, _, _, q_run_1 hC hx, fun S1 h1 hS1 hM => n_run_1 hS1 hM hv hVP hpv hp5 hx⟩
  · exact ⟨_, _, _, _, _, _, _, q_run_o hC hw, fun S1 h1 hS1 hM => n_run_o hS1 hM hv hVP hpv hp5 hw⟩
theorem pr_told {x : Int32} (hC : KS S h tx P past b n f) : PR a mX9_told mX10_told [.int x] S h tx P past b n f := by
  have hv := hC.2.1.2
  have hVP := hC.2.2.1.2
  have hpv := hC.2.2.2.1.2
  have hp5 : past.length ≤ 5 := by
    obtain ⟨r, k⟩ := hC.2.2.2.1.1
    exact k.2.1
  have hV1 := hVP.1.1
  have hnS := nSt_le hVP.1
  rcases in_or x (n := 7) (by decide) with hx | ⟨w, hw, rfl⟩
  · exact ⟨_, _, _, _, _, _, _, q_told_1 hC hx, fun S1 h1 hS1 hM => n_told_1 hS1 hM hv hVP hpv hp5 hx⟩
  · exact ⟨_, _, _, _, _, _, _, q_told_o hC hw, fun S1 h1 hS1 hM => n_told_o hS1 hM hv hVP hpv hp5 hw⟩
theorem pr_back (hC : KS S h tx P past b n f) : PR a mX9_back mX10_back [] S h tx P past b n f := by
  have hv := hC.2.1.2
  have hVP := hC.2.2.1.2
  have hpv := hC.2.2.2.1.2
  have hp5 : past.length ≤ 5 := by
    obtain ⟨r, k⟩ := hC.2.2.2.1.1
    exact k.2.1
  have hV1 := hVP.1.1
  have hnS := nSt_le hVP.1
  by_cases h0 : past.length = 0
  · exact ⟨_, _, _, _, _, _, _, q_back_n hC h0, fun S1 h1 hS1 hM => n_back_n hS1 hM hv hVP hpv hp5 h0⟩
  · have hp0 : 0 < past.length := by omega
    exact ⟨_, _, _, _, _, _, _, q_back_o hC hp0, fun S1 h1 hS1 hM => n_back_o hS1 hM hv hVP hpv hp5 hp0⟩
theorem pr_digest (hC : KS S h tx P past b n f) : CT a 20 mX9_digest [rv a 0] S h (fun v S' h' => v = some (.long (dA tx P past b n f)) ∧ KS S' h' tx P past b n f ∧ CF h h') ∧ ∀ S1 h1, IsSt S1 → KM h1 tx P past b n f → CT a 20 mX10_digest [rv a 50] S1 h1 (fun v S' h' => v = some (.long (dA tx P past b n f)) ∧ S1 = S' ∧ KM h' tx P past b n f ∧ MF h1 h') := by
  have hv := hC.2.1.2
  have hVP := hC.2.2.1.2
  have hpv := hC.2.2.2.1.2
  have hp5 : past.length ≤ 5 := by
    obtain ⟨r, k⟩ := hC.2.2.2.1.1
    exact k.2.1
  have hV1 := hVP.1.1
  have hnS := nSt_le hVP.1
  exact ⟨q_digest hC, fun S1 h1 hS1 hM => n_digest hS1 hM hv hVP hpv hp5⟩
end PAIRS
theorem and31 (x : Int32) : ∃ k, k < 32 ∧ x &&& nI 31 = nI k := by
  have hl : x.toBitVec.toNat &&& 31 < 32 := by
    have : x.toBitVec.toNat &&& 31 ≤ 31 := Nat.and_le_right
    omega
  refine ⟨x.toBitVec.toNat &&& 31, hl, ?_⟩
  apply Int32.toBitVec_inj.mp
  show x.toBitVec &&& BitVec.ofNat 32 31 = BitVec.ofNat 32 (x.toBitVec.toNat &&& 31)
  apply BitVec.eq_of_toNat_eq
  rw [BitVec.toNat_and, BitVec.toNat_ofNat, BitVec.toNat_ofNat, Nat.mod_eq_of_lt (by decide : 31 < 2 ^ 32), Nat.mod_eq_of_lt (by omega)]
theorem law_gt {N i : Nat} (hN : N < 2 ^ 30) (hi : i < 2 ^ 30) : nI N - nI 4 < nI i ↔ N < i + 4 := by
  by_cases h : 4 ≤ N
  · rw [pk_sub h, nI_ltI (by omega) (by omega)]
    omega
  · have h0 : (0 : Int32) ≤ nI i := nI_pos' (by omega)
    have h1 : nI N - nI 4 < 0 := by
      rcases (by omega : N = 0 ∨ N = 1 ∨ N = 2 ∨ N = 3) with rfl | rfl | rfl | rfl <;> decide
    exact ⟨fun _ => by omega, fun _ => Int32.lt_of_lt_of_le h1 h0⟩
theorem room {S : St} {h : Hp} {tx : List Nat} {P : Prog} {past : List Prog} {b n f : Int32} (hC : KS S h tx P past b n f) : S.1.length ≤ 200 ∧ tot S ≤ 100000 := by
  obtain ⟨q, cap, k1, k2, k3, k4, k5, lev, k6, k7, k8⟩ := hC.2.2.2.2.2.1
  have h7 : lev < 8 := by
    by_cases z : lev < 8
    · exact z
    · have : 2 ^ 8 ≤ 2 ^ lev := Nat.pow_le_pow_right (by decide) (by omega)
      omega
  have h0 : tot0 ≤ 60000 := by decide +kernel
  omega