/-! ===== strings ===== -/
section STRS
variable {a : Am} {d : Nat} {M : Mt} {pc : Nat} {lv : List (Nat × Value)} {st : List Value} {S : St} {h : Hp} {post : Option Value → St → Hp → Prop}
theorem fl_J0_38 : Cond.fieldLink RJ0 38 RJ0 "COMPACT_STRINGS" "Z" ∈ gtbl := (gw_of (i := 461) (by decide +kernel) (by decide +kernel))
theorem fl_J0_1053 : Cond.fieldLink RJ0 1053 RJ3 "SIOOBE_FORMATTER" "Ljava/util/function/BiFunction;" ∈ gtbl := (gw_of (i := 477) (by decide +kernel) (by decide +kernel))
theorem fl_J0_9 : Cond.fieldLink RJ0 9 RJ0 "value" "[B" ∈ gtbl := (gw_of (i := 1402) (by decide +kernel) (by decide +kernel))
theorem fl_J0_15 : Cond.fieldLink RJ0 15 RJ0 "coder" "B" ∈ gtbl := (gw_of (i := 1403) (by decide +kernel) (by decide +kernel))
/-- the bytes of the j-th constant -/
def sB (j : Nat) : List Nat := [[110, 101, 119], [108, 111, 99, 107]].getD j []
theorem fx_S {p : Program} {s : State} {m : MethodId} {args : Array Value} {meth : Method} {c : Code} (hF : Fx a M p s m args meth c) : Sx a s := hF.2.2.2.2.2.2.2.2.2.2.2.2.2
theorem tr_ldcS {idx q : Nat} {tx : String} (hR : ∀ U, Sx a U → vk_R M.1.cls idx tx q U) (hd : decode M.2.1 pc = .ok (.ldc idx, 2)) (kk : T a d M (pc + 2) lv (.ref q :: st) S h post) : T a d M pc lv st S h post := t_go (fun p l e R s m args below meth c H locs cells slots ls Q hF hd1 hd2 hc1 hc2 hl hP hS K => va_ldcS hF.1 hF.2.1 hF.2.2.2.1 (hR s (fx_S hF)) hd K) kk
theorem tr_strV {j idx : Nat} (hj : j < 2) (hw : Cond.fieldLink M.1.cls idx RJ0 "value" "[B" ∈ gtbl) (hd : decode M.2.1 pc = .ok (.getfield idx, 3)) (kk : T a d M (pc + 3) lv (.ref (a.2.2.2.2.2 j) :: st) S h post) : T a d M pc lv (.ref (a.2.2.2.2.1 j) :: st) S h post := t_go (fun p l e R s m args below meth c H locs cells slots ls Q hF hd1 hd2 hc1 hc2 hl hP hS K => vk_getf hF.1 hF.2.1 ((fx_S hF).2.2.1.1 j hj).2.2.1 hS hF.2.2.2.1 (hF.2.2.2.2.1 _ hw) (fun _ h => h) hd K) kk
theorem tr_strC {j idx : Nat} (hj : j < 2) (hw : Cond.fieldLink M.1.cls idx RJ0 "coder" "B" ∈ gtbl) (hd : decode M.2.1 pc = .ok (.getfield idx, 3)) (kk : T a d M (pc + 3) lv (.int (nI 0) :: st) S h post) : T a d M pc lv (.ref (a.2.2.2.2.1 j) :: st) S h post := t_go (fun p l e R s m args below meth c H locs cells slots ls Q hF hd1 hd2 hc1 hc2 hl hP hS K => vk_getf hF.1 hF.2.1 ((fx_S hF).2.2.1.1 j hj).2.1 hS hF.2.2.2.1 (hF.2.2.2.2.1 _ hw) (fun _ h => h) hd K) kk
theorem sB_len : ∀ j, j < 2 → [3, 4].getD j 0 = (sB j).length := by decide
theorem sB_get : ∀ j, j < 2 → ∀ k, k < (sB j).length → (([[110, 101, 119], [108, 111, 99, 107]] : List (List Int32)).getD j []).getD k 0 = nI ((sB j).getD k 0) := by decide +kernel
theorem sB_lt : ∀ j, j < 2 → (sB j).length < 5 := by decide
theorem tr_strL {j : Nat} (hj : j < 2) (hd : decode M.2.1 pc = .ok (.arraylength, 1)) (kk : T a d M (pc + 1) lv (.int (nI (sB j).length) :: st) S h post) : T a d M pc lv (.ref (a.2.2.2.2.2 j) :: st) S h post := t_go (fun p l e R s m args below meth c H locs cells slots ls Q hF hd1 hd2 hc1 hc2 hl hP hS K => va_tlen hF.1 hF.2.1 ((fx_S hF).2.2.1.1 j hj).2.2.2 hS (by rw [sB_len j hj]; rfl) hd K) kk
theorem tr_strB {j k : Nat} (hj : j < 2) (hk : k < (sB j).length) (hd : decode M.2.1 pc = .ok (.baload, 1)) (kk : T a d M (pc + 1) lv (.int (nI ((sB j).getD k 0)) :: st) S h post) : T a d M pc lv (.int (nI k) :: .ref (a.2.2.2.2.2 j) :: st) S h post := by
  have h5 := sB_lt j hj
  refine t_go (fun p l e R s m args below meth c H locs cells slots ls Q hF hd1 hd2 hc1 hc2 hl hP hS K => ?_) kk
  refine va_tb hF.1 hF.2.1 ((fx_S hF).2.2.1.1 j hj).2.2.2 hS (i := nI k) (vp_in_nI (by rw [sB_len j hj]; exact hk) (by rw [sB_len j hj]; omega)) (v := .int (nI ((sB j).getD k 0))) ?_ hd K
  rw [nI_clamp (by omega), ← sB_get j hj k hk]
theorem tr_gst1 {idx : Nat} (hw : Cond.fieldLink M.1.cls idx RJ0 "COMPACT_STRINGS" "Z" ∈ gtbl) (hd : decode M.2.1 pc = .ok (.getstatic idx, 3)) (kk : T a d M (pc + 3) lv (.int (nI 1) :: st) S h post) : T a d M pc lv st S h post := t_go (fun p l e R s m args below meth c H locs cells slots ls Q hF hd1 hd2 hc1 hc2 hl hP hS K => va_gets hF.1 hF.2.1 (fx_S hF).2.2.2.1 hS hF.2.2.2.1 (hF.2.2.2.2.1 _ hw) (fun _ h => h) hd K) kk
theorem tr_gstq {idx : Nat} {r : Option Value} {S2 : St} {h2 : Hp} (hw : Cond.fieldLink M.1.cls idx RJ3 "SIOOBE_FORMATTER" "Ljava/util/function/BiFunction;" ∈ gtbl) (hd : decode M.2.1 pc = .ok (.getstatic idx, 3)) (hp : post r S2 h2) (hn : T a d M (pc + 3) lv (.null :: st) S h (fun v S' h' => v = r ∧ S' = S2 ∧ h' = h2)) (kk : ∀ t, T a d M (pc + 3) lv (.ref t :: st) S h (fun v S' h' => v = r ∧ S' = S2 ∧ h' = h2)) : T a d M pc lv st S h post := by
  obtain ⟨v0, S0, h0, ⟨rfl, rfl, rfl⟩, hg, hE⟩ := hn
  refine ⟨v0, S0, h0, hp, hg, ?_⟩
  intro p l e R s m args below meth c H locs cells slots ls hF h1 h2 h3 h4 hl hP hS
  rcases (fx_S hF).2.2.2.2 with z | ⟨t, z⟩
  · exact va_gets hF.1 hF.2.1 z hS hF.2.2.2.1 (hF.2.2.2.2.1 _ hw) (fun _ h => h) hd (hE p l e R s m args below meth c H locs cells slots ls hF h1 h2 h3 h4 hl hP hS)
  · obtain ⟨v1, S1, h1', ⟨rfl, rfl, rfl⟩, hg1, hE1⟩ := kk t
    exact va_gets hF.1 hF.2.1 z hS hF.2.2.2.1 (hF.2.2.2.2.1 _ hw) (fun _ h => h) hd (hE1 p l e R s m args below meth c H locs cells slots ls hF h1 h2 h3 h4 hl hP hS)
theorem tr_callK {d' n j idx : Nat} {M' : Mt} {as rest stk : List Value} {post1 : Option Value → St → Hp → Prop} (hj : j < 2) (hd : decode M.2.1 pc = .ok (.invokevirtual idx, 3)) (hl0 : Cond.methodLink M.1.cls idx M'.1 ∈ gtbl) (hm : CV M' n) (hst : stk = as.reverse ++ .ref (a.2.2.2.2.1 j) :: rest) (hn : as.length = n) (hcat : (rest.map fun v => v.category).sum ≤ 8) (hci : M'.1.cls = RJ0) (hdd : d' < d) (hc : CT a d' M' (.ref (a.2.2.2.2.1 j) :: as) S h post1)
    (kk : ∀ v S1 h1, post1 v S1 h1 → T a d M (pc + 3) lv (v.toList ++ rest) S1 h1 post) : T a d M pc lv stk S h post := by
  refine t_goC hc ?_ kk
  intro v S1 h1 hC p l e R s m args below meth c H locs cells slots ls hF d1 d2 d3 d4 hl hP hS
  obtain ⟨⟨w1, w2, w3, w4⟩, w5, w6, w7⟩ := hm
  have hts := hF.2.2.2.2.1
  have hcw : CallW R s args M.1.cls M'.1.cls idx M'.1 M'.2.1 M'.2.2.1 M'.2.2.2 (Cond.code M'.1 M'.2.1 M'.2.2.1 M'.2.2.2 :: gtbl) { frames := d', cells := S1.1.length - S.1.length, slots := tot S1 - tot S, locals := 40 * d' } (S1.1.length - S.1.length) (tot S1 - tot S) n :=
    ⟨callB_of n hts (good_g w1) rfl rfl rfl (hts _ w2) (hts _ hl0) w3 ⟨by show d' + 1 ≤ _; omega, by show 8 + (M'.2.2.1 + 11) + 40 * d' ≤ _; omega⟩, hts _ w5, hts _ w6⟩
  refine ⟨_, va_runV (As := as) (rest := rest) (b := a.2.2.2.2.1 j) ⟨hF.1, hF.2.1, hF.2.2.1, hF.2.2.2.1, hts⟩ (hC.2 l) hcw ⟨blind_p, ?_, fun U hU hW => pre_p hF.2.2.2.2.2.2.2.2 hP hS hU hW⟩ rfl hn hl.1 hst (lv_room (rest := stk) hcat) hd ⟨d3, d4⟩⟩
  have hrec := vk_recv (fx_S hF).2.2.1 hj hS
  rw [hci]
  exact hrec
end STRS
theorem pk_shr0 (x : Int32) : x >>> (nI 0 &&& 31) = x := by
  rw [show (nI 0 &&& 31 : Int32) = 0 by decide]
  exact Int32.shiftRight_zero
set_option maxHeartbeats 4000000 in
set_option maxRecDepth 100000 in
theorem c_coder {a : Am} {S : St} {h : Hp} {j : Nat} (hj : j < 2) : CT a 0 mJ0_coder_7d493 [.ref (a.2.2.2.2.1 j)] S h (Rt (nI 0) S h) := by
  refine met_of (by decide +kernel) (Nat.le_of_ble_eq_true rfl) ?_
  show T a 0 mJ0_coder_7d493 0 [(0, .ref (a.2.2.2.2.1 j))] [] S h _
  refine tr_gst1 (pc := 0) fl_J0_38 dJ0_coder_7d493_0 ?_
  refine tr_if_eq (pc := 3) (tgt := 13) dJ0_coder_7d493_3 (by decide) (nI_z_eq (by omega)) (fun hcc => absurd hcc (by decide)) (fun _ => ?_)
  refine tr_aload_nS (pc := 6) 0 dJ0_coder_7d493_6 rfl rfl ?_
  refine tr_strC (pc := 7) hj fl_J0_15 dJ0_coder_7d493_7 ?_
  refine tr_goto (pc := 10) (tgt := 14) dJ0_coder_7d493_10 (by decide) ?_
  exact tr_iret (pc := 14) dJ0_coder_7d493_14 rfl (by decide) (⟨rfl, rfl, rfl⟩)

set_option maxHeartbeats 4000000 in
set_option maxRecDepth 100000 in
theorem c_latin {a : Am} {S : St} {h : Hp} {j : Nat} (hj : j < 2) : CT a 0 mJ0_isLatin1_aae02 [.ref (a.2.2.2.2.1 j)] S h (Rt (nI 1) S h) := by
  refine met_of (by decide +kernel) (Nat.le_of_ble_eq_true rfl) ?_
  show T a 0 mJ0_isLatin1_aae02 0 [(0, .ref (a.2.2.2.2.1 j))] [] S h _
  refine tr_gst1 (pc := 0) fl_J0_38 dJ0_isLatin1_aae02_0 ?_
  refine tr_if_eq (pc := 3) (tgt := 17) dJ0_isLatin1_aae02_3 (by decide) (nI_z_eq (by omega)) (fun hcc => absurd hcc (by decide)) (fun _ => ?_)
  refine tr_aload_nS (pc := 6) 0 dJ0_isLatin1_aae02_6 rfl rfl ?_
  refine tr_strC (pc := 7) hj fl_J0_15 dJ0_isLatin1_aae02_7 ?_
  refine tr_if_ne (pc := 10) (tgt := 17) dJ0_isLatin1_aae02_10 (by decide) (nI_z_eq (by omega)) (fun hcc => absurd (by decide) hcc) (fun _ => ?_)
  refine tr_iconst (pc := 13) (v := nI 1) dJ0_isLatin1_aae02_13 (by decide) ?_
  refine tr_goto (pc := 14) (tgt := 18) dJ0_isLatin1_aae02_14 (by decide) ?_
  exact tr_iret (pc := 18) dJ0_isLatin1_aae02_18 rfl (by decide) (⟨rfl, rfl, rfl⟩)

set_option maxHeartbeats 4000000 in
set_option maxRecDepth 100000 in
theorem c_slen {a : Am} {S : St} {h : Hp} {j : Nat} (hj : j < 2) : CT a 1 mJ0_length_8abf5 [.ref (a.2.2.2.2.1 j)] S h (Rt (nI (sB j).length) S h) := by
  refine met_of (by decide +kernel) (Nat.le_of_ble_eq_true rfl) ?_
  show T a 1 mJ0_length_8abf5 0 [(0, .ref (a.2.2.2.2.1 j))] [] S h _
  refine tr_aload_nS (pc := 0) 0 dJ0_length_8abf5_0 rfl rfl ?_
  refine tr_strV (pc := 1) hj fl_J0_9 dJ0_length_8abf5_1 ?_
  refine tr_strL (pc := 4) hj dJ0_length_8abf5_4 ?_
  refine tr_aload_nS (pc := 5) 0 dJ0_length_8abf5_5 rfl rfl ?_
  refine tr_callK (pc := 6) (rest := [.int (nI ((sB j).length))]) hj dJ0_length_8abf5_6 ml_J0_335 cv_J0_coder_7d493 rfl rfl (Nat.le_of_ble_eq_true rfl) rfl (by decide) (c_coder hj) ?_
  rintro _ _ _ ⟨rfl, rfl, rfl⟩
  show T a 1 mJ0_length_8abf5 9 [(0, .ref (a.2.2.2.2.1 j))] [.int (nI 0), .int (nI ((sB j).length))] S h _
  refine tr_ishr (pc := 9) (v := nI ((sB j).length)) dJ0_length_8abf5_9 (pk_shr0 _) ?_
  exact tr_iret (pc := 10) dJ0_length_8abf5_10 rfl rfl (⟨rfl, rfl, rfl⟩)

set_option maxHeartbeats 4000000 in
set_option maxRecDepth 100000 in
theorem c_pchk_n {a : Am} {S : St} {h : Hp} {x m : Nat} (hx : x < m) (hm : m < 2 ^ 31) : CT a 0 mJ3_checkIndex_8e157 [.int (nI x), .int (nI m), .null] S h (Rt (nI x) S h) := by
  refine met_of (by decide +kernel) (Nat.le_of_ble_eq_true rfl) ?_
  show T a 0 mJ3_checkIndex_8e157 0 [(0, .int (nI x)), (1, .int (nI m)), (2, .null)] [] S h _
  refine tr_iload_n (pc := 0) 0 dJ3_checkIndex_8e157_0 rfl rfl ?_
  refine tr_if_lt (pc := 1) (tgt := 9) dJ3_checkIndex_8e157_1 (by decide) (nI_z_lt (by omega)) (fun hcc => absurd hcc (by decide)) (fun _ => ?_)
  refine tr_iload_n (pc := 4) 0 dJ3_checkIndex_8e157_4 rfl rfl ?_
  refine tr_iload_n (pc := 5) 1 dJ3_checkIndex_8e157_5 rfl rfl ?_
  refine tr_icmp_lt (pc := 6) (tgt := 16) dJ3_checkIndex_8e157_6 (by decide) (nI_ltI (by omega) (by omega)) (fun _ => ?_) (fun hcc => absurd (by omega) hcc)
  refine tr_iload_n (pc := 16) 0 dJ3_checkIndex_8e157_16 rfl rfl ?_
  exact tr_iret (pc := 17) dJ3_checkIndex_8e157_17 rfl rfl (⟨rfl, rfl, rfl⟩)

set_option maxHeartbeats 4000000 in
set_option maxRecDepth 100000 in
theorem c_pchk_r {a : Am} {S : St} {h : Hp} {x m : Nat} {t : Nat} (hx : x < m) (hm : m < 2 ^ 31) : CT a 0 mJ3_checkIndex_8e157 [.int (nI x), .int (nI m), .ref t] S h (Rt (nI x) S h) := by
  refine met_of (by decide +kernel) (Nat.le_of_ble_eq_true rfl) ?_
  show T a 0 mJ3_checkIndex_8e157 0 [(0, .int (nI x)), (1, .int (nI m)), (2, .ref t)] [] S h _
  refine tr_iload_n (pc := 0) 0 dJ3_checkIndex_8e157_0 rfl rfl ?_
  refine tr_if_lt (pc := 1) (tgt := 9) dJ3_checkIndex_8e157_1 (by decide) (nI_z_lt (by omega)) (fun hcc => absurd hcc (by decide)) (fun _ => ?_)
  refine tr_iload_n (pc := 4) 0 dJ3_checkIndex_8e157_4 rfl rfl ?_
  refine tr_iload_n (pc := 5) 1 dJ3_checkIndex_8e157_5 rfl rfl ?_
  refine tr_icmp_lt (pc := 6) (tgt := 16) dJ3_checkIndex_8e157_6 (by decide) (nI_ltI (by omega) (by omega)) (fun _ => ?_) (fun hcc => absurd (by omega) hcc)
  refine tr_iload_n (pc := 16) 0 dJ3_checkIndex_8e157_16 rfl rfl ?_
  exact tr_iret (pc := 17) dJ3_checkIndex_8e157_17 rfl rfl (⟨rfl, rfl, rfl⟩)

set_option maxHeartbeats 4000000 in
set_option maxRecDepth 100000 in
theorem c_chk {a : Am} {S : St} {h : Hp} {x m : Nat} (hx : x < m) (hm : m < 2 ^ 31) : CT a 1 mJ0_checkIndex_df160 [.int (nI x), .int (nI m)] S h (Rv S h) := by
  refine met_of (by decide +kernel) (Nat.le_of_ble_eq_true rfl) ?_
  show T a 1 mJ0_checkIndex_df160 0 [(0, .int (nI x)), (1, .int (nI m))] [] S h _
  refine tr_iload_n (pc := 0) 0 dJ0_checkIndex_df160_0 rfl rfl ?_
  refine tr_iload_n (pc := 1) 1 dJ0_checkIndex_df160_1 rfl rfl ?_
  refine tr_gstq (pc := 2) (r := none) (S2 := S) (h2 := h) fl_J0_1053 dJ0_checkIndex_df160_2 ⟨rfl, rfl, rfl⟩ ?_ (fun t => ?_)
  · skip
    show T a 1 mJ0_checkIndex_df160 5 [(0, .int (nI x)), (1, .int (nI m))] [.null, .int (nI m), .int (nI x)] S h _
    refine tr_callS (pc := 5) (rest := []) dJ0_checkIndex_df160_5 ml_J0_1059 cs_J3_checkIndex_8e157 rfl rfl (Nat.le_of_ble_eq_true rfl) (by decide) (c_pchk_n hx hm) ?_
    rintro _ _ _ ⟨rfl, rfl, rfl⟩
    show T a 1 mJ0_checkIndex_df160 8 [(0, .int (nI x)), (1, .int (nI m))] [.int (nI x)] S h _
    refine tr_pop (pc := 8) dJ0_checkIndex_df160_8 rfl ?_
    exact tr_vret (pc := 9) dJ0_checkIndex_df160_9 rfl (⟨rfl, rfl, rfl⟩)
  · skip
    show T a 1 mJ0_checkIndex_df160 5 [(0, .int (nI x)), (1, .int (nI m))] [.ref t, .int (nI m), .int (nI x)] S h _
    refine tr_callS (pc := 5) (rest := []) dJ0_checkIndex_df160_5 ml_J0_1059 cs_J3_checkIndex_8e157 rfl rfl (Nat.le_of_ble_eq_true rfl) (by decide) (c_pchk_r hx hm) ?_
    rintro _ _ _ ⟨rfl, rfl, rfl⟩
    show T a 1 mJ0_checkIndex_df160 8 [(0, .int (nI x)), (1, .int (nI m))] [.int (nI x)] S h _
    refine tr_pop (pc := 8) dJ0_checkIndex_df160_8 rfl ?_
    exact tr_vret (pc := 9) dJ0_checkIndex_df160_9 rfl (⟨rfl, rfl, rfl⟩)

theorem sB_and : ∀ j, j < 2 → ∀ k, k < (sB j).length → nI ((sB j).getD k 0) &&& nI 255 = nI ((sB j).getD k 0) := by decide +kernel
theorem sB_chr : ∀ j, j < 2 → ∀ k, k < (sB j).length → ((nI ((sB j).getD k 0)).toUInt32 % 65536).toInt32 = nI ((sB j).getD k 0) := by decide +kernel
theorem sB_rch : ∀ j, j < 2 → ∀ k, k < (sB j).length → narrow .char (.int (nI ((sB j).getD k 0))) = .int (nI ((sB j).getD k 0)) := by decide +kernel
set_option maxHeartbeats 4000000 in
set_option maxRecDepth 100000 in
theorem c_l1at {a : Am} {S : St} {h : Hp} {j : Nat} (hj : j < 2) {k : Nat} (hk : k < (sB j).length) : CT a 2 mJ1_charAt_3b067 [.ref (a.2.2.2.2.2 j), .int (nI k)] S h (Rt (nI ((sB j).getD k 0)) S h) := by
  have h5 := sB_lt j hj
  refine met_of (by decide +kernel) (Nat.le_of_ble_eq_true rfl) ?_
  show T a 2 mJ1_charAt_3b067 0 [(0, .ref (a.2.2.2.2.2 j)), (1, .int (nI k))] [] S h _
  refine tr_iload_n (pc := 0) 1 dJ1_charAt_3b067_0 rfl rfl ?_
  refine tr_aload_nS (pc := 1) 0 dJ1_charAt_3b067_1 rfl rfl ?_
  refine tr_strL (pc := 2) hj dJ1_charAt_3b067_2 ?_
  refine tr_callS (pc := 3) (rest := []) dJ1_charAt_3b067_3 ml_J1_9 cs_J0_checkIndex_df160 rfl rfl (Nat.le_of_ble_eq_true rfl) (by decide) (c_chk hk (by omega)) ?_
  rintro _ _ _ ⟨rfl, rfl, rfl⟩
  show T a 2 mJ1_charAt_3b067 6 [(0, .ref (a.2.2.2.2.2 j)), (1, .int (nI k))] [] S h _
  refine tr_aload_nS (pc := 6) 0 dJ1_charAt_3b067_6 rfl rfl ?_
  refine tr_iload_n (pc := 7) 1 dJ1_charAt_3b067_7 rfl rfl ?_
  refine tr_strB (pc := 8) hj hk dJ1_charAt_3b067_8 ?_
  refine tr_sipush (pc := 9) (v := nI 255) dJ1_charAt_3b067_9 (by decide) ?_
  refine tr_iand (pc := 12) (v := nI ((sB j).getD k 0)) dJ1_charAt_3b067_12 (sB_and j hj k hk) ?_
  refine tr_i2c (pc := 13) (v := nI ((sB j).getD k 0)) dJ1_charAt_3b067_13 (sB_chr j hj k hk) ?_
  exact tr_iret (pc := 14) dJ1_charAt_3b067_14 rfl (sB_rch j hj k hk) (⟨rfl, rfl, rfl⟩)

set_option maxHeartbeats 4000000 in
set_option maxRecDepth 100000 in
theorem c_chat {a : Am} {S : St} {h : Hp} {j : Nat} (hj : j < 2) {k : Nat} (hk : k < (sB j).length) : CT a 3 mJ0_charAt_5068e [.ref (a.2.2.2.2.1 j), .int (nI k)] S h (Rt (nI ((sB j).getD k 0)) S h) := by
  refine met_of (by decide +kernel) (Nat.le_of_ble_eq_true rfl) ?_
  show T a 3 mJ0_charAt_5068e 0 [(0, .ref (a.2.2.2.2.1 j)), (1, .int (nI k))] [] S h _
  refine tr_aload_nS (pc := 0) 0 dJ0_charAt_5068e_0 rfl rfl ?_
  refine tr_callK (pc := 1) (rest := []) hj dJ0_charAt_5068e_1 ml_J0_492 cv_J0_isLatin1_aae02 rfl rfl (Nat.le_of_ble_eq_true rfl) rfl (by decide) (c_latin hj) ?_
  rintro _ _ _ ⟨rfl, rfl, rfl⟩
  show T a 3 mJ0_charAt_5068e 4 [(0, .ref (a.2.2.2.2.1 j)), (1, .int (nI k))] [.int (nI 1)] S h _
  refine tr_if_eq (pc := 4) (tgt := 16) dJ0_charAt_5068e_4 (by decide) (nI_z_eq (by omega)) (fun hcc => absurd hcc (by decide)) (fun _ => ?_)
  refine tr_aload_nS (pc := 7) 0 dJ0_charAt_5068e_7 rfl rfl ?_
  refine tr_strV (pc := 8) hj fl_J0_9 dJ0_charAt_5068e_8 ?_
  refine tr_iload_n (pc := 11) 1 dJ0_charAt_5068e_11 rfl rfl ?_
  refine tr_callS (pc := 12) (rest := []) dJ0_charAt_5068e_12 ml_J0_495 cs_J1_charAt_3b067 rfl rfl (Nat.le_of_ble_eq_true rfl) (by decide) (c_l1at hj hk) ?_
  rintro _ _ _ ⟨rfl, rfl, rfl⟩
  show T a 3 mJ0_charAt_5068e 15 [(0, .ref (a.2.2.2.2.1 j)), (1, .int (nI k))] [.int (nI ((sB j).getD k 0))] S h _
  exact tr_iret (pc := 15) dJ0_charAt_5068e_15 rfl (sB_rch j hj k hk) (⟨rfl, rfl, rfl⟩)
