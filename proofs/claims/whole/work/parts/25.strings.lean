/-! ===== strings ===== -/
section STRS
variable {a : Am} {d : Nat} {M : Mt} {pc : Nat} {lv : List (Nat × Value)} {st : List Value} {S : St} {h : Hp} {post : Option Value → St → Hp → Prop}
theorem fl_J0_38 : Cond.fieldLink RJ0 38 RJ0 "COMPACT_STRINGS" "Z" ∈ gtbl := (gw_of (i := 461) (by decide +kernel) (by decide +kernel))
theorem fl_J0_1053 : Cond.fieldLink RJ0 1053 RJ3 "SIOOBE_FORMATTER" "Ljava/util/function/BiFunction;" ∈ gtbl := (gw_of (i := 477) (by decide +kernel) (by decide +kernel))
theorem fl_J0_9 : Cond.fieldLink RJ0 9 RJ0 "value" "[B" ∈ gtbl := (gw_of (i := 1402) (by decide +kernel) (by decide +kernel))
theorem fl_J0_15 : Cond.fieldLink RJ0 15 RJ0 "coder" "B" ∈ gtbl := (gw_of (i := 1403) (by decide +kernel) (by decide +kernel))
/-- the bytes of the j-th constant -/
def sB (j : Nat) : List Nat := [[110, 101, 119], [108, 111, 99, 107]].getD j []
theorem fx_S {p : Program} {s : State} {m : MethodId} {args : Array Value} {meth : Method} {c : Code} (hF : Fx a M p s m args meth c) : Sx a s := hF.2.2.2.2.2.2.2.2.2.2.2.2.2
theorem tr_ldcS {idx q : Nat} {tx : String} (hR : ∀ U, Sx a U → vk_R M.1.cls idx tx q U) (hd : decode M.2.1 pc = .ok (.ldc idx, 2)) (kk : T a d M (pc + 2) lv (.ref q :: st) S h post) : T a d M pc lv st S h post := t_go (fun p l e R s m args below meth c H locs cells slots ls Q hF hd1 hd2 hc1 hc2 hl hP hS K => va_ldcS hF.1 hF.2.1 hF.2.2.2.1 (hR s (fx_S hF)) hd K) kk
theorem tr_strV {j idx : Nat} (hj : j < 2) (hw : Cond.fieldLink M.1.cls idx RJ0 "value" "[B" ∈ gtbl) (hd : decode M.2.1 pc = .ok (.getfield idx, 3)) (kk : T a d M (pc + 3) lv (.ref (a.2.2.2.2.2 j) :: st) S h post) : T a d M pc lv (.ref (a.2.2.2.2.1 j) :: st) S h post := t_go (fun p l e R s m args below meth c H locs cells slots ls Q hF hd1 hd2 hc1 hc2 hl hP hS K => vk_getf hF.1 hF.2.1 ((fx_S hF).2.2.1.1 j hj).2.2.1 hS hF.2.2.2.1 (hF.2.2.2.2.1 _ hw) (fun _ h => h) hd K) kk
theorem tr_strC {j idx : Nat} (hj : j < 2) (hw : Cond.fieldLink M.1.cls idx RJ0 "coder" "B" ∈ gtbl) (hd : decode M.2.1 pc = .ok (.getfield idx, 3)) (kk : T a d M (pc + 3) lv (.int (nI 0) :: st) S h post) : T a d M pc lv (.ref (a.2.2.2.2.1 j) :: st) S h post := t_go (fun p l e R s m args below meth c H locs cells slots ls Q hF hd1 hd2 hc1 hc2 hl hP hS K => vk_getf hF.1 hF.2.1 ((fx_S hF).2.2.1.1 j hj).2.1 hS hF.2.2.2.1 (hF.2.2.2.2.1 _ hw) (fun _ h => h) hd K) kk
theorem sB_len : ∀ j, j < 2 → [3, 4].getD j 0 = (sB j).length := by decide
theorem sB_get : ∀ j, j < 2 → ∀ k, k < (sB j).length → (([[110, 101, 119], [108, 111, 99, 107]] : List (List Int32)).getD j []).getD k 0 = nI ((sB j).getD k 0) := by decide +kernel
theorem sB_lt : ∀ j, j < 2 → (sB j).length < 5 := by decide
theorem tr_strL {j : Nat} (hj : j < 2) (hd : decode M.2.1 pc = .ok (.arraylength, 1)) (kk : T a d M (pc + 1) lv (.int (nI (sB j).length) :: st) S h post) : T a d M pc lv (.ref (a.2.2.2.2.2 j) :: st) S h post := t_go (fun p l e R s m args below meth c H locs cells slots ls Q hF hd1 hd2 hc1 hc2 hl hP hS K => va_tlen hF.1 hF.2.1 ((fx_S hF).2.2.1.1 j hj).2.2.2 hS (by rw [sB_len j hj]; rfl) hd K) kk
theorem tr_strB {j k : Nat} (hj : j < 2) (hk : k < (sB j).length) (hd : decode M.2.1 pc = .ok (.baload, 1)) (kk : T a d M (pc + 1) lv (.int (nI ((sB j).getD k 0)) :: st) S h post) : T a d M pc lv (.int (nI k) :: .ref (a.2.2.2.2.2 j) :: st) S h post := by
  have h5 := sB_lt j hj
  refine t_go (fun p l e R s m args below meth c H locs cells slots ls Q hF hd1 hd2 hc1 hc2 hl hP hS K => ?_) kk
  refine va_tb hF.1 hF.2.1 ((fx_S hF).2.2.1.1 j hj).2.2.2 hS (i := nI k) (vp_in_nI (by rw [sB_len j hj]; exact hk) (by rw [sB_len j hj]; omega)) (v := .int (nI ((sB j).getD k 0))) ?_ hd K
  rw [nI_clamp (by omega), ← sB_get j hj k hk]
theorem tr_gst1 {idx : Nat} (hw : Cond.fieldLink M.1.cls idx RJ0 "COMPACT_STRINGS" "Z" ∈ gtbl) (hd : decode M.2.1 pc = .ok (.getstatic idx, 3)) (kk : T a d M (pc + 3) lv (.int (nI 1) :: st) S h post) : T a d M pc lv st S h post := t_go (fun p l e R s m args below meth c H locs cells slots ls Q hF hd1 hd2 hc1 hc2 hl hP hS K => va_gets hF.1 hF.2.1 (fx_S hF).2.2.2.1 hS hF.2.2.2.1 (hF.2.2.2.2.1 _ hw) (fun _ h => h) hd K) kk
theorem tr_gstq {idx : Nat} {r : Option Value} {S2 : St} {h2 : Hp} (hw : Cond.fieldLink M.1.cls idx RJ3 "SIOOBE_FORMATTER" "Ljava/util/function/BiFunction;" ∈ gtbl) (hd : decode M.2.1 pc = .ok (.getstatic idx, 3)) (hp : post r S2 h2) (hn : T a d M (pc + 3) lv (.null :: st) S h (fun v S' h' => v = r ∧ S' = S2 ∧ h' = h2)) (kk : ∀ t, T a d M (pc + 3) lv (.ref t :: st) S h (fun v S' h' => v = r ∧ S' = S2 ∧ h' = h2)) : T a d M pc lv st S h post := by
  obtain ⟨v0, S0, h0, ⟨rfl, rfl, rfl⟩, hg, hE⟩ := hn
  refine ⟨v0, S0, h0, hp, hg, ?_⟩
  intro p l e R s m args below meth c H locs cells slots ls hF h1 h2 h3 h4 hl hP hS
  rcases (fx_S hF).2.2.2.2 with z | ⟨t, z⟩
  · exact va_gets hF.1 hF.2.1 z hS hF.2.2.2.1 (hF.2.2.2.2.1 _ hw) (fun _ h => h) hd (hE p l e R s m args below meth c H locs cells slots ls hF h1 h2 h3 h4 hl hP hS)
  · obtain ⟨v1, S1, h1', ⟨rfl, rfl, rfl⟩, hg1, hE1⟩ := kk t
    exact va_gets hF.1 hF.2.1 z hS hF.2.2.2.1 (hF.2.2.2.2.1 _ hw) (fun _ h => h) hd (hE1 p l e R s m args below meth c H locs cells slots ls hF h1 h2 h3 h4 hl hP hS)
theorem tr_callK {d' n j idx : Nat} {M' : Mt} {as rest stk : List Value} {post1 : Option Value → St → Hp → Prop} (hj : j < 2) (hd : decode M.2.1 pc = .ok (.invokevirtual idx, 3)) (hl0 : Cond.methodLink M.1.cls idx M'.1 ∈ gtbl) (hm : CV M' n) (hst : stk = as.reverse ++ .ref (a.2.2.2.2.1 j) :: rest) (hn : as.length = n) (hcat : (rest.map fun v => v.category).sum ≤ 8) (hci : M'.1.cls = RJ0) (hdd : d' < d) (hc : CT a d' M' (.ref (a.2.2.2.2.1 j) :: as) S h post1)
    (kk : ∀ v S1 h1, post1 v S1 h1 → T a d M (pc + 3) lv (v.toList ++ rest) S1 h1 post) : T a d M pc lv stk S h post := by
  refine t_goC hc ?_ kk
  intro v S1 h1 hC p l e R s m args below meth c H locs cells slots ls hF d1 d2 d3 d4 hl hP hS
  obtain ⟨⟨w1, w2, w3, w4⟩, w5, w6, w7⟩ := hm
  have hts := hF.2.2.2.2.1
  have hcw : CallW R s args M.1.cls M'.1.cls idx M'.1 M'.2.1 M'.2.2.1 M'.2.2.2 (Cond.code M'.1 M'.2.1 M'.2.2.1 M'.2.2.2 :: gtbl) { frames := d', cells := S1.1.length - S.1.length, slots := tot S1 - tot S, locals := 40 * d' } (S1.1.length - S.1.length) (tot S1 - tot S) n :=
    ⟨callB_of n hts (good_g w1) rfl rfl rfl (hts _ w2) (hts _ hl0) w3 ⟨by show d' + 1 ≤ _; omega, by show 8 + (M'.2.2.1 + 11) + 40 * d' ≤ _; omega⟩, hts _ w5, hts _ w6⟩
  refine ⟨_, va_runV (As := as) (rest := rest) (b := a.2.2.2.2.1 j) ⟨hF.1, hF.2.1, hF.2.2.1, hF.2.2.2.1, hts⟩ (hC.2 l) hcw ⟨blind_p, ?_, fun U hU hW => pre_p hF.2.2.2.2.2.2.2.2 hP hS hU hW⟩ rfl hn hl.1 hst (lv_room (rest := stk) hcat) hd ⟨d3, d4⟩⟩
  have hrec := vk_recv (fx_S hF).2.2.1 hj hS
  rw [hci]
  exact hrec
end STRS