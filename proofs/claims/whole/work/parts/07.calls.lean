/-! ===== making, calling, returning ===== -/
theorem cl_def : ∀ (ci : Nat) (C : String) (T : u_T) (N : Nat), vwC[ci]? = some (C, T, N) → ∃ ty : Nat → FieldType, (∀ k, k < N → parseFieldDescriptor (T k).2.2.1 = some (ty k)) ∧ ∀ k, k < N → defaultValue (ty k) = (if (fkT.getD ci []).getD k false = true then Value.null else .int 0) := by
  intro ci C T N h
  match ci, h with
  | 0, h => cases h; exact ⟨tyX0, tyX0_ok, by decide +kernel⟩
  | 1, h => cases h; exact ⟨tyX1, tyX1_ok, by decide +kernel⟩
  | 2, h => cases h; exact ⟨tyX2, tyX2_ok, by decide +kernel⟩
  | 3, h => cases h; exact ⟨tyX3, tyX3_ok, by decide +kernel⟩
  | 4, h => cases h; exact ⟨tyX4, tyX4_ok, by decide +kernel⟩
  | 5, h => cases h; exact ⟨tyX5, tyX5_ok, by decide +kernel⟩
  | 6, h => cases h; exact ⟨tyX6, tyX6_ok, by decide +kernel⟩
  | 7, h => cases h; exact ⟨tyX7, tyX7_ok, by decide +kernel⟩
  | 8, h => cases h; exact ⟨tyX8, tyX8_ok, by decide +kernel⟩
  | 9, h => cases h; exact ⟨tyX9, tyX9_ok, by decide +kernel⟩
  | 10, h => cases h; exact ⟨tyX10, tyX10_ok, by decide +kernel⟩
  | k + 11, h => simp at h
section CALLS
variable {a : Am} {d : Nat} {M : Mt} {pc : Nat} {lv : List (Nat × Value)} {st : List Value} {S : St} {h : Hp} {post : Option Value → St → Hp → Prop}
/-- the state of the cells behind a making -/
abbrev nS (S : St) (kn : Nat × Nat) : St := (S.1 ++ [kn], gs S.2 S.1.length (fun _ => none))
abbrev nH (S : St) (h : Hp) : Hp := hs h S.1.length (fun _ => 0)
theorem rep_push {H H1 : Heap} {kn : Nat × Nat} (hP : RepW a S h H) (z1 : H1.size = aN a + S.1.length + 1) (o1 : ∀ q, q < aN a + S.1.length → H1[q]? = H[q]?) (hat : va_at a.1 vwC (aN a + S.1.length, eOf a (nS S kn) (nH S h) S.1.length kn) H1) : RepW a (nS S kn) (nH S h) H1 := by
  refine ⟨?_, by rw [z1]; simp; omega⟩
  rw [ws_push (h := h) (fun j hj => ⟨hs_ne (by omega), gs_ne (by omega)⟩)]
  refine (hP.1.kept (fun k x hx => o1 _ ?_)).app (fun k x hx => ?_)
  · have h1 := ws_addr hx
    omega
  · have hz : k < 1 := (List.getElem?_eq_some_iff.mp hx).1
    rw [show k = 0 by omega] at hx
    cases hx
    exact hat
theorem s_push {s : State} {H H1 : Heap} {locs : List Loc} (hP : RepW a S h H) (hS : va_S (aA a) s.heap H locs) (z1 : H1.size = aN a + S.1.length + 1) (o1 : ∀ q, q < aN a + S.1.length → H1[q]? = H[q]?) : va_S (aA a) s.heap H1 locs := by
  have h1 := hS.1
  have h2 := hP.2
  exact ⟨by omega, fun x g1 g2 => (o1 x (by omega)).trans (hS.2.1 x g1 g2), hS.2.2⟩
theorem tr_newI {n : Nat} {x : Int32} (hd : decode M.2.1 pc = .ok (.newarray .int, 2)) (hx : x = nI n) (hn : n ≤ 1000000) (kk : T a d M (pc + 2) lv (rv a S.1.length :: st) (nS S (0, n)) (nH S h) post) : T a d M pc lv (.int x :: st) S h post := by
  subst hx
  refine t_goA (kn := (0, n)) rfl (fun p l e R s m args below meth c H locs cells slots ls Q hF hc1 hc2 hl hP hS K => ?_) kk
  refine va_newaK hF.1 hF.2.1 (atype := .int) (hF.2.2.2.2.1 _ ac_int) rfl hd rfl (nI_pos (by omega)) (nI_clamp (by omega)) (by show n * 4 ≤ _; omega) hc1 hc2 hP.2 fun H1 cA e1 z1 o1 hAr hNm => ?_
  have hcA : cA = a.2.1.1 := Option.some.inj (hNm.symm.trans (hF.2.2.2.2.2.2.2.2.1.2 0 _ rfl).2)
  subst hcA
  refine K H1 (rep_push hP z1 o1 ?_) (s_push hP hS z1 o1)
  show H1[_]? = some (vp_cell _ (n, .inl (hs h S.1.length (fun _ => 0) S.1.length)))
  rw [hs_same]
  exact e1
theorem tr_newB {n : Nat} {x : Int32} (hd : decode M.2.1 pc = .ok (.newarray .byte, 2)) (hx : x = nI n) (hn : n ≤ 1000000) (kk : T a d M (pc + 2) lv (rv a S.1.length :: st) (nS S (1, n)) (nH S h) post) : T a d M pc lv (.int x :: st) S h post := by
  subst hx
  refine t_goA (kn := (1, n)) rfl (fun p l e R s m args below meth c H locs cells slots ls Q hF hc1 hc2 hl hP hS K => ?_) kk
  refine va_newaK hF.1 hF.2.1 (atype := .byte) (hF.2.2.2.2.1 _ ac_byte) rfl hd rfl (nI_pos (by omega)) (nI_clamp (by omega)) (by show n * 1 ≤ _; omega) hc1 hc2 hP.2 fun H1 cA e1 z1 o1 hAr hNm => ?_
  have hcA : cA = a.2.1.2.1 := Option.some.inj (hNm.symm.trans (hF.2.2.2.2.2.2.2.2.1.2 1 _ rfl).2)
  subst hcA
  refine K H1 (rep_push hP z1 o1 ?_) (s_push hP hS z1 o1)
  show H1[_]? = some (vp_cell _ (n, .inl (hs h S.1.length (fun _ => 0) S.1.length)))
  rw [hs_same]
  exact e1
theorem tr_newQ {n idx : Nat} {x : Int32} (hd : decode M.2.1 pc = .ok (.anewarray idx, 3)) (hw : Cond.classLink M.1.cls idx RX2 ∈ gtbl) (hx : x = nI n) (hn : n ≤ 1000000) (kk : T a d M (pc + 3) lv (rv a S.1.length :: st) (nS S (2, n)) (nH S h) post) : T a d M pc lv (.int x :: st) S h post := by
  subst hx
  refine t_goA (kn := (2, n)) rfl (fun p l e R s m args below meth c H locs cells slots ls Q hF hc1 hc2 hl hP hS K => ?_) kk
  have hcl : (nI n).toNatClampNeg = n := nI_clamp (by omega)
  refine W.anew hF.1 hF.2.1 hF.2.2.2.1 (hF.2.2.2.2.1 _ hw) (va_AO.use hF.2.2.2.2.2.2.2.2.2.2.1) rfl hd rfl (nI_pos (by omega)) (by rw [hcl]; omega) hc1 (by rw [hcl]; exact hc2) fun cA kA comp f1 f2 f3 f4 => ?_
  have hcA : cA = a.2.1.2.2 := by
    obtain ⟨_, _, _, _, _, q4⟩ := (hF.2.2.2.2.2.2.2.2.1.2 2 _ rfl).2
    exact Option.some.inj (f1.symm.trans q4)
  subst hcA
  rw [hcl]
  generalize hH1 : H.push ({ cls := a.2.1.2.2, slots := Array.replicate n .null, vm := .none } : Cell) = H1
  have z1 : H1.size = aN a + S.1.length + 1 := by rw [← hH1, Array.size_push, hP.2]
  have e1 : H1[aN a + S.1.length]? = some (arrV a.2.1.2.2 n (fun _ => .null)) := by rw [← hH1, ← hP.2, Array.getElem?_push_size, ← arrV_new]
  have o1 : ∀ q : Nat, q < aN a + S.1.length → H1[q]? = H[q]? := fun q hq => by rw [← hH1, Array.getElem?_push, if_neg (by rw [hP.2]; omega)]
  have K2 := K H1 (rep_push hP z1 o1 (by
    show H1[_]? = some (vp_cell _ _)
    rw [vp_cell_q, e1]
    congr 2
    funext j
    show Value.null = va_rf (Option.map _ (gs S.2 S.1.length (fun _ => none) S.1.length j))
    rw [gs_same]
    rfl)) (s_push hP hS z1 o1)
  rw [hP.2]
  exact K2
theorem tr_new {ci N idx : Nat} {C : String} {T0 : u_T} (hd : decode M.2.1 pc = .ok (.new idx, 3)) (hc : vwC[ci]? = some (C, T0, N)) (hw : Cond.classLink M.1.cls idx C ∈ gtbl) (hw2 : Cond.instantiable C N ∈ gtbl) (hw3 : Cond.initialized C ∈ gtbl) (kk : T a d M (pc + 3) lv (rv a S.1.length :: st) (nS S (ci + 3, N)) (nH S h) post) : T a d M pc lv st S h post := by
  refine t_goA (kn := (ci + 3, N)) rfl (fun p l e R s m args below meth c H locs cells slots ls Q hF hc1 hc2 hl hP hS K => ?_) kk
  have hts := hF.2.2.2.2.1
  have hKn := hF.2.2.2.2.2.2.2.2.1.1 ci _ hc
  refine W.newcK hF.1 hF.2.1 hF.2.2.2.1 (hts _ hw) (hts _ hw2) (hts _ hw3) rfl hd hc1 hc2 hKn.2.1 hP.2 fun H1 kC hkC e1 z1 o1 => ?_
  refine K H1 (rep_push hP z1 o1 ?_) (s_push hP hS z1 o1)
  obtain ⟨ty, hty, hdef⟩ := cl_def ci C T0 N hc
  refine ⟨_, hc, (u_born ty hts (cl_ok ci C T0 N hc).1 hKn hkC e1 hty).to (fun j hj => ?_)⟩
  have hlen : (fkT.getD ci []).length = N := (cl_ok ci C T0 N hc).2.2.2
  have hj2 : j < (fkT.getD ci []).length := by rw [hlen]; exact hj
  show defaultValue (ty j) = (fvL a (nS S (ci + 3, N)) (nH S h) S.1.length ci).getD j .null
  have g1 : (fkT.getD ci []).getD j false = (fkT.getD ci [])[j] := by rw [List.getD_eq_getElem?_getD (l := fkT.getD ci []) (i := j), List.getElem?_eq_getElem hj2]; rfl
  have g2 : (fvL a (nS S (ci + 3, N)) (nH S h) S.1.length ci).getD j .null = (if (fkT.getD ci [])[j] = true then va_rf (Option.map (aN a + ·) (gs S.2 S.1.length (fun _ => none) S.1.length j)) else .int (hs h S.1.length (fun _ => 0) S.1.length j)) := by
    rw [List.getD_eq_getElem?_getD, fv_get (List.getElem?_eq_getElem hj2)]; rfl
  rw [hdef j hj, g1, g2]
  show (if (fkT.getD ci [])[j] = true then Value.null else .int 0) = if (fkT.getD ci [])[j] = true then va_rf (Option.map (aN a + ·) (gs S.2 S.1.length (fun _ => none) S.1.length j)) else .int (hs h S.1.length (fun _ => 0) S.1.length j)
  rw [gs_same, hs_same]
  rfl
theorem good_g {M' : Mt} (h : Cond.code M'.1 M'.2.1 M'.2.2.1 M'.2.2.2 ∈ gtbl) : GoodIn gtbl (Cond.code M'.1 M'.2.1 M'.2.2.1 M'.2.2.2 :: gtbl) := by
  intro w hw
  rcases List.mem_cons.mp hw with rfl | hw
  · exact ⟨h, gw_good _ h⟩
  · exact ⟨hw, gw_good _ hw⟩
theorem blind_p {as : List Value} : FrameBlind (va_Pc as (fun U => Px a U ∧ RepW a S h U.heap)) := fun _ _ _ _ q => ⟨q.1, q.2.1.call, q.2.2⟩
theorem pre_p {s U : State} {H : Heap} {locs : List Loc} {as : List Value} (hx : Px a s) (hP : RepW a S h H) (hS : va_S (aA a) s.heap H locs) (hU : U.heap = H) (hW : s.WarmedH U.vm) : va_Pc as (fun U => Px a U ∧ RepW a S h U.heap) as.toArray U := by
  subst hU
  exact ⟨rfl, hx.move hW hS, hP⟩
/-- behind a call -/
theorem w_back {p : Program} {l : Launch} {e : Env} {R : Room} {s : State} {m : MethodId} {args : Array Value} {below : List Frame} {meth : Method} {c : Code} {H : Heap} {locs : List Loc} {cells slots : Nat} {Q : State → Prop} {mc ms : Nat} {ls : Array Slot} {stk rest : List Value} {v : Option Value} {S1 : St} {h1 : Hp} {aa : Array Value}
    (hr : va_Run p l e R s m args below meth c H locs cells slots mc ms (F0 m pc ls stk) rest (Qx a v S1 h1 aa) (aA a)) (hS : va_S (aA a) s.heap H locs)
    (K : ∀ H1 locs1, RepW a S1 h1 H1 → va_S (aA a) s.heap H1 locs1 → W p l e R s m args below meth c H1 locs1 (cells + mc) (slots + ms) Q (F0 m (pc + 3) ls (v.toList ++ rest))) : W p l e R s m args below meth c H locs cells slots Q (F0 m pc ls stk) := by
  intro T hT X
  obtain ⟨v', st₀, t, T', L, h0, X', hL, e1, e2, ⟨hv, hRep, hz, hk⟩, st⟩ := hr T hT X
  have hv' : v' = v := by injection hv
  subst hv'
  rw [h0] at hz hk
  obtain ⟨t2, a1, b1⟩ := K T'.heap (locs ++ L) (by rw [e1]; exact hRep) ⟨Nat.le_trans hS.1 (by rw [e1]; exact hz), fun q g1 g2 => by rw [e1, hk q (Nat.lt_of_lt_of_le g1 hS.1) g2]; exact hS.2.1 q g1 g2, fun q hq => by
      rcases List.mem_append.mp hq with w | w
      · exact hS.2.2 q w
      · exact hL q w⟩ T' rfl X'
  exact ⟨t2, st t2 a1, b1⟩
/-- a call's place in the accounts -/
theorem t_goC {d' : Nat} {M' : Mt} {as rest stk : List Value} {post1 : Option Value → St → Hp → Prop} (hc : CT a d' M' as S h post1)
    (run : ∀ (v : Option Value) (S1 : St) (h1 : Hp), Cn a d' M' as S h v S1 h1 → ∀ (p : Program) (l : Launch) (e : Env) (R : Room) (s : State) (m : MethodId) (args : Array Value) (below : List Frame) (meth : Method) (c : Code) (H : Heap) (locs : List Loc) (cells slots : Nat) (ls : Array Slot), Fx a M p s m args meth c → d ≤ R.frames → 40 * d ≤ R.locals → cells + (S1.1.length - S.1.length) ≤ R.cells → slots + (tot S1 - tot S) ≤ R.slots → lv_has ls M.2.2.1 lv → RepW a S h H → va_S (aA a) s.heap H locs → ∃ aa, va_Run p l e R s m args below meth c H locs cells slots (S1.1.length - S.1.length) (tot S1 - tot S) (F0 m pc ls stk) rest (Qx a v S1 h1 aa) (aA a))
    (kk : ∀ v S1 h1, post1 v S1 h1 → T a d M (pc + 3) lv (v.toList ++ rest) S1 h1 post) : T a d M pc lv stk S h post := by
  obtain ⟨v, S1, h1, hp1, hC⟩ := hc
  obtain ⟨v2, S', h', hp, hg, hE⟩ := kk v S1 h1 hp1
  have hg1 := hC.1
  refine ⟨v2, S', h', hp, hg1.trans hg, ?_⟩
  intro p l e R s m args below meth c H locs cells slots ls hF d1 d2 d3 d4 hl hP hS
  obtain ⟨g1, g2⟩ := hg1
  obtain ⟨g3, g4⟩ := hg
  obtain ⟨aa, hr⟩ := run v S1 h1 hC p l e R s m args below meth c H locs cells slots ls hF d1 d2 (by omega) (by omega) hl hP hS
  refine w_back hr hS (fun H1 locs1 hP1 hS1 => ?_)
  have K := hE p l e R s m args below meth c H1 locs1 (cells + (S1.1.length - S.1.length)) (slots + (tot S1 - tot S)) ls hF d1 d2 (by omega) (by omega) hl hP1 hS1
  rw [show cells + (S1.1.length - S.1.length) + (S'.1.length - S1.1.length) = cells + (S'.1.length - S.1.length) by omega, show slots + (tot S1 - tot S) + (tot S' - tot S1) = slots + (tot S' - tot S) by omega] at K
  exact K
def CV (M' : Mt) (n : Nat) : Prop := MOk M' n ∧ MInst M' ∧ MSel M' ∧ M'.2.2.1 ≤ 21
def CS (M' : Mt) (n : Nat) : Prop := MOk M' n ∧ MStat M' ∧ M'.2.2.1 ≤ 21
def CI (M' : Mt) (n : Nat) : Prop := MOk M' n ∧ MInst M' ∧ M'.2.2.1 ≤ 21 ∧ M'.1.name = "<init>" ∧ M'.2.2.2 = none
theorem tr_callV {d' n o ci N idx : Nat} {M' : Mt} {as rest stk : List Value} {post1 : Option Value → St → Hp → Prop} (hd : decode M.2.1 pc = .ok (.invokevirtual idx, 3)) (hl0 : Cond.methodLink M.1.cls idx M'.1 ∈ gtbl) (hm : CV M' n) (hst : stk = as.reverse ++ rv a o :: rest) (hn : as.length = n) (hcat : (rest.map fun v => v.category).sum ≤ 8) (ho : S.1[o]? = some (ci + 3, N)) (hci : (vwC[ci]?).map (·.1) = some M'.1.cls) (hdd : d' < d) (hc : CT a d' M' (rv a o :: as) S h post1)
    (kk : ∀ v S1 h1, post1 v S1 h1 → T a d M (pc + 3) lv (v.toList ++ rest) S1 h1 post) : T a d M pc lv stk S h post := by
  refine t_goC hc ?_ kk
  intro v S1 h1 hC p l e R s m args below meth c H locs cells slots ls hF d1 d2 d3 d4 hl hP hS
  obtain ⟨⟨w1, w2, w3, w4⟩, w5, w6, w7⟩ := hm
  have hts := hF.2.2.2.2.1
  have hK := hF.2.2.2.2.2.2.2.2.1
  obtain ⟨q, hq, hq1⟩ : ∃ q, vwC[ci]? = some q ∧ q.1 = M'.1.cls := by
    cases hx : vwC[ci]? with
    | none => rw [hx] at hci; cases hci
    | some q => rw [hx] at hci; exact ⟨q, rfl, Option.some.inj hci⟩
  have hcw : CallW R s args M.1.cls M'.1.cls idx M'.1 M'.2.1 M'.2.2.1 M'.2.2.2 (Cond.code M'.1 M'.2.1 M'.2.2.1 M'.2.2.2 :: gtbl) { frames := d', cells := S1.1.length - S.1.length, slots := tot S1 - tot S, locals := 40 * d' } (S1.1.length - S.1.length) (tot S1 - tot S) n :=
    ⟨callB_of n hts (good_g w1) rfl rfl rfl (hts _ w2) (hts _ hl0) w3 ⟨by show d' + 1 ≤ _; omega, by show 8 + (M'.2.2.1 + 11) + 40 * d' ≤ _; omega⟩, hts _ w5, hts _ w6⟩
  refine ⟨_, va_runV (As := as) (rest := rest) (b := aN a + o) ⟨hF.1, hF.2.1, hF.2.2.1, hF.2.2.2.1, hts⟩ (hC.2 l) hcw ⟨blind_p, ?_, fun U hU hW => pre_p hF.2.2.2.2.2.2.2.2 hP hS hU hW⟩ rfl hn hl.1 hst (lv_room (rest := stk) hcat) hd ⟨d3, d4⟩⟩
  have hrec := va_recv hK hP.1 hq (ob_get (a := a) (h := h) ho)
  rw [hq1] at hrec
  exact hrec
theorem tr_callS {d' n idx : Nat} {M' : Mt} {as rest stk : List Value} {post1 : Option Value → St → Hp → Prop} (hd : decode M.2.1 pc = .ok (.invokestatic idx, 3)) (hl0 : Cond.methodLink M.1.cls idx M'.1 ∈ gtbl) (hm : CS M' n) (hst : stk = as.reverse ++ rest) (hn : as.length = n) (hcat : (rest.map fun v => v.category).sum ≤ 8) (hdd : d' < d) (hc : CT a d' M' as S h post1)
    (kk : ∀ v S1 h1, post1 v S1 h1 → T a d M (pc + 3) lv (v.toList ++ rest) S1 h1 post) : T a d M pc lv stk S h post := by
  refine t_goC hc ?_ kk
  intro v S1 h1 hC p l e R s m args below meth c H locs cells slots ls hF d1 d2 d3 d4 hl hP hS
  obtain ⟨⟨w1, w2, w3, w4⟩, w5, w7⟩ := hm
  have hts := hF.2.2.2.2.1
  have hcw : CallB R s args M.1.cls idx M'.1 M'.2.1 M'.2.2.1 M'.2.2.2 (Cond.code M'.1 M'.2.1 M'.2.2.1 M'.2.2.2 :: gtbl) { frames := d', cells := S1.1.length - S.1.length, slots := tot S1 - tot S, locals := 40 * d' } (S1.1.length - S.1.length) (tot S1 - tot S) n :=
    callB_of n hts (good_g w1) rfl rfl rfl (hts _ w2) (hts _ hl0) w3 ⟨by show d' + 1 ≤ _; omega, by show 8 + (M'.2.2.1 + 11) + 40 * d' ≤ _; omega⟩
  exact ⟨_, va_runS (As := as) (rest := rest) ⟨hF.1, hF.2.1, hF.2.2.1, hF.2.2.2.1, hts⟩ (hC.2 l) ⟨hcw, hts _ w5⟩ ⟨blind_p, fun U hU hW => pre_p hF.2.2.2.2.2.2.2.2 hP hS hU hW⟩ rfl hn hl.1 hst (lv_room (rest := stk) hcat) hd ⟨d3, d4⟩⟩
theorem cn_B {R : Room} {s : State} {args : Array Value} {n idx d' : Nat} {own host : String} {M' : Mt} {mc ms : Nat} (hts : ∀ w ∈ gtbl, w.before args s = true) (hx : Px a s) (hl0 : (own, idx, M'.1, host) ∈ nestL) (hm : MOk M' n) (h7 : M'.2.2.1 ≤ 21) (hdd : d' < d) (d1 : d ≤ R.frames) (d2 : 40 * d ≤ R.locals) : va_CN R s args own idx M'.1 host M'.2.1 M'.2.2.1 M'.2.2.2 (Cond.code M'.1 M'.2.1 M'.2.2.1 M'.2.2.2 :: gtbl) { frames := d', cells := mc, slots := ms, locals := 40 * d' } mc ms n := by
  obtain ⟨w1, w2, w3, w4⟩ := hm
  exact va_cnB n hts (good_g w1) rfl rfl rfl (hx.2.1 _ hl0) (hts _ w2) w3 ⟨by show d' + 1 ≤ _; omega, by show 8 + (M'.2.2.1 + 11) + 40 * d' ≤ _; omega⟩
theorem tr_callSN {d' n idx : Nat} {host : String} {M' : Mt} {as rest stk : List Value} {post1 : Option Value → St → Hp → Prop} (hd : decode M.2.1 pc = .ok (.invokestatic idx, 3)) (hl0 : (M.1.cls, idx, M'.1, host) ∈ nestL) (hm : CS M' n) (hst : stk = as.reverse ++ rest) (hn : as.length = n) (hcat : (rest.map fun v => v.category).sum ≤ 8) (hdd : d' < d) (hc : CT a d' M' as S h post1)
    (kk : ∀ v S1 h1, post1 v S1 h1 → T a d M (pc + 3) lv (v.toList ++ rest) S1 h1 post) : T a d M pc lv stk S h post := by
  refine t_goC hc ?_ kk
  intro v S1 h1 hC p l e R s m args below meth c H locs cells slots ls hF d1 d2 d3 d4 hl hP hS
  have hts := hF.2.2.2.2.1
  have hx := hF.2.2.2.2.2.2.2.2
  exact ⟨_, va_runSN (As := as) (rest := rest) ⟨hF.1, hF.2.1, hF.2.2.1, hF.2.2.2.1, hts⟩ (hC.2 l) ⟨cn_B hts hx hl0 hm.1 hm.2.2 hdd d1 d2, hts _ hm.2.1, trivial⟩ ⟨blind_p, fun U hU hW => pre_p hx hP hS hU hW⟩ rfl hn hl.1 hst (lv_room (rest := stk) hcat) hd ⟨d3, d4⟩⟩
theorem tr_callI {d' n o idx : Nat} {M' : Mt} {as rest stk : List Value} {post1 : Option Value → St → Hp → Prop} (hd : decode M.2.1 pc = .ok (.invokespecial idx, 3)) (hl0 : Cond.methodLink M.1.cls idx M'.1 ∈ gtbl) (hm : CI M' n) (hst : stk = as.reverse ++ rv a o :: rest) (hn : as.length = n) (hcat : (rest.map fun v => v.category).sum ≤ 8) (hdd : d' < d) (hc : CT a d' M' (rv a o :: as) S h post1)
    (kk : ∀ v S1 h1, post1 v S1 h1 → T a d M (pc + 3) lv (v.toList ++ rest) S1 h1 post) : T a d M pc lv stk S h post := by
  refine t_goC hc ?_ kk
  intro v S1 h1 hC p l e R s m args below meth c H locs cells slots ls hF d1 d2 d3 d4 hl hP hS
  obtain ⟨⟨w1, w2, w3, w4⟩, w5, w7, w8, w9⟩ := hm
  have hts := hF.2.2.2.2.1
  have hcw : CallB R s args M.1.cls idx M'.1 M'.2.1 M'.2.2.1 M'.2.2.2 (Cond.code M'.1 M'.2.1 M'.2.2.1 M'.2.2.2 :: gtbl) { frames := d', cells := S1.1.length - S.1.length, slots := tot S1 - tot S, locals := 40 * d' } (S1.1.length - S.1.length) (tot S1 - tot S) n :=
    callB_of n hts (good_g w1) rfl rfl rfl (hts _ w2) (hts _ hl0) w3 ⟨by show d' + 1 ≤ _; omega, by show 8 + (M'.2.2.1 + 11) + 40 * d' ≤ _; omega⟩
  rw [w9] at hcw
  refine ⟨_, va_runI (As := as) (rest := rest) (b := aN a + o) ⟨hF.1, hF.2.1, hF.2.2.1, hF.2.2.2.1, hts⟩ (by have := hC.2 l; rw [w9] at this; exact this) ⟨hcw, w8, hts _ w5⟩ ⟨blind_p, fun U hU hW => pre_p hF.2.2.2.2.2.2.2.2 hP hS hU hW⟩ rfl hn hl.1 hst (lv_room (rest := stk) hcat) hd ⟨d3, d4⟩⟩
theorem tr_callIN {d' n o idx : Nat} {host : String} {M' : Mt} {as rest stk : List Value} {post1 : Option Value → St → Hp → Prop} (hd : decode M.2.1 pc = .ok (.invokespecial idx, 3)) (hl0 : (M.1.cls, idx, M'.1, host) ∈ nestL) (hm : CI M' n) (hst : stk = as.reverse ++ rv a o :: rest) (hn : as.length = n) (hcat : (rest.map fun v => v.category).sum ≤ 8) (hdd : d' < d) (hc : CT a d' M' (rv a o :: as) S h post1)
    (kk : ∀ v S1 h1, post1 v S1 h1 → T a d M (pc + 3) lv (v.toList ++ rest) S1 h1 post) : T a d M pc lv stk S h post := by
  refine t_goC hc ?_ kk
  intro v S1 h1 hC p l e R s m args below meth c H locs cells slots ls hF d1 d2 d3 d4 hl hP hS
  have hts := hF.2.2.2.2.1
  have hx := hF.2.2.2.2.2.2.2.2
  obtain ⟨w0, w5, w7, w8, w9⟩ := hm
  have hcn := cn_B (a := a) (R := R) (mc := S1.1.length - S.1.length) (ms := tot S1 - tot S) hts hx hl0 w0 w7 hdd d1 d2
  have hM := hC.2 l
  rw [w9] at hcn hM
  exact ⟨_, va_runIN (As := as) (rest := rest) (b := aN a + o) ⟨hF.1, hF.2.1, hF.2.2.1, hF.2.2.2.1, hts⟩ hM ⟨hcn, w8, hts _ w5⟩ ⟨blind_p, fun U hU hW => pre_p hx hP hS hU hW⟩ rfl hn hl.1 hst (lv_room (rest := stk) hcat) hd ⟨d3, d4⟩⟩
theorem tr_objInit {idx o : Nat} (hd : decode M.2.1 pc = .ok (.invokespecial idx, 3)) (hl0 : Cond.methodLink M.1.cls idx objectInit ∈ gtbl) (hcat : (st.map fun v => v.category).sum ≤ 8) (hdd : 0 < d) (kk : T a d M (pc + 3) lv st S h post) : T a d M pc lv (rv a o :: st) S h post := by
  refine t_go (fun p l e R s m args below meth c H locs cells slots ls Q hF hd1 hd2 hc1 hc2 hl hP hS K => ?_) kk
  have hts := hF.2.2.2.2.1
  exact W.objInit hF.1 hF.2.1 hF.2.2.2.1 (hts _ hl0) (hts _ oi_inst) (hts _ oi_code) rfl (by rw [hF.2.2.1]; exact hl.1) rfl hd (by omega) (by show 2 * 0 + _ + 12 ≤ _; omega) K
theorem tr_iret {x : Int32} {ty : FieldType} (hd : decode M.2.1 pc = .ok (.ireturn, 1)) (hr : M.2.2.2 = some ty) (hn : narrow ty (.int x) = .int x) (hp : post (some (.int x)) S h) : T a d M pc lv [.int x] S h post := by
  refine ⟨_, S, h, hp, Gr.rf, ?_⟩
  intro p l e R s m args below meth c H locs cells slots ls hF d1 d2 d3 d4 hl hP hS
  simp only [Nat.sub_self, Nat.add_zero]
  exact W.zret hF.1 hF.2.1 (hF.2.2.2.2.2.1.trans hr) hn (fun t ht hW => ⟨rfl, by rw [ht]; exact hP, hS.F ht⟩) hS.2.2 hd hF.2.2.2.2.2.2.1
theorem tr_vret (hd : decode M.2.1 pc = .ok (.return_, 1)) (hr : M.2.2.2 = none) (hp : post none S h) : T a d M pc lv [] S h post := by
  refine ⟨_, S, h, hp, Gr.rf, ?_⟩
  intro p l e R s m args below meth c H locs cells slots ls hF d1 d2 d3 d4 hl hP hS
  simp only [Nat.sub_self, Nat.add_zero]
  exact W.vret hF.1 hF.2.1 (hF.2.2.2.2.2.1.trans hr) (fun t ht hW => ⟨rfl, by rw [ht]; exact hP, hS.F ht⟩) hS.2.2 hd hF.2.2.2.2.2.2.1
theorem tr_lret {x : Int64} (hd : decode M.2.1 pc = .ok (.lreturn, 1)) (hr : M.2.2.2 = some .long) (hp : post (some (.long x)) S h) : T a d M pc lv [.long x] S h post := by
  refine ⟨_, S, h, hp, Gr.rf, ?_⟩
  intro p l e R s m args below meth c H locs cells slots ls hF d1 d2 d3 d4 hl hP hS
  simp only [Nat.sub_self, Nat.add_zero]
  exact W.lret hF.1 hF.2.1 (hF.2.2.2.2.2.1.trans hr) (fun t ht hW => ⟨rfl, by rw [ht]; exact hP, hS.F ht⟩) hS.2.2 hd hF.2.2.2.2.2.2.1
theorem tr_aret {o : Nat} {t : FieldType} (hd : decode M.2.1 pc = .ok (.areturn, 1)) (hr : M.2.2.2 = some (.array t)) (hp : post (some (rv a o)) S h) : T a d M pc lv [rv a o] S h post := by
  refine ⟨_, S, h, hp, Gr.rf, ?_⟩
  intro p l e R s m args below meth c H locs cells slots ls hF d1 d2 d3 d4 hl hP hS
  simp only [Nat.sub_self, Nat.add_zero]
  exact W.aret hF.1 hF.2.1 (hF.2.2.2.2.2.1.trans hr) (Or.inr ⟨_, rfl⟩) (Or.inr ⟨_, rfl⟩) (fun t ht hW => ⟨rfl, by rw [ht]; exact hP, hS.F ht⟩) hS.2.2 hd hF.2.2.2.2.2.2.1
theorem tr_max {idx : Nat} {x y v : Int32} (hd : decode M.2.1 pc = .ok (.invokestatic idx, 3)) (hl0 : Cond.methodLink M.1.cls idx Lib.Math.max.name ∈ gtbl) (hcat : (st.map fun v => v.category).sum ≤ 8) (hdd : 0 < d) (hv : (if x < y then y else x) = v) (kk : T a d M (pc + 3) lv (.int v :: st) S h post) : T a d M pc lv (.int y :: .int x :: st) S h post := by
  subst hv
  refine t_go (fun p l e R s m args below meth c H locs cells slots ls Q hF hd1 hd2 hc1 hc2 hl hP hS K => ?_) kk
  have hts := hF.2.2.2.2.1
  exact va_mmax hF.1 hF.2.1 (by rw [hF.2.2.1]; exact hl.1.symm) hF.2.2.2.1 (hts _ hl0) (hts _ mmax_st) (hts _ mth_ini) (hts _ mmax_code) (by omega) (by omega) hc1 hc2 hd K
theorem tr_min {idx : Nat} {x y v : Int32} (hd : decode M.2.1 pc = .ok (.invokestatic idx, 3)) (hl0 : Cond.methodLink M.1.cls idx Lib.Math.min.name ∈ gtbl) (hcat : (st.map fun v => v.category).sum ≤ 8) (hdd : 0 < d) (hv : (if y < x then y else x) = v) (kk : T a d M (pc + 3) lv (.int v :: st) S h post) : T a d M pc lv (.int y :: .int x :: st) S h post := by
  subst hv
  refine t_go (fun p l e R s m args below meth c H locs cells slots ls Q hF hd1 hd2 hc1 hc2 hl hP hS K => ?_) kk
  have hts := hF.2.2.2.2.1
  exact va_mmin hF.1 hF.2.1 (by rw [hF.2.2.1]; exact hl.1.symm) hF.2.2.2.1 (hts _ hl0) (hts _ mmin_st) (hts _ mth_ini) (hts _ mmin_code) (by omega) (by omega) hc1 hc2 hd K
theorem tr_acopy {idx o1 o2 n1 n2 : Nat} {x y z : Int32} (sp dp n : Nat) (hd : decode M.2.1 pc = .ok (.invokestatic idx, 3)) (hl0 : Cond.methodLink M.1.cls idx arraycopyName ∈ gtbl) (hcat : (st.map fun v => v.category).sum ≤ 4) (hdd : 0 < d) (ho1 : S.1[o1]? = some (0, n1)) (ho2 : S.1[o2]? = some (0, n2)) (hx : x = nI sp) (hy : y = nI dp) (hz : z = nI n) (h1 : sp + n ≤ n1) (h2 : dp + n ≤ n2) (hn1 : n1 < 2 ^ 31) (hn2 : n2 < 2 ^ 31) (kk : T a d M (pc + 3) lv st S (hs h o2 (va_cpy (h o1) (h o2) sp dp n)) post) : T a d M pc lv (.int z :: .int y :: rv a o2 :: .int x :: rv a o1 :: st) S h post := by
  subst hx; subst hy; subst hz
  refine t_goH rfl (fun p l e R s m args below meth c H locs cells slots ls Q hF hd1 hd2 hl hP hS K => ?_) kk
  have hts := hF.2.2.2.2.1
  have hK := hF.2.2.2.2.2.2.2.2.1
  have ha0 : (wsOf a S h)[o1]? = some (aN a + o1, .inl (a.2.1.1, n1, .inl (h o1))) := ws_get ho1
  have ha1 : (wsOf a S h)[o2]? = some (aN a + o2, .inl (a.2.1.1, n2, .inl (h o2))) := ws_get ho2
  have c1 : (nI sp).toNatClampNeg = sp := nI_clamp (by omega)
  have c2 : (nI dp).toNatClampNeg = dp := nI_clamp (by omega)
  have c3 : (nI n).toNatClampNeg = n := nI_clamp (by omega)
  intro T hT X
  have hc0 : H[aN a + o1]? = some (vp_cell a.2.1.1 (n1, .inl (h o1))) := hP.1 o1 _ ha0
  have hc1 : H[aN a + o2]? = some (vp_cell a.2.1.1 (n2, .inl (h o2))) := hP.1 o2 _ ha1
  obtain ⟨-, k0, hk0, cm0, hkk0⟩ := (hK.2 0 _ rfl).1 n1 (fun j => .int (h o1 j))
  obtain ⟨-, k1, hk1, cm1, hkk1⟩ := (hK.2 0 _ rfl).1 n2 (fun j => .int (h o2 j))
  obtain ⟨vm', X', step⟩ := X.arraycopy hF.1 hF.2.2.2.1 (hts _ hl0) (hts _ acp_nat) (hts _ acp_st) (hts _ ini_J10) (src := aN a + o1) (dst := aN a + o2) (cs := vp_cell a.2.1.1 (n1, .inl (h o1))) (cd := vp_cell a.2.1.1 (n2, .inl (h o2))) (srcPos := nI sp) (destPos := nI dp) (n := nI n) (by rw [hT]; exact hc0) (by rw [hT]; exact hc1)
    (fun _ h => by cases h) (fun _ h => by cases h) (fun h => by cases h) (fun h => by cases h) hk0 hk1 hkk0 hkk1 (by rfl) (nI_pos (by omega)) (nI_pos (by omega)) (nI_pos (by omega))
    (by rw [nI_toInt (by omega), nI_toInt (by omega)]; show ¬ _ > ((arrV _ n1 (fun j => .int (h o1 j))).slots.size : Int); rw [arrV_size]; omega)
    (by rw [nI_toInt (by omega), nI_toInt (by omega)]; show ¬ _ > ((arrV _ n2 (fun j => .int (h o2 j))).slots.size : Int); rw [arrV_size]; omega)
    (fun vm₁ _ i hi => by
      rw [c3] at hi
      have e : (vp_cell a.2.1.1 (n1, .inl (h o1))).slots.getD ((nI sp).toNatClampNeg + i) .null = .int (h o1 (sp + i)) := by
        rw [c1]
        show (arrV _ n1 (fun j => .int (h o1 j))).slots.getD _ _ = _
        rw [Array.getD_eq_getD_getElem?, arrV_read _ _ (by omega)]
        rfl
      refine ⟨?_, ?_⟩
      · rw [e]; rfl
      · rw [e]; exact trivial)
    (g := F0 m pc ls (.int (nI n) :: .int (nI dp) :: rv a o2 :: .int (nI sp) :: rv a o1 :: st)) rfl (by rw [hF.2.2.1]; exact hl.1) (rest := st) rfl (by rw [hF.2.1]; exact hd) (by omega) (by
      have hw : nativeFrameWords "java/lang/System" "arraycopy" 5 + 11 ≤ 36 := by decide +kernel
      show 2 * 0 + _ + _ ≤ _
      omega)
  have e1 : copied (vp_cell a.2.1.1 (n1, .inl (h o1))) (vp_cell a.2.1.1 (n2, .inl (h o2))) (nI sp) (nI dp) (nI n) = vp_cell a.2.1.1 (n2, .inl (va_cpy (h o1) (h o2) (nI sp).toNatClampNeg (nI dp).toNatClampNeg (nI n).toNatClampNeg)) := va_copied (fun z => .int z) _ _ (h o1) (h o2) (by rw [c1, c3]; exact h1)
  rw [e1, c1, c2, c3] at X'
  rw [e1, c1, c2, c3] at step
  have hl2 : aN a + o2 < H.size := (Array.getElem?_eq_some_iff.mp hc1).1
  have oq : ∀ q : Nat, q ≠ aN a + o2 → (H.setIfInBounds (aN a + o2) (vp_cell a.2.1.1 (n2, .inl (va_cpy (h o1) (h o2) sp dp n))))[q]? = H[q]? := fun q hq => by simp [Array.getElem?_setIfInBounds, Ne.symm hq]
  have hP1 := hP.1.set (e := .inl (a.2.1.1, n2, .inl (va_cpy (h o1) (h o2) sp dp n))) ws_D ha1 (show (H.setIfInBounds (aN a + o2) _)[aN a + o2]? = some _ by simp [Array.getElem?_setIfInBounds, hl2]) oq
  rw [ws_set (a := a) (S := S) (h := h) (S' := S) (h' := hs h o2 (va_cpy (h o1) (h o2) sp dp n)) (e' := .inl (a.2.1.1, n2, .inl (va_cpy (h o1) (h o2) sp dp n))) rfl ho2 (by show Sum.inl _ = Sum.inl _; rw [hs_same]) (fun j hj => ⟨hs_ne hj, rfl⟩)] at hP1
  obtain ⟨t, a1, b1⟩ := K _ _ ⟨hP1, by simp; exact hP.2⟩ ⟨by simp; exact hS.1, fun q g1 g2 => by
      rw [oq q (fun e => g2 (by rw [e]; exact ws_D.2 o2 _ ha1))]
      exact hS.2.1 q g1 g2, fun q hq => by
      rcases List.mem_append.mp hq with w | w
      · exact hS.2.2 q w
      · obtain ⟨z, -, hz⟩ := List.mem_map.mp w
        rw [← hz]
        exact ws_D.2 o2 _ ha1⟩ _ (by rw [← hT]; rfl) X'
  exact ⟨t, step t a1, b1⟩
end CALLS
