/-! ===== the machine layer: an abstract heap of numbered cells over the kit's worlds ===== -/
abbrev Am : Type := va_G × (ClassId × ClassId × ClassId) × Nat × (Nat × Nat × (Nat → Int32)) × ((Nat → Nat) × (Nat → Nat))
def aN (a : Am) : Nat := a.2.2.1
def aA (a : Am) : Nat → Prop := fun q => aN a ≤ q
def aT (a : Am) : List (ClassId × FieldType) := [(a.2.1.1, .int), (a.2.1.2.1, .byte), (a.2.1.2.2, .object RX2)]
abbrev St : Type := List (Nat × Nat) × (Nat → Nat → Option Nat)
abbrev Hp : Type := Nat → Nat → Int32
def rv (a : Am) (o : Nat) : Value := .ref (aN a + o)
def hs (h : Hp) (o : Nat) (f : Nat → Int32) : Hp := fun j => if j = o then f else h j
def gs (g : Nat → Nat → Option Nat) (o : Nat) (f : Nat → Option Nat) : Nat → Nat → Option Nat := fun j => if j = o then f else g j
theorem hs_same {h : Hp} {o : Nat} {f : Nat → Int32} : hs h o f o = f := by simp [hs]
theorem hs_ne {h : Hp} {o j : Nat} {f : Nat → Int32} (hj : j ≠ o) : hs h o f j = h j := by simp [hs, hj]
theorem gs_same {h : Nat → Nat → Option Nat} {o : Nat} {f : Nat → Option Nat} : gs h o f o = f := by simp [gs]
theorem gs_ne {h : Nat → Nat → Option Nat} {o j : Nat} {f : Nat → Option Nat} (hj : j ≠ o) : gs h o f j = h j := by simp [gs, hj]
def fvL (a : Am) (S : St) (h : Hp) (o ci : Nat) : List Value := (fkT.getD ci []).mapIdx (fun k b => if b = true then va_rf ((S.2 o k).map (aN a + ·)) else .int (h o k))
def eOf (a : Am) (S : St) (h : Hp) (o : Nat) (kn : Nat × Nat) : va_E := match kn.1 with
  | 0 => .inl (a.2.1.1, kn.2, .inl (h o))
  | 1 => .inl (a.2.1.2.1, kn.2, .inl (h o))
  | 2 => .inl (a.2.1.2.2, kn.2, .inr (.inr (.inr (.inr (fun k => (S.2 o k).map (aN a + ·))))))
  | c + 3 => .inr (c, fvL a S h o c)
def wsOf (a : Am) (S : St) (h : Hp) : va_W := S.1.mapIdx (fun o kn => (aN a + o, eOf a S h o kn))
theorem ws_get {a : Am} {S : St} {h : Hp} {o : Nat} {kn : Nat × Nat} (ho : S.1[o]? = some kn) : (wsOf a S h)[o]? = some (aN a + o, eOf a S h o kn) := by
  simp [wsOf, List.getElem?_mapIdx, ho]
theorem ws_len {a : Am} {S : St} {h : Hp} : (wsOf a S h).length = S.1.length := by simp [wsOf]
theorem ws_addr {a : Am} {S : St} {h : Hp} {k : Nat} {q : Nat × va_E} (hk : (wsOf a S h)[k]? = some q) : q.1 = aN a + k ∧ k < S.1.length := by
  have hl : k < (wsOf a S h).length := (List.getElem?_eq_some_iff.mp hk).1
  rw [ws_len] at hl
  refine ⟨?_, hl⟩
  have h1 := ws_get (a := a) (h := h) (List.getElem?_eq_getElem hl)
  rw [h1] at hk
  cases hk
  rfl
theorem eOf_congr {a : Am} {S S' : St} {h h' : Hp} {j : Nat} {kn : Nat × Nat} (h1 : h' j = h j) (h2 : S'.2 j = S.2 j) : eOf a S h j kn = eOf a S' h' j kn := by
  unfold eOf fvL
  rw [h1, h2]
theorem ws_D {a : Am} {S : St} {h : Hp} : va_D (aA a) (wsOf a S h) := by
  refine ⟨fun i j p q hi hj hpq => ?_, fun k q hk => ?_⟩
  · have h1 := (ws_addr hi).1
    have h2 := (ws_addr hj).1
    omega
  · have h1 := (ws_addr hk).1
    show aN a ≤ q.1
    omega
theorem ws_set {a : Am} {S S' : St} {h h' : Hp} {o : Nat} {kn : Nat × Nat} {e' : va_E} (hS : S'.1 = S.1) (ho : S.1[o]? = some kn) (he : eOf a S' h' o kn = e') (hh : ∀ j, j ≠ o → h' j = h j ∧ S'.2 j = S.2 j) : (wsOf a S h).set o (aN a + o, e') = wsOf a S' h' := by
  apply List.ext_getElem?
  intro j
  rw [List.getElem?_set]
  by_cases hj : o = j
  · subst hj
    have hl : o < (wsOf a S h).length := by rw [ws_len]; exact (List.getElem?_eq_some_iff.mp ho).1
    rw [if_pos rfl, if_pos hl, ws_get (S := S') (by rw [hS]; exact ho), he]
  · rw [if_neg hj]
    simp only [wsOf, List.getElem?_mapIdx, hS]
    cases S.1[j]? with
    | none => rfl
    | some kn' =>
      obtain ⟨h1, h2⟩ := hh j (fun q => hj q.symm)
      simp only [Option.map_some, Option.some.injEq, Prod.mk.injEq, true_and]
      exact eOf_congr h1 h2
theorem ws_push {a : Am} {S : St} {h h' : Hp} {kn : Nat × Nat} {g' : Nat → Nat → Option Nat} (hh : ∀ j, j < S.1.length → h' j = h j ∧ g' j = S.2 j) : wsOf a (S.1 ++ [kn], g') h' = wsOf a S h ++ [(aN a + S.1.length, eOf a (S.1 ++ [kn], g') h' S.1.length kn)] := by
  apply List.ext_getElem?
  intro j
  by_cases hj : j < S.1.length
  · rw [List.getElem?_append_left (by rw [ws_len]; exact hj)]
    have h1 : (S.1 ++ [kn])[j]? = some S.1[j] := by rw [List.getElem?_append_left hj]; exact List.getElem?_eq_getElem hj
    rw [ws_get (S := (S.1 ++ [kn], g')) h1, ws_get (List.getElem?_eq_getElem hj)]
    obtain ⟨h2, h3⟩ := hh j hj
    simp only [Option.some.injEq, Prod.mk.injEq, true_and]
    exact (eOf_congr h2 h3).symm
  · by_cases hj2 : j = S.1.length
    · subst hj2
      have h1 : (S.1 ++ [kn])[S.1.length]? = some kn := by simp
      rw [ws_get (S := (S.1 ++ [kn], g')) h1, List.getElem?_append_right (by rw [ws_len]; exact Nat.le_refl _), ws_len]
      simp
    · rw [List.getElem?_eq_none (by rw [ws_len]; simp; omega), List.getElem?_eq_none (by simp [ws_len]; omega)]
theorem fv_get {a : Am} {S : St} {h : Hp} {o ci k : Nat} {b : Bool} (hk : (fkT.getD ci [])[k]? = some b) : (fvL a S h o ci)[k]? = some (if b = true then va_rf ((S.2 o k).map (aN a + ·)) else .int (h o k)) := by
  simp only [fvL, List.getElem?_mapIdx, hk, Option.map_some]
theorem fv_len {a : Am} {S : St} {h : Hp} {o ci : Nat} : (fvL a S h o ci).length = (fkT.getD ci []).length := by simp [fvL]
theorem fv_setI {a : Am} {S : St} {h : Hp} {o ci k : Nat} {x : Int32} (hk : (fkT.getD ci [])[k]? = some false) : (fvL a S h o ci).set k (.int x) = fvL a S (hs h o (upd (h o) k x)) o ci := by
  apply List.ext_getElem?
  intro j
  rw [List.getElem?_set]
  by_cases hj : k = j
  · subst hj
    have hl : k < (fvL a S h o ci).length := by rw [fv_len]; exact (List.getElem?_eq_some_iff.mp hk).1
    rw [if_pos rfl, if_pos hl, fv_get hk]
    simp [hs, upd]
  · rw [if_neg hj]
    simp only [fvL, List.getElem?_mapIdx]
    cases (fkT.getD ci [])[j]? with
    | none => rfl
    | some b =>
      have hj2 : ¬ j = k := fun q => hj q.symm
      simp [hs, upd, hj2]
theorem fv_setR {a : Am} {S : St} {h : Hp} {o ci k q : Nat} (hk : (fkT.getD ci [])[k]? = some true) : (fvL a S h o ci).set k (.ref (aN a + q)) = fvL a (S.1, gs S.2 o (va_up (S.2 o) k (some q))) h o ci := by
  apply List.ext_getElem?
  intro j
  rw [List.getElem?_set]
  by_cases hj : k = j
  · subst hj
    have hl : k < (fvL a S h o ci).length := by rw [fv_len]; exact (List.getElem?_eq_some_iff.mp hk).1
    rw [if_pos rfl, if_pos hl, fv_get hk]
    simp [gs, va_up, va_rf]
  · rw [if_neg hj]
    simp only [fvL, List.getElem?_mapIdx]
    cases (fkT.getD ci [])[j]? with
    | none => rfl
    | some b =>
      have hj2 : ¬ j = k := fun q => hj q.symm
      simp [gs, va_up, hj2]
def RepW (a : Am) (S : St) (h : Hp) (H : Heap) : Prop := va_P a.1 vwC (wsOf a S h) H ∧ H.size = aN a + S.1.length
/-- what the machine keeps everywhere: classes and array classes, nest mates, the script, the string constants -/
def Sx (a : Am) (U : State) : Prop := vk_R RX7 56 "new" (a.2.2.2.2.1 0) U ∧ vk_R RX7 62 "lock" (a.2.2.2.2.1 1) U ∧ vk_S 2 [3, 4] [[110, 101, 119], [108, 111, 99, 107]] a.2.2.2.2.1 a.2.2.2.2.2 (aA a) U U.heap ∧ va_Z RJ0 "COMPACT_STRINGS" "Z" (.int 1) (aA a) U U.heap ∧ va_Zq RJ3 "SIOOBE_FORMATTER" "Ljava/util/function/BiFunction;" (aA a) U U.heap
def Px (a : Am) (U : State) : Prop := va_K a.1 vwC (aT a) U ∧ (∀ q ∈ nestL, va_Nw (.methodLinkNest q.1 q.2.1 q.2.2.1 q.2.2.2) U) ∧ va_AO RX2 U ∧ (va_X a.2.2.2.1.1 a.2.2.2.1.2.1 a.2.2.2.1.2.2 U U.heap ∧ a.2.2.2.1.1 < aN a) ∧ aN a ≤ U.heap.size ∧ Sx a U
theorem Px.move {a : Am} {s U : State} {locs : List Loc} (h : Px a s) (hW : s.WarmedH U.vm) (hS : va_S (aA a) s.heap U.heap locs) : Px a U := by
  obtain ⟨h1, h2, h3, ⟨h4, h5⟩, h6, s1, s2, s3, s4, s5⟩ := h
  have hk : ∀ q : Nat, q < s.heap.size → ¬ aA a q → U.heap[q]? = s.heap[q]? := hS.2.1
  refine ⟨h1.moved hW.alike, fun q hq => va_Nw.warmM hW (h2 q hq), h3.moved hW.alike, ⟨(h4.moved hW.alike).kept (hk _ (by omega) (by show ¬ aN a ≤ _; omega)), h5⟩, Nat.le_trans h6 hS.1, s1.warm hW, s2.warm hW, ?_, ?_, ?_⟩
  · exact vk_S.kept (vk_S.moved hW.alike s3) hk
  · exact va_Z.kept (va_Z.moved hW.alike s4) hk
  · exact va_Zq.kept (va_Zq.moved hW.alike s5) hk
theorem Px.call {a : Am} {U : State} {g : JFrame} {mk : MethodId} {as : Array Value} (h : Px a U) : Px a (U.calling g mk as) := by
  obtain ⟨h1, h2, h3, ⟨h4, h5⟩, h6, s1, s2, s3, s4, s5⟩ := h
  refine ⟨va_K.moved (u := U) (Vm.Alike.refl U.vm) h1, fun q hq => va_Nw.same (u := U) rfl rfl (h2 q hq), va_AO.moved (u := U) (Vm.Alike.refl U.vm) h3, ⟨va_X.moved (u := U) (Vm.Alike.refl U.vm) h4, h5⟩, h6, vk_R.same (u := U) rfl s1, vk_R.same (u := U) rfl s2, ?_, ?_, ?_⟩
  · exact vk_S.moved (u := U) (Vm.Alike.refl U.vm) s3
  · exact va_Z.moved (u := U) (Vm.Alike.refl U.vm) s4
  · exact va_Zq.moved (u := U) (Vm.Alike.refl U.vm) s5
def Fx (a : Am) (M : Mt) (p : Program) (s : State) (m : MethodId) (args : Array Value) (meth : Method) (c : Code) : Prop :=
  p.tables.exec = Jvm.exec ∧ c.code = M.2.1 ∧ c.maxLocals = M.2.2.1 ∧ s.vm.findClass M.1.cls = some m.cls ∧ (∀ w ∈ gtbl, w.before args s = true) ∧ meth.sig.returnType = M.2.2.2 ∧ meth.locks = false ∧ meth.name = M.1.name ∧ Px a s
def Qx (a : Am) (v : Option Value) (S' : St) (h' : Hp) : Array Value → State → Outcome → State → Prop := fun _ st oc t => oc = .returned v ∧ RepW a S' h' t.heap ∧ va_F (aA a) st t
def tot (S : St) : Nat := (S.1.map (·.2)).sum
def Gr (S S' : St) : Prop := S.1.length ≤ S'.1.length ∧ tot S ≤ tot S'
theorem Gr.rf {S : St} : Gr S S := ⟨Nat.le_refl _, Nat.le_refl _⟩
theorem Gr.trans {S S1 S2 : St} (h1 : Gr S S1) (h2 : Gr S1 S2) : Gr S S2 := ⟨Nat.le_trans h1.1 h2.1, Nat.le_trans h1.2 h2.2⟩
def Ev (a : Am) (d : Nat) (M : Mt) (pc : Nat) (lv : List (Nat × Value)) (st : List Value) (S : St) (h : Hp) (v : Option Value) (S' : St) (h' : Hp) : Prop :=
  ∀ (p : Program) (l : Launch) (e : Env) (R : Room) (s : State) (m : MethodId) (args : Array Value) (below : List Frame) (meth : Method) (c : Code) (H : Heap) (locs : List Loc) (cells slots : Nat) (ls : Array Slot),
    Fx a M p s m args meth c → d ≤ R.frames → 40 * d ≤ R.locals → cells + (S'.1.length - S.1.length) ≤ R.cells → slots + (tot S' - tot S) ≤ R.slots → lv_has ls M.2.2.1 lv → RepW a S h H → va_S (aA a) s.heap H locs →
    W p l e R s m args below meth c H locs cells slots (MQ below (Qx a v S' h') args s (cells + (S'.1.length - S.1.length)) (slots + (tot S' - tot S)) (aA a)) (F0 m pc ls st)
/-- from here the method comes to its end, with an answer and a heap that keep post -/
def T (a : Am) (d : Nat) (M : Mt) (pc : Nat) (lv : List (Nat × Value)) (st : List Value) (S : St) (h : Hp) (post : Option Value → St → Hp → Prop) : Prop :=
  ∃ (v : Option Value) (S' : St) (h' : Hp), post v S' h' ∧ Gr S S' ∧ Ev a d M pc lv st S h v S' h'
def Cn (a : Am) (d : Nat) (M : Mt) (as : List Value) (S : St) (h : Hp) (v : Option Value) (S' : St) (h' : Hp) : Prop :=
  Gr S S' ∧ ∀ l : Launch, Met l M.1 (Cond.code M.1 M.2.1 M.2.2.1 M.2.2.2 :: gtbl) { frames := d, cells := S'.1.length - S.1.length, slots := tot S' - tot S, locals := 40 * d } (va_Pc as (fun U => Px a U ∧ RepW a S h U.heap)) (Qx a v S' h') (S'.1.length - S.1.length) (tot S' - tot S) (aA a)
/-- a call of a method comes back with post -/
def CT (a : Am) (d : Nat) (M : Mt) (as : List Value) (S : St) (h : Hp) (post : Option Value → St → Hp → Prop) : Prop :=
  ∃ (v : Option Value) (S' : St) (h' : Hp), post v S' h' ∧ Cn a d M as S h v S' h'
section MACH
variable {a : Am} {d : Nat} {M : Mt} {pc : Nat} {lv : List (Nat × Value)} {st : List Value} {S : St} {h : Hp} {post : Option Value → St → Hp → Prop}
theorem T.weaken {post' : Option Value → St → Hp → Prop} (hh : ∀ v S' h', post v S' h' → post' v S' h') (k : T a d M pc lv st S h post) : T a d M pc lv st S h post' := by
  obtain ⟨v, S', h', hp, hE⟩ := k
  exact ⟨v, S', h', hh _ _ _ hp, hE⟩
theorem CT.weaken {as : List Value} {post' : Option Value → St → Hp → Prop} (k : CT a d M as S h post) (hh : ∀ v S' h', post v S' h' → post' v S' h') : CT a d M as S h post' := by
  obtain ⟨v, S', h', hp, hE⟩ := k
  exact ⟨v, S', h', hh _ _ _ hp, hE⟩
theorem t_go {pc' : Nat} {st' : List Value}
    (row : ∀ (p : Program) (l : Launch) (e : Env) (R : Room) (s : State) (m : MethodId) (args : Array Value) (below : List Frame) (meth : Method) (c : Code) (H : Heap) (locs : List Loc) (cells slots : Nat) (ls : Array Slot) (Q : State → Prop), Fx a M p s m args meth c → d ≤ R.frames → 40 * d ≤ R.locals → cells ≤ R.cells → slots ≤ R.slots → lv_has ls M.2.2.1 lv → RepW a S h H → va_S (aA a) s.heap H locs → W p l e R s m args below meth c H locs cells slots Q (F0 m pc' ls st') → W p l e R s m args below meth c H locs cells slots Q (F0 m pc ls st))
    (kk : T a d M pc' lv st' S h post) : T a d M pc lv st S h post := by
  obtain ⟨v, S', h', hp, hg, hE⟩ := kk
  refine ⟨v, S', h', hp, hg, ?_⟩
  intro p l e R s m args below meth c H locs cells slots ls hF h1 h2 h3 h4 hl hP hS
  exact row p l e R s m args below meth c H locs cells slots ls _ hF h1 h2 (by omega) (by omega) hl hP hS (hE p l e R s m args below meth c H locs cells slots ls hF h1 h2 h3 h4 hl hP hS)
theorem t_goL {pc' : Nat} {st' : List Value} {lv' : List (Nat × Value)}
    (row : ∀ (p : Program) (l : Launch) (e : Env) (R : Room) (s : State) (m : MethodId) (args : Array Value) (below : List Frame) (meth : Method) (c : Code) (H : Heap) (locs : List Loc) (cells slots : Nat) (ls : Array Slot) (Q : State → Prop), Fx a M p s m args meth c → lv_has ls M.2.2.1 lv → (∀ ls', lv_has ls' M.2.2.1 lv' → W p l e R s m args below meth c H locs cells slots Q (F0 m pc' ls' st')) → W p l e R s m args below meth c H locs cells slots Q (F0 m pc ls st))
    (kk : T a d M pc' lv' st' S h post) : T a d M pc lv st S h post := by
  obtain ⟨v, S', h', hp, hg, hE⟩ := kk
  refine ⟨v, S', h', hp, hg, ?_⟩
  intro p l e R s m args below meth c H locs cells slots ls hF h1 h2 h3 h4 hl hP hS
  exact row p l e R s m args below meth c H locs cells slots ls _ hF hl (fun ls' hl' => hE p l e R s m args below meth c H locs cells slots ls' hF h1 h2 h3 h4 hl' hP hS)
theorem t_goH {pc' : Nat} {st' : List Value} {S1 : St} {h1 : Hp} (hS1 : S1.1 = S.1)
    (row : ∀ (p : Program) (l : Launch) (e : Env) (R : Room) (s : State) (m : MethodId) (args : Array Value) (below : List Frame) (meth : Method) (c : Code) (H : Heap) (locs : List Loc) (cells slots : Nat) (ls : Array Slot) (Q : State → Prop), Fx a M p s m args meth c → d ≤ R.frames → 40 * d ≤ R.locals → lv_has ls M.2.2.1 lv → RepW a S h H → va_S (aA a) s.heap H locs → (∀ H1 locs1, RepW a S1 h1 H1 → va_S (aA a) s.heap H1 locs1 → W p l e R s m args below meth c H1 locs1 cells slots Q (F0 m pc' ls st')) → W p l e R s m args below meth c H locs cells slots Q (F0 m pc ls st))
    (kk : T a d M pc' lv st' S1 h1 post) : T a d M pc lv st S h post := by
  obtain ⟨v, S', h', hp, hg, hE⟩ := kk
  have ht : tot S1 = tot S := by unfold tot; rw [hS1]
  refine ⟨v, S', h', hp, ⟨by rw [← hS1]; exact hg.1, by rw [← ht]; exact hg.2⟩, ?_⟩
  intro p l e R s m args below meth c H locs cells slots ls hF h1 h2 h3 h4 hl hP hS
  rw [← hS1, ← ht] at *
  exact row p l e R s m args below meth c H locs cells slots ls _ hF h1 h2 hl hP hS (fun H1 locs1 hP1 hS1 => hE p l e R s m args below meth c H1 locs1 cells slots ls hF h1 h2 h3 h4 hl hP1 hS1)
theorem t_goA {pc' : Nat} {st' : List Value} {S1 : St} {h1 : Hp} {kn : Nat × Nat} (hS1 : S1.1 = S.1 ++ [kn])
    (row : ∀ (p : Program) (l : Launch) (e : Env) (R : Room) (s : State) (m : MethodId) (args : Array Value) (below : List Frame) (meth : Method) (c : Code) (H : Heap) (locs : List Loc) (cells slots : Nat) (ls : Array Slot) (Q : State → Prop), Fx a M p s m args meth c → cells + 1 ≤ R.cells → slots + kn.2 ≤ R.slots → lv_has ls M.2.2.1 lv → RepW a S h H → va_S (aA a) s.heap H locs → (∀ H1, RepW a S1 h1 H1 → va_S (aA a) s.heap H1 locs → W p l e R s m args below meth c H1 locs (cells + 1) (slots + kn.2) Q (F0 m pc' ls st')) → W p l e R s m args below meth c H locs cells slots Q (F0 m pc ls st))
    (kk : T a d M pc' lv st' S1 h1 post) : T a d M pc lv st S h post := by
  obtain ⟨v, S', h', hp, hg, hE⟩ := kk
  have hlen : S1.1.length = S.1.length + 1 := by rw [hS1]; simp
  have ht : tot S1 = tot S + kn.2 := by unfold tot; rw [hS1]; simp
  have g1 := hg.1
  have g2 := hg.2
  refine ⟨v, S', h', hp, ⟨by omega, by omega⟩, ?_⟩
  intro p l e R s m args below meth c H locs cells slots ls hF h1 h2 h3 h4 hl hP hS
  refine row p l e R s m args below meth c H locs cells slots ls _ hF (by omega) (by omega) hl hP hS (fun H1 hP1 hS1 => ?_)
  have K := hE p l e R s m args below meth c H1 locs (cells + 1) (slots + kn.2) ls hF h1 h2 (by omega) (by omega) hl hP1 hS1
  rw [show cells + 1 + (S'.1.length - S1.1.length) = cells + (S'.1.length - S.1.length) by omega, show slots + kn.2 + (tot S' - tot S1) = slots + (tot S' - tot S) by omega] at K
  exact K
/-- a method's contract out of its walk -/
theorem met_of {as : List Value} (hy : plainName M.1.cls = true) (hlen : (lg_sl as).length ≤ M.2.2.1) (k : T a d M 0 (lv_args 0 as) [] S h post) : CT a d M as S h post := by
  obtain ⟨v, S', h', hp, hg, hE⟩ := k
  refine ⟨v, S', h', hp, hg, fun l => ?_⟩
  refine Met.ofW (cc := M.2.1) (maxL := M.2.2.1) (ret := M.2.2.2) hy rfl ?_
  intro p e s m args below meth c s₁ B hml hv
  obtain ⟨rfl, hPx, hP⟩ := hv
  have hts := atoms_spec (ws := Cond.code M.1 M.2.1 M.2.2.1 M.2.2.2 :: gtbl) B.pre
  have hF : Fx a M p s m as.toArray meth c := ⟨B.exec, B.bytes, hml, findClass_of_methodNamed B.named, fun w hw => hts w (List.mem_cons_of_mem _ hw), B.returns, B.notSynchronized, (name_of_methodNamed B.named B.method).1, hPx⟩
  have hl := lv_entry as (n := M.2.2.1) hlen
  rw [lg_entry_eq]
  have K := hE p l e { frames := d, cells := S'.1.length - S.1.length, slots := tot S' - tot S, locals := 40 * d } s m as.toArray below meth c s.heap [] 0 0 _ hF (Nat.le_refl _) (Nat.le_refl _) (by simp) (by simp) hl hP va_S.rf
  simp only [Nat.zero_add] at K
  exact K
end MACH
