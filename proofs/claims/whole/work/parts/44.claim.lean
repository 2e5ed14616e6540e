/-! THE CLAIM OUT OF ONE WALK OF THE LAW'S BODY. Your part is whole_start (and what it stands on); all else here is the same for every law, but numbers. -/
def R_law : String := "KeptInsideLaw"
def lw_P (b : Addr) (xs : List Int32) (args : Array Value) (s : State) : Prop := args = #[.ref b] ∧ s.IntsAt b xs ∧ xs.length ≤ 2048 ∧ (Jvm.Cond.and given_1 narrow_1).before args s = true
def lw_Q (_ : Array Value) (s : State) (o : Outcome) (t : State) : Prop := o = .returned (some (.int 1)) ∧ Framed s o t [] 600000 7302250
def lw_Z (below : List Frame) (a : Array Value) (s : State) : State → Prop := fun t => ∃ o, t.status = .running ∧ Ended t below o ∧ lw_Q a s o t
/-- what holds at the law's entry: the machine, the code, the tables' words (any of lw_tbl by 'hts w (by decide +kernel)'), the script of L ints xs at the cell b, what the Statement gives of the start (any of its parts by flat_of_before) -/
def lw_At (p : Program) (s : State) (m : MethodId) (meth : Method) (c : Code) (b L : Nat) (xs : Nat → Int32) : Prop :=
  p.tables.exec = Jvm.exec ∧ c.code = code ∧ meth.sig.returnType = ret ∧ c.maxLocals = 4 ∧ s.vm.findClass R_law = some m.cls ∧ (∀ w ∈ lw_tbl, w.before #[Value.ref b] s = true) ∧ va_X b L xs s s.heap ∧ b < s.heap.size ∧ meth.locks = false ∧ (Jvm.Cond.and given_1 narrow_1).before #[Value.ref b] s = true
-- ===== the start =====
theorem tm_0 : ∀ i, i < 2 → i = 0 ∨ i = 1 := fun i h => by omega
/-- the strings' terms -/
def stm (i : Nat) : Term := .string "KeptInside$Tokens" (if i = 0 then 56 else 62)
theorem kn_all {args : Array Value} {s : State} (hg : ∀ w ∈ gtbl, w.before args s = true) : ∃ (dC : Nat → ClassId) (dI : Nat → Nat → Nat), ∀ (k : Nat) (q : vw_C), vwC[k]? = some q → u_Kn s q.1 q.2.1 q.2.2 (dC k) (dI k) := by
  obtain ⟨c0, i0, k0⟩ := u_known (C := RX0) (T := TX0) (N := 5) (n := 5) hg inX0 (hg _ in_X0)
  obtain ⟨c1, i1, k1⟩ := u_known (C := RX1) (T := TX1) (N := 6) (n := 6) hg inX1 (hg _ in_X1)
  obtain ⟨c2, i2, k2⟩ := u_known (C := RX2) (T := TX2) (N := 3) (n := 3) hg inX2 (hg _ in_X2)
  obtain ⟨c3, i3, k3⟩ := u_known (C := RX3) (T := TX3) (N := 9) (n := 9) hg inX3 (hg _ in_X3)
  obtain ⟨c4, i4, k4⟩ := u_known (C := RX4) (T := TX4) (N := 4) (n := 4) hg inX4 (hg _ in_X4)
  obtain ⟨c5, i5, k5⟩ := u_known (C := RX5) (T := TX5) (N := 2) (n := 2) hg inX5 (hg _ in_X5)
  obtain ⟨c6, i6, k6⟩ := u_known (C := RX6) (T := TX6) (N := 2) (n := 2) hg inX6 (hg _ in_X6)
  obtain ⟨c7, i7, k7⟩ := u_known (C := RX7) (T := TX7) (N := 5) (n := 5) hg inX7 (hg _ in_X7)
  obtain ⟨c8, i8, k8⟩ := u_known (C := RX8) (T := TX8) (N := 18) (n := 18) hg inX8 (hg _ in_X8)
  obtain ⟨c9, i9, k9⟩ := u_known (C := RX9) (T := TX9) (N := 14) (n := 14) hg inX9 (hg _ in_X9)
  obtain ⟨c10, i10, k10⟩ := u_known (C := RX10) (T := TX10) (N := 45) (n := 45) hg inX10 (hg _ in_X10)
  refine ⟨fun k => [c0, c1, c2, c3, c4, c5, c6, c7, c8, c9, c10].getD k c0, fun k => [i0, i1, i2, i3, i4, i5, i6, i7, i8, i9, i10].getD k i0, ?_⟩
  intro k q hq
  match k, hq with
  | 0, hq => cases hq; exact k0
  | 1, hq => cases hq; exact k1
  | 2, hq => cases hq; exact k2
  | 3, hq => cases hq; exact k3
  | 4, hq => cases hq; exact k4
  | 5, hq => cases hq; exact k5
  | 6, hq => cases hq; exact k6
  | 7, hq => cases hq; exact k7
  | 8, hq => cases hq; exact k8
  | 9, hq => cases hq; exact k9
  | 10, hq => cases hq; exact k10
  | k + 11, hq => simp [vwC] at hq
theorem ar_p {args : Array Value} {s : State} {t : FieldType} (h : (Cond.arrayClass t).before args s = true) : ∃ cA, ArrOfT s cA t ∧ s.vm.findClass ("[" ++ t.toString) = some cA := by
  obtain ⟨cA, kA, comp, h1, h2, h3⟩ := Cond.arrayClass_spec h
  exact ⟨cA, fun n z => ⟨fun k h => (by cases h), kA, h2, comp, h3⟩, h1⟩
theorem ar_o {args : Array Value} {s : State} {C : String} (h : (Cond.arrayOver (.object C)).before args s = true) : ∃ cA, ArrOfT s cA (.object C) ∧ va_RA s cA (.object C) := by
  obtain ⟨comp, cA, kA, h1, h2, h3, h4, h5⟩ := Cond.arrayOver_spec h
  exact ⟨cA, fun n z => ⟨fun k h => (by cases h), kA, h3, comp, h4⟩, kA, comp, h3, h4, h1, h5⟩
theorem lt_mem {i : Nat} {w : Cond} (h : lw_tbl[i]? = some w) : w ∈ lw_tbl := List.mem_of_getElem? h
set_option maxHeartbeats 4000000 in
set_option maxRecDepth 100000 in
theorem str_all {b : Nat} {s : State} {A : Nat → Prop} (hgv : (Jvm.Cond.and given_1 narrow_1).before #[Value.ref b] s = true) (hA : ∀ a : Nat, a < s.heap.size → ¬ A a) : ∃ adK adV : Nat → Nat, vk_S 2 [3, 4] [[110, 101, 119], [108, 111, 99, 107]] adK adV A s s.heap ∧ ∀ i : Nat, i < 2 → (stm i).eval #[Value.ref b] s none [] s = some (.ref (adK i)) := by
  have hs := flat_of_before _ hgv
  refine vk_Sof (tm := stm) ?_ ?_ ?_ ?_ ?_ ?_ ?_ hA
  · intro i hi
    rcases tm_0 i hi with rfl | rfl <;> decide
  · intro i hi
    rcases tm_0 i hi with rfl | rfl
    · exact hs (Cond.exactly (.string "KeptInside$Tokens" 56) "java/lang/String") (by decide +kernel)
    · exact hs (Cond.exactly (.string "KeptInside$Tokens" 62) "java/lang/String") (by decide +kernel)
  · intro i hi
    rcases tm_0 i hi with rfl | rfl
    · exact hs (Cond.eq (.field (.string "KeptInside$Tokens" 56) "java/lang/String" "coder" "B") (.int 0)) (by decide +kernel)
    · exact hs (Cond.eq (.field (.string "KeptInside$Tokens" 62) "java/lang/String" "coder" "B") (.int 0)) (by decide +kernel)
  · intro i hi
    rcases tm_0 i hi with rfl | rfl
    · exact hs (Cond.arrayOf (.field (.string "KeptInside$Tokens" 56) "java/lang/String" "value" "[B") .byte) (by decide +kernel)
    · exact hs (Cond.arrayOf (.field (.string "KeptInside$Tokens" 62) "java/lang/String" "value" "[B") .byte) (by decide +kernel)
  · intro i hi
    rcases tm_0 i hi with rfl | rfl
    · exact hs (Cond.eq (.length (.field (.string "KeptInside$Tokens" 56) "java/lang/String" "value" "[B")) (.int 3)) (by decide +kernel)
    · exact hs (Cond.eq (.length (.field (.string "KeptInside$Tokens" 62) "java/lang/String" "value" "[B")) (.int 4)) (by decide +kernel)
  · intro i hi j hj
    rcases tm_0 i hi with rfl | rfl
    · have hj : j < 3 := hj
      rcases (by omega : j = 0 ∨ j = 1 ∨ j = 2) with rfl | rfl | rfl
      · exact hs (Cond.eq (.elem (.field (.string "KeptInside$Tokens" 56) "java/lang/String" "value" "[B") (.int 0)) (.int 110)) (by decide +kernel)
      · exact hs (Cond.eq (.elem (.field (.string "KeptInside$Tokens" 56) "java/lang/String" "value" "[B") (.int 1)) (.int 101)) (by decide +kernel)
      · exact hs (Cond.eq (.elem (.field (.string "KeptInside$Tokens" 56) "java/lang/String" "value" "[B") (.int 2)) (.int 119)) (by decide +kernel)
    · have hj : j < 4 := hj
      rcases (by omega : j = 0 ∨ j = 1 ∨ j = 2 ∨ j = 3) with rfl | rfl | rfl | rfl
      · exact hs (Cond.eq (.elem (.field (.string "KeptInside$Tokens" 62) "java/lang/String" "value" "[B") (.int 0)) (.int 108)) (by decide +kernel)
      · exact hs (Cond.eq (.elem (.field (.string "KeptInside$Tokens" 62) "java/lang/String" "value" "[B") (.int 1)) (.int 111)) (by decide +kernel)
      · exact hs (Cond.eq (.elem (.field (.string "KeptInside$Tokens" 62) "java/lang/String" "value" "[B") (.int 2)) (.int 99)) (by decide +kernel)
      · exact hs (Cond.eq (.elem (.field (.string "KeptInside$Tokens" 62) "java/lang/String" "value" "[B") (.int 3)) (.int 107)) (by decide +kernel)
  · intro i j hi hj hij
    have hn := hs (Cond.not (Cond.eq (.string "KeptInside$Tokens" 56) (.string "KeptInside$Tokens" 62))) (by decide +kernel)
    rcases tm_0 i hi with rfl | rfl <;> rcases tm_0 j hj with rfl | rfl
    · exact absurd rfl hij
    · exact Or.inl hn
    · exact Or.inr hn
    · exact absurd rfl hij
set_option maxHeartbeats 4000000 in
set_option maxRecDepth 100000 in
theorem whole_start {p : Program} {e : Env} {s : State} {m : MethodId} {below : List Frame} {meth : Method} {c : Code} (l : Launch) (hflags : l.flags = flags0) {b L : Nat} {xs : Nat → Int32} (hL : L ≤ 2048) (hnm : meth.name = x.name) (C0 : lw_At p s m meth c b L xs) : W p l e room_1 s m #[Value.ref b] below meth c s.heap [] 0 0 (lw_Z below #[Value.ref b] s) (entryFrame m ([Value.ref b] : List Value).toArray 4) := by
  obtain ⟨hx, hb, hr, hml, hown, hts, hX, hbl, hlocks, hgv⟩ := id C0
  have hg := gw_in hts
  have hs := flat_of_before _ hgv
  have hA : ∀ a : Nat, a < s.heap.size → ¬ (fun q : Nat => s.heap.size ≤ q) a := fun a h => Nat.not_le.mpr h
  obtain ⟨dC, dI, hKc⟩ := kn_all hg
  obtain ⟨cI, hI1, hI2⟩ := ar_p (hts _ (lt_mem (i := 144) (w := Cond.arrayClass .int) (by decide +kernel)))
  obtain ⟨cB, hB1, hB2⟩ := ar_p (hts _ (lt_mem (i := 127) (w := Cond.arrayClass .byte) (by decide +kernel)))
  have hAO := hts _ (lt_mem (i := 208) (w := Cond.arrayOver (.object "KeptInside$Methods")) (by decide +kernel))
  obtain ⟨cO, hO1, hO2⟩ := ar_o hAO
  obtain ⟨adK, adV, hSS, hSe⟩ := str_all hgv hA
  have hZ1 : va_Z "java/lang/String" "COMPACT_STRINGS" "Z" (.int 1) (fun q : Nat => s.heap.size ≤ q) s s.heap := va_Zof (hts _ (lt_mem (i := 462) (by decide +kernel))) (hg _ ini_J0) (va_eqi (hs (Cond.eq (.static "java/lang/String" "COMPACT_STRINGS" "Z") (.int 1)) (by decide +kernel))) hA
  have hZ2 : va_Zq "jdk/internal/util/Preconditions" "SIOOBE_FORMATTER" "Ljava/util/function/BiFunction;" (fun q : Nat => s.heap.size ≤ q) s s.heap := va_Zqof (hts _ (lt_mem (i := 478) (by decide +kernel))) (hg _ ini_J3) (hs (Cond.isRef (.static "jdk/internal/util/Preconditions" "SIOOBE_FORMATTER" "Ljava/util/function/BiFunction;")) (by decide +kernel)) hA
  have hR1 : vk_R "KeptInside$Tokens" 56 "new" (adK 0) s := vk_R.of (hts _ (lt_mem (i := 449) (by decide +kernel))) (hSe 0 (by decide))
  have hR2 : vk_R "KeptInside$Tokens" 62 "lock" (adK 1) s := vk_R.of (hts _ (lt_mem (i := 501) (by decide +kernel))) (hSe 1 (by decide))
  let a : Am := ((dC, dI), (cI, cB, cO), s.heap.size, (b, L, xs), (adK, adV))
  have hPx : Px a s := by
    refine ⟨⟨hKc, fun k q hq => ?_⟩, fun q hq => hts _ (nest_in q hq), hAO, ⟨hX, hbl⟩, Nat.le_refl _, hR1, hR2, hSS, hZ1, hZ2⟩
    match k, hq with
    | 0, hq => cases hq; exact ⟨hI1, hI2⟩
    | 1, hq => cases hq; exact ⟨hB1, hB2⟩
    | 2, hq => cases hq; exact ⟨hO1, hO2⟩
    | k + 3, hq => simp [aT] at hq
  have hF : Fx a mL_law p s m #[Value.ref b] meth c := ⟨hx, hb, hml, hown, hg, hr, hlocks, hnm, hPx⟩
  have hP : RepW a (shp.take 0, fun _ _ => none) zH s.heap := ⟨fun k q h => (by cases h), rfl⟩
  obtain ⟨v, S', h', ⟨rfl, hr1, hr2⟩, -, hE⟩ := t_law (a := a) (show L < 2 ^ 29 by omega)
  have hl := lv_entry ([.ref b]) (n := 4) (Nat.le_of_ble_eq_true rfl)
  rw [lg_entry_eq]
  have K := hE p l e room_1 s m #[Value.ref b] below meth c s.heap [] 0 0 _ hF (by decide) (by decide) (by show 0 + (S'.1.length - 0) ≤ 600000; omega) (by show 0 + (tot S' - 0) ≤ 7302250; omega) hl hP va_S.rf
  intro T hT X
  obtain ⟨t, a1, o, b1, b2, ⟨rfl, -, -⟩, Lc, hFE, hfree⟩ := K T hT X
  refine ⟨t, a1, _, b1, b2, rfl, hFE.1, hFE.2.1, ?_⟩
  exact (State.sameButNew.drop_fresh (L := []) (J := Lc) hFE.2.2 hfree).mono (by show 0 + (S'.1.length - 0) ≤ 600000; omega) (by show 0 + (tot S' - 0) ≤ 7302250; omega)
set_option maxHeartbeats 4000000 in
theorem lw_walk (l : Launch) (hflags : l.flags = flags0) (b : Addr) (xs : List Int32) : MetFree l x (headSpec (Jvm.Cond.code x code maxLocals ret :: tables_1) room_1) (lw_P b xs) (fun _ _ _ _ _ => True) lw_Q := by
  refine MetFree.of_bodyS (code := code) (maxLocals := maxLocals) (ret := ret) (by decide) ?_ ?_
  · intro args s m h hn
    obtain ⟨meth, c, h1, h2, h3, h4, h5, h6, -, -⟩ := Cond.code_spec hn (atoms_spec (ws := Jvm.Cond.code x code maxLocals ret :: tables_1) h _ List.mem_cons_self)
    exact ⟨meth, c, h1, h2, h3, h4, h5, h6⟩
  · intro p e s m args below meth c s₁ B hml0 hP _
    obtain ⟨rfl, hx, hbd, hgv⟩ := hP
    obtain ⟨scr, harrAt, hlist, hof, hsmall⟩ := hx
    obtain ⟨hcb, hkn, -, -⟩ := State.arrayAt?_spec harrAt
    have hown : s.vm.findClass R_law = some m.cls := findClass_of_methodNamed B.named
    have hts0 : ∀ c ∈ (Jvm.Cond.code x code maxLocals ret :: tables_1), c.before #[Value.ref b] s = true := atoms_spec (ws := Jvm.Cond.code x code maxLocals ret :: tables_1) B.pre
    have hts : ∀ w ∈ lw_tbl, w.before #[Value.ref b] s = true := k2_hts_sels lw_privs (fun w hw => hts0 w (List.mem_cons_of_mem _ hw)) lw_privs_ok
    have hml : c.maxLocals = 4 := B.maxLocals_eq (hts0 _ List.mem_cons_self)
    have X₀ : Stand p l e room_1 s m #[Value.ref b] below meth c s₁ [] 0 0 := Stand.of_body B
    have hh0 : s₁.heap = s.heap := by rw [B.state]; rfl
    have hsz : scr.slots.size = xs.length := by rw [← Array.length_toList, hlist, List.length_map]
    have hval : ∀ j : Nat, j < xs.length → scr.slots[j]? = some (.int (xs.getD j 0)) := fun j hj => by
      rw [← Array.getElem?_toList, hlist]
      simp [hj]
    have hbl : b < s.heap.size := (Array.getElem?_eq_some_iff.mp hcb).1
    have hX : va_X b xs.length (fun j => xs.getD j 0) s s.heap := ⟨scr, hcb, hof, hkn, hsz, hval⟩
    have K : W p l e room_1 s m #[Value.ref b] below meth c s₁.heap [] 0 0 (lw_Z below #[Value.ref b] s) (entryFrame m ([Value.ref b] : List Value).toArray 4) := by
      rw [hh0]
      exact whole_start l hflags hbd (name_of_methodNamed B.named B.method).1 ⟨B.exec, B.bytes, B.returns, hml, hown, hts, hX, hbl, B.notSynchronized, hgv⟩
    obtain ⟨t, a1, o, b1, b2, b3⟩ := K s₁ rfl X₀
    exact ⟨t, o, a1, b1, b2, b3⟩
theorem lw_pre_spec {args : Array Value} {s : State} (h : (Jvm.Cond.and given_1 narrow_1).before args s = true) (hr : rest_1_c.before args s = true) : ∃ (b : Addr) (xs : List Int32), lw_P b xs args s := by
  have hs := flat_of_before _ h
  have hq := flat_of_before _ hr
  have hc : (Cond.count 1).before args s = true := hs _ (by decide +kernel)
  have harr : (Cond.arrayOf (.arg 0) .int).before args s = true := hs _ (by decide +kernel)
  have hle : (Cond.le (.length (.arg 0)) (.int 2048)).before args s = true := hs _ (by decide +kernel)
  have hlen : (Cond.isInt (.length (.arg 0))).before args s = true := hq _ (by decide +kernel)
  have hall : (Cond.all (.arg 0) (.isInt (.elem (.arg 0) (.index 0)))).before args s = true := hq _ (by decide +kernel)
  obtain ⟨b, xs, hb, hx⟩ := State.ints_of_pre rfl harr hlen hall
  have hsm : xs.length < 2 ^ 31 := hx.choose_spec.2.2.2
  have hev : (Term.length (.arg 0)).eval args s none [] s = some (.int xs.length.toInt32) := hx.length_eval hb
  have hv := Cond.le_ints hev (show (Term.int 2048).eval args s none [] s = some (.int 2048) from rfl)
  have hd : xs.length.toInt32 ≤ 2048 := by
    simpa [Cond.before, Cond.holds, hv] using hle
  have hN : xs.length ≤ 2048 := (Int32.ofNat_le_ofNat hsm (by decide)).mp (show Int32.ofNat xs.length ≤ Int32.ofNat 2048 from hd)
  exact ⟨b, xs, Cond.one_arg hc (show args[0]? = some (.ref b) from hb), hx, hN, h⟩
theorem lw_comes (l : Launch) (hflags : l.flags = flags0) : Comes l x (Jvm.Cond.code x code maxLocals ret :: tables_1) room_1 (fun tb e args s => Calls_1 tb e args s ∧ rest_1 tb e args s ∧ Pre_1 tb e args s)
    (fun _ _ args s o t => lw_Q args s o t) := by
  intro p e ha hc hk s m args below hf hfit hheap happ hpre
  obtain ⟨b, xs, hP⟩ := lw_pre_spec hpre.2.2 hpre.2.1
  obtain ⟨k, o, h1, h2, h3, hQ⟩ := lw_walk l hflags b xs p e ha hc hk s m args below hf ((Spec.applies_iff_loose hf).mp happ).1 hP trivial
  exact ⟨k, o, h1, h2, h3, hQ⟩
theorem lw_frame {s t : State} {o : Outcome} {args : Array Value} (h : Framed s o t [] 600000 7302250) :
    Framed s o t (fieldLocs frame_1_writes args s ++ arrayLocs frame_1_arrays args s ++ staticLocs frame_1_statics s) 600000 7302250 := h
theorem lw_limb (L : Cond) (hL : ∀ (args : Array Value) (s t : State), L.after args s (.returned (some (.int 1))) t = true) :
    ArmFor flags0 classFile x code maxLocals ret World_1 tables_1 room_1 Calls_1 rest_1 Pre_1
      (fun tb e a s o t => postC L tb e a s o t ∧ Framed s o t (fieldLocs frame_1_writes a s ++ arrayLocs frame_1_arrays a s ++ staticLocs frame_1_statics s) 600000 7302250) := by
  intro l hflags _ _ p e ha hc hk s m args below hf hfit hheap happ hpre
  obtain ⟨k, o, h1, h2, h3, rfl, hF⟩ := lw_comes l hflags p e ha hc hk s m args below hf hfit hheap happ hpre
  exact ⟨k, _, h1, h2, h3, hL args s _, lw_frame hF⟩
theorem i_vc : Claimed_1_1 ∧ Claimed_1_2 := ⟨lw_limb limb_1_1 (fun args s t => by simp [limb_1_1, Cond.after, Cond.holds, Cond.value]), lw_limb limb_1_2 (fun args s t => Cond.after_iff.mpr (by
  first | (rw [show limb_1_2 = Cond.eq .result (.int 1) from rfl, Cond.eq_ints (x := 1) (y := 1) rfl rfl]; simp; done) | (simp [limb_1_2, Cond.value, Term.eval]; done)))⟩
