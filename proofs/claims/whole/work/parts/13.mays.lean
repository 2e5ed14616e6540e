/-! ===== MAY ===== -/
def bI (b : Bool) : Int32 := if b = true then nI 1 else nI 0
theorem bz_t {b : Bool} (h : ¬ bI b = 0) : b = true := by
  cases b with
  | true => rfl
  | false => exact absurd rfl h
theorem bz_f {b : Bool} (h : bI b = 0) : b = false := by
  cases b with
  | false => rfl
  | true => exact absurd h (by decide)
def tb (x : Int32) (s : Nat) : Bool := decide (x >>> (nI s &&& 31) &&& nI 1 = nI 1)
theorem tb_t {x : Int32} {s : Nat} (h : x >>> (nI s &&& 31) &&& nI 1 = nI 1) : tb x s = true := decide_eq_true h
theorem tb_f {x : Int32} {s : Nat} (h : ¬ x >>> (nI s &&& 31) &&& nI 1 = nI 1) : tb x s = false := decide_eq_false h
theorem tb_0 : ∀ s, s < 32 → tb 0 s = false := by decide +kernel
abbrev ZV : Type := (Nat → Int32) × Bool
def adZ (Z : ZV) (k : Nat) (x : Int32) : ZV := (upd Z.1 k (Z.1 k ||| x), Z.2 || decide (¬ Z.1 k ||| x = Z.1 k))
def flds (V : Nat → Int32) (x : Int32) : Nat → Int32
  | 0 => nI 0
  | s + 1 => if tb x s = true then flds V x s ||| V (17 + s) else flds V x s
def putZ (Z : ZV) (x y : Int32) : Nat → ZV
  | 0 => Z
  | s + 1 => if tb x s = true then adZ (putZ Z x y s) (17 + s) y else putZ Z x y s
def stepZ (P : Prog) (Z : ZV) (m i : Nat) : ZV := match (gt P m i).1 with
  | 0 => adZ Z (4 * m + (gt P m i).2.1) (nI 1 <<< (siteAt P m i &&& 31))
  | 1 => adZ Z (4 * m + (gt P m i).2.1) (Z.1 (4 * m + (gt P m i).2.2.1))
  | 2 => putZ Z (Z.1 (4 * m + (gt P m i).2.1)) (Z.1 (4 * m + (gt P m i).2.2.1)) (nSt P)
  | 3 => adZ Z (4 * m + (gt P m i).2.1) (flds Z.1 (Z.1 (4 * m + (gt P m i).2.2.1)) (nSt P))
  | 4 => adZ Z 16 (Z.1 (4 * m + (gt P m i).2.1))
  | 5 => adZ Z (4 * m + (gt P m i).2.1) (Z.1 16)
  | 7 => adZ (adZ Z (4 * (gt P m i).2.2.2) (Z.1 (4 * m + (gt P m i).2.2.1))) (4 * m + (gt P m i).2.1) ((adZ Z (4 * (gt P m i).2.2.2) (Z.1 (4 * m + (gt P m i).2.2.1))).1 (4 * (gt P m i).2.2.2 + 3))
  | _ => Z
def linesZ (P : Prog) (Z : ZV) (m : Nat) : Nat → ZV
  | 0 => Z
  | i + 1 => stepZ P (linesZ P Z m i) m i
def methsZ (P : Prog) (Z : ZV) : Nat → ZV
  | 0 => Z
  | m + 1 => linesZ P (methsZ P Z m) m (lnN P m)
def roundZ (P : Prog) (V : Nat → Int32) : ZV := methsZ P (V, false) P.length
def itV (P : Prog) : Nat → Nat → Int32
  | 0 => fun _ => nI 0
  | r + 1 => (roundZ P (itV P r)).1
def mayV (P : Prog) : Nat → Int32 := itV P 1569
theorem or_0 (x : Int32) : x ||| nI 0 = x := by
  rw [nI_0]
  exact Int32.or_zero
theorem adZ_0 (Z : ZV) (k : Nat) : adZ Z k (nI 0) = Z := by
  unfold adZ
  rw [or_0]
  have e : upd Z.1 k (Z.1 k) = Z.1 := by
    funext j
    by_cases q : j = k
    · subst q; exact upd_s
    · exact upd_n q
  rw [e]
  simp
theorem adZ_e {Z : ZV} {k : Nat} {x : Int32} (h : Z.1 k ||| x = Z.1 k) : adZ Z k x = Z := by
  unfold adZ
  rw [h]
  have e : upd Z.1 k (Z.1 k) = Z.1 := by
    funext j
    by_cases q : j = k
    · subst q; exact upd_s
    · exact upd_n q
  rw [e]
  simp
theorem adZ_n {Z : ZV} {k : Nat} {x : Int32} (h : ¬ Z.1 k ||| x = Z.1 k) : adZ Z k x = (upd Z.1 k (Z.1 k ||| x), true) := by
  unfold adZ
  simp [h]
/-- bits counted -/
def pcN (x : Int32) : Nat → Nat
  | 0 => 0
  | i + 1 => pcN x i + (if x.toBitVec.getLsbD i = true then 1 else 0)
theorem pcN_le (x : Int32) (i : Nat) : pcN x i ≤ i := by
  induction i with
  | zero => simp [pcN]
  | succ i ih =>
    simp only [pcN]
    split <;> omega
theorem bit_or (x y : Int32) (i : Nat) : (x ||| y).toBitVec.getLsbD i = (x.toBitVec.getLsbD i || y.toBitVec.getLsbD i) := by
  rw [Int32.toBitVec_or, BitVec.getLsbD_or]
theorem pcN_or (x y : Int32) (i : Nat) : pcN x i ≤ pcN (x ||| y) i := by
  induction i with
  | zero => simp [pcN]
  | succ i ih =>
    simp only [pcN, bit_or]
    cases x.toBitVec.getLsbD i <;> simp <;> omega
theorem pcN_or_lt (x y : Int32) : ∀ (n i : Nat), i < n → x.toBitVec.getLsbD i = false → y.toBitVec.getLsbD i = true → pcN x n < pcN (x ||| y) n := by
  intro n
  induction n with
  | zero => intro i hi; omega
  | succ n ih =>
    intro i hi h1 h2
    simp only [pcN, bit_or]
    by_cases q : i = n
    · subst q
      have := pcN_or x y i
      rw [h1, h2]
      simp
      omega
    · have := ih i (by omega) h1 h2
      cases x.toBitVec.getLsbD n <;> simp <;> omega
theorem pc_grow {x y : Int32} (h : ¬ x ||| y = x) : pcN x 32 < pcN (x ||| y) 32 := by
  by_cases q : ∃ i, i < 32 ∧ x.toBitVec.getLsbD i = false ∧ y.toBitVec.getLsbD i = true
  · obtain ⟨i, h1, h2, h3⟩ := q
    exact pcN_or_lt x y 32 i h1 h2 h3
  · exfalso
    apply h
    apply Int32.toBitVec_inj.mp
    apply BitVec.eq_of_getLsbD_eq
    intro i hi
    rw [bit_or]
    cases h1 : x.toBitVec.getLsbD i with
    | true => rfl
    | false =>
      cases h2 : y.toBitVec.getLsbD i with
      | false => rfl
      | true => exact absurd ⟨i, hi, h1, h2⟩ q
def muV (V : Nat → Int32) : Nat → Nat
  | 0 => 0
  | k + 1 => muV V k + pcN (V k) 32
theorem muV_le (V : Nat → Int32) (k : Nat) : muV V k ≤ 32 * k := by
  induction k with
  | zero => simp [muV]
  | succ k ih =>
    have := pcN_le (V k) 32
    simp only [muV]
    omega
theorem muV_upd {V : Nat → Int32} {p : Nat} {x : Int32} : ∀ K, (K ≤ p → muV (upd V p x) K = muV V K) ∧ (p < K → muV (upd V p x) K + pcN (V p) 32 = muV V K + pcN x 32) := by
  intro K
  induction K with
  | zero => exact ⟨fun _ => rfl, fun h => by omega⟩
  | succ K ih =>
    refine ⟨fun h => ?_, fun h => ?_⟩
    · simp only [muV]
      rw [ih.1 (by omega), upd_n (by omega)]
    · simp only [muV]
      by_cases q : p = K
      · subst q
        rw [ih.1 (Nat.le_refl _), upd_s]
        omega
      · have := ih.2 (by omega)
        rw [upd_n (fun e => q e.symm)]
        omega
/-- a step keeps what is there; if its flag stays false nothing has changed; if it comes up, something is more -/
def ZG (Z Z' : ZV) : Prop := muV Z.1 49 ≤ muV Z'.1 49 ∧ (Z.2 = true → Z'.2 = true) ∧ (Z'.2 = false → Z' = Z) ∧ (Z.2 = false → Z'.2 = true → muV Z.1 49 < muV Z'.1 49)
theorem ZG.rf {Z : ZV} : ZG Z Z := ⟨Nat.le_refl _, fun h => h, fun _ => rfl, fun h1 h2 => by rw [h1] at h2; cases h2⟩
theorem ZG.trans {Z Z1 Z2 : ZV} (h1 : ZG Z Z1) (h2 : ZG Z1 Z2) : ZG Z Z2 := by
  obtain ⟨a1, a2, a3, a4⟩ := h1
  obtain ⟨b1, b2, b3, b4⟩ := h2
  refine ⟨by omega, fun h => b2 (a2 h), fun h => ?_, fun h g => ?_⟩
  · have e := b3 h
    rw [e] at h ⊢
    exact a3 h
  · cases q : Z1.2 with
    | true => have := a4 h q; omega
    | false => have := b4 q g; omega
theorem ZG.ad {Z : ZV} {k : Nat} {x : Int32} (hk : k < 49) : ZG Z (adZ Z k x) := by
  by_cases q : Z.1 k ||| x = Z.1 k
  · rw [adZ_e q]; exact ZG.rf
  · rw [adZ_n q]
    have h1 := (muV_upd (V := Z.1) (p := k) (x := Z.1 k ||| x) 49).2 hk
    have h2 := pc_grow q
    refine ⟨?_, fun _ => rfl, fun h => (by cases h), fun _ _ => ?_⟩
    · show muV Z.1 49 ≤ muV (upd Z.1 k (Z.1 k ||| x)) 49; omega
    · show muV Z.1 49 < muV (upd Z.1 k (Z.1 k ||| x)) 49; omega
theorem ZG.put {Z : ZV} {x y : Int32} : ∀ s, s ≤ 32 → ZG Z (putZ Z x y s) := by
  intro s
  induction s with
  | zero => intro _; exact ZG.rf
  | succ s ih =>
    intro hs
    simp only [putZ]
    split
    · exact (ih (by omega)).trans (ZG.ad (by omega))
    · exact ih (by omega)
theorem ZG.step {P : Prog} {Z : ZV} {m i : Nat} (hV : VP P) (hi : i < lnN P m) : ZG Z (stepZ P Z m i) := by
  obtain ⟨⟨v1, v2, v3⟩, vc⟩ := hV
  have hm := lnN_lt hi
  obtain ⟨o1, o2, o3, o4⟩ := v3 m i hi
  have hns := nSt_le (P := P) ⟨v1, v2, v3⟩
  unfold stepZ
  split
  · exact ZG.ad (by omega)
  · exact ZG.ad (by omega)
  · exact ZG.put _ hns
  · exact ZG.ad (by omega)
  · exact ZG.ad (by omega)
  · exact ZG.ad (by omega)
  · exact (ZG.ad (by omega)).trans (ZG.ad (by omega))
  · exact ZG.rf
theorem ZG.lines {P : Prog} {Z : ZV} {m : Nat} (hV : VP P) : ∀ i, i ≤ lnN P m → ZG Z (linesZ P Z m i) := by
  intro i
  induction i with
  | zero => intro _; exact ZG.rf
  | succ i ih => intro hi; exact (ih (by omega)).trans (ZG.step hV (by omega))
theorem ZG.meths {P : Prog} {Z : ZV} (hV : VP P) : ∀ m, ZG Z (methsZ P Z m) := by
  intro m
  induction m with
  | zero => exact ZG.rf
  | succ m ih => exact ih.trans (ZG.lines hV _ (Nat.le_refl _))
/-- what holds ahead of round r of the search -/
def RI (P : Prog) (r : Nat) (Z : ZV) : Prop := Z.1 = itV P r ∧ (Z.2 = true → r ≤ muV Z.1 49) ∧ (Z.2 = false → roundZ P Z.1 = (Z.1, false))
theorem ri_0 {P : Prog} : RI P 0 (fun _ => nI 0, true) := ⟨rfl, fun _ => Nat.zero_le _, fun h => by cases h⟩
theorem ri_s {P : Prog} {r : Nat} {Z : ZV} (hV : VP P) (h : RI P r Z) (hg : Z.2 = true) : RI P (r + 1) (roundZ P Z.1) := by
  obtain ⟨h1, h2, h3⟩ := h
  have g := ZG.meths (Z := (Z.1, false)) hV P.length
  obtain ⟨g1, g2, g3, g4⟩ := g
  refine ⟨?_, fun q => ?_, fun q => ?_⟩
  · show (roundZ P Z.1).1 = (roundZ P (itV P r)).1
    rw [h1]
  · have := g4 rfl q
    have := h2 hg
    show r + 1 ≤ muV (methsZ P (Z.1, false) P.length).1 49
    simp only at *
    omega
  · have e : roundZ P Z.1 = (Z.1, false) := g3 q
    rw [e]
    exact e
theorem it_stable {P : Prog} {r : Nat} (h : roundZ P (itV P r) = (itV P r, false)) : ∀ k, itV P (r + k) = itV P r := by
  intro k
  induction k with
  | zero => rfl
  | succ k ih =>
    show (roundZ P (itV P (r + k))).1 = itV P r
    rw [ih, h]
theorem ri_end {P : Prog} {r : Nat} {Z : ZV} (h : RI P r Z) (hr : r ≤ 1569) (hg : Z.2 = false) : Z.1 = mayV P := by
  obtain ⟨h1, h2, h3⟩ := h
  have e := h3 hg
  rw [h1] at e ⊢
  have := it_stable e (1569 - r)
  rw [show r + (1569 - r) = 1569 by omega] at this
  exact this.symm
theorem ri_lt {P : Prog} {r : Nat} {Z : ZV} (h : RI P r Z) (hg : Z.2 = true) : r < 1569 := by
  have h1 := h.2.1 hg
  have h2 := muV_le Z.1 49
  omega
/-- what is reached, round by round -/
def rchI (V : Nat → Int32) (ns : Nat) (x : Int32) : Nat → Int32
  | 0 => x
  | k + 1 => rchI V ns x k ||| flds V (rchI V ns x k) ns
def rch (V : Nat → Int32) (ns : Nat) (x : Int32) : Int32 := rchI V ns x 33
theorem flds_0 {V : Nat → Int32} : ∀ ns, ns ≤ 32 → flds V 0 ns = nI 0 := by
  intro ns
  induction ns with
  | zero => intro _; rfl
  | succ s ih =>
    intro hs
    simp only [flds]
    rw [tb_0 s (by omega)]
    simp only [Bool.false_eq_true, if_false]
    exact ih (by omega)
theorem rch_stable {V : Nat → Int32} {ns : Nat} {x : Int32} {k : Nat} (h : rchI V ns x k ||| flds V (rchI V ns x k) ns = rchI V ns x k) (hk : k ≤ 33) : rchI V ns x k = rch V ns x := by
  have key : ∀ j, rchI V ns x (k + j) = rchI V ns x k := by
    intro j
    induction j with
    | zero => rfl
    | succ j ih =>
      show rchI V ns x (k + j) ||| flds V (rchI V ns x (k + j)) ns = _
      rw [ih]
      exact h
  have := key (33 - k)
  rw [show k + (33 - k) = 33 by omega] at this
  exact this.symm
/-- the state of the two loops: (now, before) ahead of round k -/
def RLq (V : Nat → Int32) (ns : Nat) (x : Int32) (k : Nat) (y z : Int32) : Prop := y = rchI V ns x k ∧ ((k = 0 ∧ z = nI 0) ∨ ∃ j, k = j + 1 ∧ z = rchI V ns x j)
theorem rl_eq {V : Nat → Int32} {ns : Nat} {x : Int32} {k : Nat} {y z : Int32} (hns : ns ≤ 32) (h : RLq V ns x k y z) (hk : k ≤ 33) (e : y = z) : y = rch V ns x := by
  obtain ⟨h1, h2⟩ := h
  rw [h1]
  refine rch_stable ?_ hk
  rcases h2 with ⟨h2, h3⟩ | ⟨j, h2, h3⟩
  · have e0 : rchI V ns x k = 0 := by rw [← h1, e, h3, nI_0]
    rw [e0, flds_0 ns hns, or_0]
  · have e1 : rchI V ns x k = rchI V ns x j := by rw [← h1, e, h3]
    have e2 : rchI V ns x k = rchI V ns x j ||| flds V (rchI V ns x j) ns := by rw [h2]; rfl
    rw [e1] at e2 ⊢
    exact e2.symm
theorem rl_s {V : Nat → Int32} {ns : Nat} {x : Int32} {k : Nat} {y z : Int32} (h : RLq V ns x k y z) : RLq V ns x (k + 1) (y ||| flds V y ns) y := by
  obtain ⟨h1, h2⟩ := h
  refine ⟨by rw [h1]; rfl, Or.inr ⟨k, rfl, h1⟩⟩
theorem rl_pc {V : Nat → Int32} {ns : Nat} {x : Int32} {k : Nat} {y z : Int32} (h : RLq V ns x k y z) : k = 0 ∨ y = z ∨ pcN z 32 < pcN y 32 := by
  obtain ⟨h1, h2⟩ := h
  rcases h2 with ⟨h2, h3⟩ | ⟨j, h2, h3⟩
  · exact Or.inl h2
  · by_cases q : y = z
    · exact Or.inr (Or.inl q)
    · refine Or.inr (Or.inr ?_)
      subst h2
      have e : y = z ||| flds V z ns := by rw [h1, h3]; rfl
      rw [e] at q ⊢
      exact pc_grow q
/-! ===== the class MaySets ===== -/
def MC (h : Hp) (V : Nat → Int32) : Prop := (∀ k, k < 16 → h 36 k = V k) ∧ h 35 4 = V 16 ∧ ∀ s, s < 32 → h 37 s = V (17 + s)
def MG (h : Hp) (Z : ZV) : Prop := MC h Z.1 ∧ h 35 5 = bI Z.2
theorem MC.fr {L : List Nat} {h h' : Hp} {V : Nat → Int32} (k : MC h V) (hF : Fr L h h') (h1 : 35 ∉ L) (h2 : 36 ∉ L) (h3 : 37 ∉ L) : MC h' V := by
  unfold MC
  rw [hF 35 h1, hF 36 h2, hF 37 h3]
  exact k
theorem mg_name {h : Hp} {Z : ZV} {k : Nat} {x : Int32} (hM : MG h Z) (hk : k < 16) (q : ¬ Z.1 k ||| x = Z.1 k) : MG (hs (hs h 36 (upd (h 36) k (Z.1 k ||| x))) 35 (upd (h 35) 5 (nI 1))) (adZ Z k x) := by
  obtain ⟨⟨m1, m2, m3⟩, m4⟩ := hM
  rw [adZ_n q]
  unfold MG MC
  dsimp only
  refine ⟨⟨fun j hj => ?_, ?_, fun s hs => ?_⟩, ?_⟩
  · rw [hs_ne (by decide), hs_same]
    by_cases e : j = k
    · subst e; rw [upd_s, upd_s]
    · rw [upd_n e, upd_n e]; exact m1 j hj
  · rw [hs_same, upd_n (by decide), upd_n (by omega)]; exact m2
  · rw [hs_ne (by decide), hs_ne (by decide), upd_n (by omega)]; exact m3 s hs
  · rw [hs_same, upd_s]; rfl
theorem mg_open {h : Hp} {Z : ZV} {x : Int32} (hM : MG h Z) (q : ¬ Z.1 16 ||| x = Z.1 16) : MG (hs (hs h 35 (upd (h 35) 4 (Z.1 16 ||| x))) 35 (upd (upd (h 35) 4 (Z.1 16 ||| x)) 5 (nI 1))) (adZ Z 16 x) := by
  obtain ⟨⟨m1, m2, m3⟩, m4⟩ := hM
  rw [adZ_n q]
  unfold MG MC
  dsimp only
  refine ⟨⟨fun j hj => ?_, ?_, fun s hs => ?_⟩, ?_⟩
  · rw [hs_ne (by decide), hs_ne (by decide), upd_n (by omega)]; exact m1 j hj
  · rw [hs_same, upd_n (by decide), upd_s, upd_s]
  · rw [hs_ne (by decide), hs_ne (by decide), upd_n (by omega)]; exact m3 s hs
  · rw [hs_same, upd_s]; rfl
theorem mg_field {h : Hp} {Z : ZV} {s0 : Nat} {x : Int32} (hM : MG h Z) (hk : s0 < 32) (q : ¬ Z.1 (17 + s0) ||| x = Z.1 (17 + s0)) : MG (hs (hs h 37 (upd (h 37) s0 (Z.1 (17 + s0) ||| x))) 35 (upd (h 35) 5 (nI 1))) (adZ Z (17 + s0) x) := by
  obtain ⟨⟨m1, m2, m3⟩, m4⟩ := hM
  rw [adZ_n q]
  unfold MG MC
  dsimp only
  refine ⟨⟨fun j hj => ?_, ?_, fun s hs => ?_⟩, ?_⟩
  · rw [hs_ne (by decide), hs_ne (by decide), upd_n (by omega)]; exact m1 j hj
  · rw [hs_same, upd_n (by decide), upd_n (by omega)]; exact m2
  · rw [hs_ne (by decide), hs_same]
    by_cases e : s = s0
    · subst e; rw [upd_s, upd_s]
    · rw [upd_n e, upd_n (by omega)]; exact m3 s hs
  · rw [hs_same, upd_s]; rfl
set_option maxHeartbeats 4000000 in
set_option maxRecDepth 100000 in
theorem c_inName {a : Am} {S : St} {h : Hp} (hS : IsSt S) {V : Nat → Int32} (hM : MC h V) {m x : Nat} (hm : m < 4) (hx : x < 4) : CT a 1 mX1_inName [rv a 35, .int (nI m), .int (nI x)] S h (Rt (V (4 * m + x)) S h) := by
  refine met_of (by decide +kernel) (Nat.le_of_ble_eq_true rfl) ?_
  show T a 1 mX1_inName 0 [(0, rv a 35), (1, .int (nI m)), (2, .int (nI x))] [] S h _
  refine tr_iload_n (pc := 0) 1 dX1_inName_0 rfl rfl ?_
  refine tr_iconst (pc := 1) (v := nI 4) dX1_inName_1 (by decide) ?_
  refine tr_callSN (pc := 2) (rest := []) dX1_inName_2 nl_X1_26 cs_X9_isOutside rfl rfl (Nat.le_of_ble_eq_true rfl) (by omega) (c_isOut_in hm (by omega)) ?_
  rintro _ _ _ ⟨rfl, rfl, rfl⟩
  show T a 1 mX1_inName 5 [(0, rv a 35), (1, .int (nI m)), (2, .int (nI x))] [.int (nI 0)] S h _
  refine tr_if_ne (pc := 5) (tgt := 16) dX1_inName_5 (by decide) (nI_z_eq (by omega)) (fun hcc => absurd (by decide) hcc) (fun _ => ?_)
  refine tr_iload_n (pc := 8) 2 dX1_inName_8 rfl rfl ?_
  refine tr_iconst (pc := 9) (v := nI 4) dX1_inName_9 (by decide) ?_
  refine tr_callSN (pc := 10) (rest := []) dX1_inName_10 nl_X1_26 cs_X9_isOutside rfl rfl (Nat.le_of_ble_eq_true rfl) (by omega) (c_isOut_in hx (by omega)) ?_
  rintro _ _ _ ⟨rfl, rfl, rfl⟩
  show T a 1 mX1_inName 13 [(0, rv a 35), (1, .int (nI m)), (2, .int (nI x))] [.int (nI 0)] S h _
  refine tr_if_eq (pc := 13) (tgt := 20) dX1_inName_13 (by decide) (nI_z_eq (by omega)) (fun _ => ?_) (fun hcc => absurd (by decide) hcc)
  refine tr_aload_n (pc := 20) 0 dX1_inName_20 rfl rfl ?_
  refine tr_getR (pc := 21) (q := 36) dX1_inName_21 (hS.1 35 (4, 6) rfl) fi_X1_9 rfl (hS.2 35 2 36 rfl) ?_
  refine tr_iload_n (pc := 24) 1 dX1_inName_24 rfl rfl ?_
  refine tr_iconst (pc := 25) (v := nI 4) dX1_inName_25 (by decide) ?_
  refine tr_imul (pc := 26) (v := nI (m * 4)) dX1_inName_26 (pk_mul _ _) ?_
  refine tr_iload_n (pc := 27) 2 dX1_inName_27 rfl rfl ?_
  refine tr_iadd (pc := 28) (v := nI (m * 4 + x)) dX1_inName_28 (nI_add _ _) ?_
  refine tr_iald (pc := 29) (v := V (4 * m + x)) (m * 4 + x) dX1_inName_29 (hS.1 36 (0, 16) rfl) rfl (by omega) (by decide) (by rw [hM.1 (m * 4 + x) (by omega), show m * 4 + x = 4 * m + x by omega]) ?_
  exact tr_iret (pc := 30) dX1_inName_30 rfl rfl (⟨rfl, rfl, rfl⟩)

set_option maxHeartbeats 4000000 in
set_option maxRecDepth 100000 in
theorem c_inField {a : Am} {S : St} {h : Hp} (hS : IsSt S) {V : Nat → Int32} (hM : MC h V) {s : Nat} (hs : s < 32) : CT a 1 mX1_inField [rv a 35, .int (nI s)] S h (Rt (V (17 + s)) S h) := by
  refine met_of (by decide +kernel) (Nat.le_of_ble_eq_true rfl) ?_
  show T a 1 mX1_inField 0 [(0, rv a 35), (1, .int (nI s))] [] S h _
  refine tr_iload_n (pc := 0) 1 dX1_inField_0 rfl rfl ?_
  refine tr_bipush (pc := 1) (v := nI 32) dX1_inField_1 (by decide) ?_
  refine tr_callSN (pc := 3) (rest := []) dX1_inField_3 nl_X1_26 cs_X9_isOutside rfl rfl (Nat.le_of_ble_eq_true rfl) (by omega) (c_isOut_in hs (by omega)) ?_
  rintro _ _ _ ⟨rfl, rfl, rfl⟩
  show T a 1 mX1_inField 6 [(0, rv a 35), (1, .int (nI s))] [.int (nI 0)] S h _
  refine tr_if_eq (pc := 6) (tgt := 13) dX1_inField_6 (by decide) (nI_z_eq (by omega)) (fun _ => ?_) (fun hcc => absurd (by decide) hcc)
  refine tr_aload_n (pc := 13) 0 dX1_inField_13 rfl rfl ?_
  refine tr_getR (pc := 14) (q := 37) dX1_inField_14 (hS.1 35 (4, 6) rfl) fi_X1_15 rfl (hS.2 35 3 37 rfl) ?_
  refine tr_iload_n (pc := 17) 1 dX1_inField_17 rfl rfl ?_
  refine tr_iald (pc := 18) (v := V (17 + s)) s dX1_inField_18 (hS.1 37 (0, 32) rfl) rfl (by omega) (by decide) (hM.2.2 s hs) ?_
  exact tr_iret (pc := 19) dX1_inField_19 rfl rfl (⟨rfl, rfl, rfl⟩)

set_option maxHeartbeats 4000000 in
set_option maxRecDepth 100000 in
theorem c_inOpen {a : Am} {S : St} {h : Hp} (hS : IsSt S) {V : Nat → Int32} (hM : MC h V) : CT a 0 mX1_inOpenPlace [rv a 35] S h (Rt (V 16) S h) := by
  refine met_of (by decide +kernel) (Nat.le_of_ble_eq_true rfl) ?_
  show T a 0 mX1_inOpenPlace 0 [(0, rv a 35)] [] S h _
  refine tr_aload_n (pc := 0) 0 dX1_inOpenPlace_0 rfl rfl ?_
  refine tr_getI (pc := 1) (x := V 16) dX1_inOpenPlace_1 (hS.1 35 (4, 6) rfl) fi_X1_30 rfl hM.2.1 ?_
  exact tr_iret (pc := 4) dX1_inOpenPlace_4 rfl rfl (⟨rfl, rfl, rfl⟩)

set_option maxHeartbeats 4000000 in
set_option maxRecDepth 100000 in
theorem c_inFields {a : Am} {S : St} {h : Hp} (hS : IsSt S) {P : Prog} (hV : VB P) {V : Nat → Int32} (hM : MC h V) (hC : SC h P) {x : Int32} : CT a 1 mX1_inFields [rv a 35, .int x] S h (Rt (flds V x (nSt P)) S h) := by
  obtain ⟨hV1, hV2, hV3⟩ := id hV
  have hns := nSt_le hV
  refine met_of (by decide +kernel) (Nat.le_of_ble_eq_true rfl) ?_
  show T a 1 mX1_inFields 0 [(0, rv a 35), (1, .int x)] [] S h _
  refine tr_iconst (pc := 0) (v := nI 0) dX1_inFields_0 (by decide) ?_
  refine tr_istore_n (pc := 1) (lv' := [(2, .int (nI 0)), (0, rv a 35), (1, .int x)]) dX1_inFields_1 rfl (by decide) rfl ?_
  refine tr_iconst (pc := 2) (v := nI 0) dX1_inFields_2 (by decide) ?_
  refine tr_istore_n (pc := 3) (lv' := [(3, .int (nI 0)), (2, .int (nI 0)), (0, rv a 35), (1, .int x)]) dX1_inFields_3 rfl (by decide) rfl ?_
  refine tr_sub (pc := 4) (lv' := [(0, rv a 35), (1, .int x), (2, .int (nI 0)), (3, .int (nI 0))]) [2, 3, 1, 0] rfl ?_
  have L4 : ∀ (fu : Nat) (s : Nat), nSt P - s < fu → s ≤ nSt P → T a 1 mX1_inFields 4 [(0, rv a 35), (1, .int x), (2, .int (flds V x s)), (3, .int (nI s))] [] S h (Rt (flds V x (nSt P)) S h) := by
    intro fu
    induction fu with
    | zero => intro s hu hs; omega
    | succ fu ih =>
      intro s hu hs
      refine tr_iload_n (pc := 4) 3 dX1_inFields_4 rfl rfl ?_
      refine tr_aload_n (pc := 5) 0 dX1_inFields_5 rfl rfl ?_
      refine tr_getR (pc := 6) (q := 31) dX1_inFields_6 (hS.1 35 (4, 6) rfl) fi_X1_22 rfl (hS.2 35 1 31 rfl) ?_
      refine tr_callV (pc := 9) (rest := [.int (nI s)]) (ci := 4) dX1_inFields_9 ml_X1_93 cv_X4_count rfl rfl (Nat.le_of_ble_eq_true rfl) (hS.1 31 (7, 4) rfl) rfl (by decide) (c_sitecount hS hV hC) ?_
      rintro _ _ _ ⟨rfl, rfl, rfl⟩
      show T a 1 mX1_inFields 12 [(0, rv a 35), (1, .int x), (2, .int (flds V x s)), (3, .int (nI s))] [.int (nI (nSt P)), .int (nI s)] S h _
      refine tr_icmp_ge (pc := 12) (tgt := 39) dX1_inFields_12 (by decide) (nI_leI (by omega) (by omega)) (fun q12 => ?_) (fun q12 => ?_)
      · skip
        refine tr_iload_n (pc := 39) 2 dX1_inFields_39 rfl rfl ?_
        exact tr_iret (pc := 40) dX1_inFields_40 rfl rfl (by
            rw [show nSt P = s by omega]; exact ⟨rfl, rfl, rfl⟩)
      · skip
        refine tr_iload_n (pc := 15) 1 dX1_inFields_15 rfl rfl ?_
        refine tr_iload_n (pc := 16) 3 dX1_inFields_16 rfl rfl ?_
        refine tr_ishr (pc := 17) (v := x >>> (nI s &&& 31)) dX1_inFields_17 rfl ?_
        refine tr_iconst (pc := 18) (v := nI 1) dX1_inFields_18 (by decide) ?_
        refine tr_iand (pc := 19) (v := (x >>> (nI s &&& 31)) &&& (nI 1)) dX1_inFields_19 rfl ?_
        refine tr_iconst (pc := 20) (v := nI 1) dX1_inFields_20 (by decide) ?_
        refine tr_icmp_ne (pc := 21) (tgt := 33) dX1_inFields_21 (by decide) Iff.rfl (fun q21 => ?_) (fun q21 => ?_)
        · skip
          refine tr_iinc (pc := 33) (v := nI (s + 1)) (lv' := [(3, .int (nI (s + 1))), (0, rv a 35), (1, .int x), (2, .int (flds V x s))]) 3 dX1_inFields_33 rfl (by rw [show Int32.ofInt 1 = nI 1 from by decide, nI_add]) (by decide) rfl ?_
          refine tr_goto (pc := 36) (tgt := 4) dX1_inFields_36 (by decide) ?_
          refine tr_sub (pc := 4) (lv' := [(0, rv a 35), (1, .int x), (2, .int (flds V x s)), (3, .int (nI (s + 1)))]) [1, 2, 3, 0] rfl ?_
          have e1 : flds V x s = flds V x (s + 1) := by simp only [flds]; rw [tb_f q21]; simp
          rw [e1]
          exact ih (s + 1) (by omega) (by omega)
        · skip
          refine tr_iload_n (pc := 24) 2 dX1_inFields_24 rfl rfl ?_
          refine tr_aload_n (pc := 25) 0 dX1_inFields_25 rfl rfl ?_
          refine tr_getR (pc := 26) (q := 37) dX1_inFields_26 (hS.1 35 (4, 6) rfl) fi_X1_15 rfl (hS.2 35 3 37 rfl) ?_
          refine tr_iload_n (pc := 29) 3 dX1_inFields_29 rfl rfl ?_
          refine tr_iald (pc := 30) (v := V (17 + s)) s dX1_inFields_30 (hS.1 37 (0, 32) rfl) rfl (by omega) (by decide) (hM.2.2 s (by omega)) ?_
          refine tr_ior (pc := 31) (v := (flds V x s) ||| (V (17 + s))) dX1_inFields_31 rfl ?_
          refine tr_istore_n (pc := 32) (lv' := [(2, .int ((flds V x s) ||| (V (17 + s)))), (0, rv a 35), (1, .int x), (3, .int (nI s))]) dX1_inFields_32 rfl (by decide) rfl ?_
          refine tr_iinc (pc := 33) (v := nI (s + 1)) (lv' := [(3, .int (nI (s + 1))), (2, .int ((flds V x s) ||| (V (17 + s)))), (0, rv a 35), (1, .int x)]) 3 dX1_inFields_33 rfl (by rw [show Int32.ofInt 1 = nI 1 from by decide, nI_add]) (by decide) rfl ?_
          refine tr_goto (pc := 36) (tgt := 4) dX1_inFields_36 (by decide) ?_
          refine tr_sub (pc := 4) (lv' := [(0, rv a 35), (1, .int x), (2, .int ((flds V x s) ||| (V (17 + s)))), (3, .int (nI (s + 1)))]) [2, 3, 1, 0] rfl ?_
          have e1 : (flds V x s) ||| (V (17 + s)) = flds V x (s + 1) := by simp only [flds]; rw [tb_t q21]; simp
          rw [e1]
          exact ih (s + 1) (by omega) (by omega)
  exact L4 (nSt P + 1) 0 (by omega) (by omega)

set_option maxHeartbeats 4000000 in
set_option maxRecDepth 100000 in
theorem c_addName {a : Am} {S : St} {h : Hp} (hS : IsSt S) {Z : ZV} (hM : MG h Z) {m x : Nat} (hm : m < 4) (hx : x < 4) {y : Int32} : CT a 1 mX1_addToName [rv a 35, .int (nI m), .int (nI x), .int y] S h (fun v S' h' => v = none ∧ S = S' ∧ MG h' (adZ Z (4 * m + x) y) ∧ Fr [35, 36, 37] h h') := by
  have e1 : h 36 (m * 4 + x) = Z.1 (4 * m + x) := by rw [hM.1.1 (m * 4 + x) (by omega), show m * 4 + x = 4 * m + x by omega]
  refine met_of (by decide +kernel) (Nat.le_of_ble_eq_true rfl) ?_
  show T a 1 mX1_addToName 0 [(0, rv a 35), (1, .int (nI m)), (2, .int (nI x)), (3, .int y)] [] S h _
  refine tr_iload_n (pc := 0) 1 dX1_addToName_0 rfl rfl ?_
  refine tr_iconst (pc := 1) (v := nI 4) dX1_addToName_1 (by decide) ?_
  refine tr_callSN (pc := 2) (rest := []) dX1_addToName_2 nl_X1_26 cs_X9_isOutside rfl rfl (Nat.le_of_ble_eq_true rfl) (by omega) (c_isOut_in hm (by omega)) ?_
  rintro _ _ _ ⟨rfl, rfl, rfl⟩
  show T a 1 mX1_addToName 5 [(0, rv a 35), (1, .int (nI m)), (2, .int (nI x)), (3, .int y)] [.int (nI 0)] S h _
  refine tr_if_ne (pc := 5) (tgt := 16) dX1_addToName_5 (by decide) (nI_z_eq (by omega)) (fun hcc => absurd (by decide) hcc) (fun _ => ?_)
  refine tr_iload_n (pc := 8) 2 dX1_addToName_8 rfl rfl ?_
  refine tr_iconst (pc := 9) (v := nI 4) dX1_addToName_9 (by decide) ?_
  refine tr_callSN (pc := 10) (rest := []) dX1_addToName_10 nl_X1_26 cs_X9_isOutside rfl rfl (Nat.le_of_ble_eq_true rfl) (by omega) (c_isOut_in hx (by omega)) ?_
  rintro _ _ _ ⟨rfl, rfl, rfl⟩
  show T a 1 mX1_addToName 13 [(0, rv a 35), (1, .int (nI m)), (2, .int (nI x)), (3, .int y)] [.int (nI 0)] S h _
  refine tr_if_eq (pc := 13) (tgt := 17) dX1_addToName_13 (by decide) (nI_z_eq (by omega)) (fun _ => ?_) (fun hcc => absurd (by decide) hcc)
  refine tr_iload_n (pc := 17) 1 dX1_addToName_17 rfl rfl ?_
  refine tr_iconst (pc := 18) (v := nI 4) dX1_addToName_18 (by decide) ?_
  refine tr_imul (pc := 19) (v := nI (m * 4)) dX1_addToName_19 (pk_mul _ _) ?_
  refine tr_iload_n (pc := 20) 2 dX1_addToName_20 rfl rfl ?_
  refine tr_iadd (pc := 21) (v := nI (m * 4 + x)) dX1_addToName_21 (nI_add _ _) ?_
  refine tr_istore (pc := 22) (lv' := [(4, .int (nI (m * 4 + x))), (0, rv a 35), (1, .int (nI m)), (2, .int (nI x)), (3, .int y)]) dX1_addToName_22 (by decide) rfl ?_
  refine tr_aload_n (pc := 24) 1 dX1_addToName_24 rfl rfl ?_
  refine tr_getR (pc := 25) (q := 36) dX1_addToName_25 (hS.1 35 (4, 6) rfl) fi_X1_9 rfl (hS.2 35 2 36 rfl) ?_
  refine tr_iload (pc := 28) 0 dX1_addToName_28 rfl ?_
  refine tr_iald (pc := 30) (v := Z.1 (4 * m + x)) (m * 4 + x) dX1_addToName_30 (hS.1 36 (0, 16) rfl) rfl (by omega) (by decide) e1 ?_
  refine tr_iload_n (pc := 31) 4 dX1_addToName_31 rfl rfl ?_
  refine tr_ior (pc := 32) (v := (Z.1 (4 * m + x)) ||| y) dX1_addToName_32 rfl ?_
  refine tr_aload_n (pc := 33) 1 dX1_addToName_33 rfl rfl ?_
  refine tr_getR (pc := 34) (q := 36) dX1_addToName_34 (hS.1 35 (4, 6) rfl) fi_X1_9 rfl (hS.2 35 2 36 rfl) ?_
  refine tr_iload (pc := 37) 0 dX1_addToName_37 rfl ?_
  refine tr_iald (pc := 39) (v := Z.1 (4 * m + x)) (m * 4 + x) dX1_addToName_39 (hS.1 36 (0, 16) rfl) rfl (by omega) (by decide) e1 ?_
  refine tr_icmp_eq (pc := 40) (tgt := 59) dX1_addToName_40 (by decide) Iff.rfl (fun q => ?_) (fun q => ?_)
  · skip
    exact tr_vret (pc := 59) dX1_addToName_59 rfl (⟨rfl, rfl, by rw [adZ_e q]; exact hM, Fr.rf⟩)
  · skip
    refine tr_aload_n (pc := 43) 1 dX1_addToName_43 rfl rfl ?_
    refine tr_getR (pc := 44) (q := 36) dX1_addToName_44 (hS.1 35 (4, 6) rfl) fi_X1_9 rfl (hS.2 35 2 36 rfl) ?_
    refine tr_iload (pc := 47) 0 dX1_addToName_47 rfl ?_
    refine tr_dup2 (pc := 49) dX1_addToName_49 rfl rfl ?_
    refine tr_iald (pc := 50) (v := Z.1 (4 * m + x)) (m * 4 + x) dX1_addToName_50 (hS.1 36 (0, 16) rfl) rfl (by omega) (by decide) e1 ?_
    refine tr_iload_n (pc := 51) 4 dX1_addToName_51 rfl rfl ?_
    refine tr_ior (pc := 52) (v := (Z.1 (4 * m + x)) ||| y) dX1_addToName_52 rfl ?_
    refine tr_iast (pc := 53) (m * 4 + x) dX1_addToName_53 (hS.1 36 (0, 16) rfl) rfl (by omega) (by decide) ?_
    refine tr_aload_n (pc := 54) 1 dX1_addToName_54 rfl rfl ?_
    refine tr_iconst (pc := 55) (v := nI 1) dX1_addToName_55 (by decide) ?_
    refine tr_putI (pc := 56) (x := nI 1) dX1_addToName_56 (hS.1 35 (4, 6) rfl) fi_X1_44 rfl (by decide) (by decide) ?_
    exact tr_vret (pc := 59) dX1_addToName_59 rfl (by
        refine ⟨rfl, rfl, ?_, (Fr.rf.hs (by decide)).hs (by decide)⟩
        rw [show m * 4 + x = 4 * m + x by omega]
        exact mg_name hM (by omega) q)

set_option maxHeartbeats 4000000 in
set_option maxRecDepth 100000 in
theorem c_addOpen {a : Am} {S : St} {h : Hp} (hS : IsSt S) {Z : ZV} (hM : MG h Z) {y : Int32} : CT a 0 mX1_addToOpenPlace [rv a 35, .int y] S h (fun v S' h' => v = none ∧ S = S' ∧ MG h' (adZ Z 16 y) ∧ Fr [35, 36, 37] h h') := by
  refine met_of (by decide +kernel) (Nat.le_of_ble_eq_true rfl) ?_
  show T a 0 mX1_addToOpenPlace 0 [(0, rv a 35), (1, .int y)] [] S h _
  refine tr_aload_n (pc := 0) 0 dX1_addToOpenPlace_0 rfl rfl ?_
  refine tr_getI (pc := 1) (x := Z.1 16) dX1_addToOpenPlace_1 (hS.1 35 (4, 6) rfl) fi_X1_30 rfl hM.1.2.1 ?_
  refine tr_iload_n (pc := 4) 1 dX1_addToOpenPlace_4 rfl rfl ?_
  refine tr_ior (pc := 5) (v := (Z.1 16) ||| y) dX1_addToOpenPlace_5 rfl ?_
  refine tr_aload_n (pc := 6) 0 dX1_addToOpenPlace_6 rfl rfl ?_
  refine tr_getI (pc := 7) (x := Z.1 16) dX1_addToOpenPlace_7 (hS.1 35 (4, 6) rfl) fi_X1_30 rfl hM.1.2.1 ?_
  refine tr_icmp_eq (pc := 10) (tgt := 28) dX1_addToOpenPlace_10 (by decide) Iff.rfl (fun q => ?_) (fun q => ?_)
  · skip
    exact tr_vret (pc := 28) dX1_addToOpenPlace_28 rfl (⟨rfl, rfl, by rw [adZ_e q]; exact hM, Fr.rf⟩)
  · skip
    refine tr_aload_n (pc := 13) 0 dX1_addToOpenPlace_13 rfl rfl ?_
    refine tr_dup (pc := 14) dX1_addToOpenPlace_14 rfl ?_
    refine tr_getI (pc := 15) (x := Z.1 16) dX1_addToOpenPlace_15 (hS.1 35 (4, 6) rfl) fi_X1_30 rfl hM.1.2.1 ?_
    refine tr_iload_n (pc := 18) 1 dX1_addToOpenPlace_18 rfl rfl ?_
    refine tr_ior (pc := 19) (v := (Z.1 16) ||| y) dX1_addToOpenPlace_19 rfl ?_
    refine tr_putI (pc := 20) (x := (Z.1 16) ||| y) dX1_addToOpenPlace_20 (hS.1 35 (4, 6) rfl) fi_X1_30 rfl rfl rfl ?_
    refine tr_aload_n (pc := 23) 0 dX1_addToOpenPlace_23 rfl rfl ?_
    refine tr_iconst (pc := 24) (v := nI 1) dX1_addToOpenPlace_24 (by decide) ?_
    refine tr_putI (pc := 25) (x := nI 1) dX1_addToOpenPlace_25 (hS.1 35 (4, 6) rfl) fi_X1_44 rfl (by decide) (by decide) ?_
    exact tr_vret (pc := 28) dX1_addToOpenPlace_28 rfl (⟨rfl, rfl, mg_open hM q, (Fr.rf.hs (by decide)).hs (by decide)⟩)

set_option maxHeartbeats 4000000 in
set_option maxRecDepth 100000 in
theorem c_addFields {a : Am} {S : St} {h : Hp} (hS : IsSt S) {P : Prog} (hV : VB P) (hC : SC h P) {Z : ZV} (hM : MG h Z) {x y : Int32} : CT a 1 mX1_addToFields [rv a 35, .int x, .int y] S h (fun v S' h' => v = none ∧ S = S' ∧ MG h' (putZ Z x y (nSt P)) ∧ Fr [35, 36, 37] h h') := by
  obtain ⟨hV1, hV2, hV3⟩ := id hV
  have hns := nSt_le hV
  refine met_of (by decide +kernel) (Nat.le_of_ble_eq_true rfl) ?_
  show T a 1 mX1_addToFields 0 [(0, rv a 35), (1, .int x), (2, .int y)] [] S h _
  refine tr_iconst (pc := 0) (v := nI 0) dX1_addToFields_0 (by decide) ?_
  refine tr_istore_n (pc := 1) (lv' := [(3, .int (nI 0)), (0, rv a 35), (1, .int x), (2, .int y)]) dX1_addToFields_1 rfl (by decide) rfl ?_
  refine tr_sub (pc := 2) (lv' := [(0, rv a 35), (1, .int x), (2, .int y), (3, .int (nI 0))]) [1, 2, 3, 0] rfl ?_
  have L2 : ∀ (fu : Nat) (s : Nat) (h1 : Hp), nSt P - s < fu → s ≤ nSt P → MG h1 (putZ Z x y s) → Fr [35, 36, 37] h h1 → T a 1 mX1_addToFields 2 [(0, rv a 35), (1, .int x), (2, .int y), (3, .int (nI s))] [] S h1 (fun v S' h' => v = none ∧ S = S' ∧ MG h' (putZ Z x y (nSt P)) ∧ Fr [35, 36, 37] h h') := by
    intro fu
    induction fu with
    | zero => intro s h1 hu hs hM1 hf1; omega
    | succ fu ih =>
      intro s h1 hu hs hM1 hf1
      have hC1 : SC h1 P := hC.fr hf1 (by decide) (by decide) (by decide) (by decide)
      refine tr_iload_n (pc := 2) 3 dX1_addToFields_2 rfl rfl ?_
      refine tr_aload_n (pc := 3) 0 dX1_addToFields_3 rfl rfl ?_
      refine tr_getR (pc := 4) (q := 31) dX1_addToFields_4 (hS.1 35 (4, 6) rfl) fi_X1_22 rfl (hS.2 35 1 31 rfl) ?_
      refine tr_callV (pc := 7) (rest := [.int (nI s)]) (ci := 4) dX1_addToFields_7 ml_X1_93 cv_X4_count rfl rfl (Nat.le_of_ble_eq_true rfl) (hS.1 31 (7, 4) rfl) rfl (by decide) (c_sitecount hS hV hC1) ?_
      rintro _ _ _ ⟨rfl, rfl, rfl⟩
      show T a 1 mX1_addToFields 10 [(0, rv a 35), (1, .int x), (2, .int y), (3, .int (nI s))] [.int (nI (nSt P)), .int (nI s)] S h1 _
      refine tr_icmp_ge (pc := 10) (tgt := 60) dX1_addToFields_10 (by decide) (nI_leI (by omega) (by omega)) (fun q10 => ?_) (fun q10 => ?_)
      · skip
        exact tr_vret (pc := 60) dX1_addToFields_60 rfl (⟨rfl, rfl, by rw [show nSt P = s by omega]; exact hM1, hf1⟩)
      · skip
        have e1 : h1 37 s = (putZ Z x y s).1 (17 + s) := hM1.1.2.2 s (by omega)
        refine tr_iload_n (pc := 13) 1 dX1_addToFields_13 rfl rfl ?_
        refine tr_iload_n (pc := 14) 3 dX1_addToFields_14 rfl rfl ?_
        refine tr_ishr (pc := 15) (v := x >>> (nI s &&& 31)) dX1_addToFields_15 rfl ?_
        refine tr_iconst (pc := 16) (v := nI 1) dX1_addToFields_16 (by decide) ?_
        refine tr_iand (pc := 17) (v := (x >>> (nI s &&& 31)) &&& (nI 1)) dX1_addToFields_17 rfl ?_
        refine tr_iconst (pc := 18) (v := nI 1) dX1_addToFields_18 (by decide) ?_
        refine tr_icmp_ne (pc := 19) (tgt := 54) dX1_addToFields_19 (by decide) Iff.rfl (fun q19 => ?_) (fun q19 => ?_)
        · skip
          refine tr_iinc (pc := 54) (v := nI (s + 1)) (lv' := [(3, .int (nI (s + 1))), (0, rv a 35), (1, .int x), (2, .int y)]) 3 dX1_addToFields_54 rfl (by rw [show Int32.ofInt 1 = nI 1 from by decide, nI_add]) (by decide) rfl ?_
          refine tr_goto (pc := 57) (tgt := 2) dX1_addToFields_57 (by decide) ?_
          refine tr_sub (pc := 2) (lv' := [(0, rv a 35), (1, .int x), (2, .int y), (3, .int (nI (s + 1)))]) [1, 2, 3, 0] rfl ?_
          exact ih (s + 1) h1 (by omega) (by omega) (by simp only [putZ]; first | (rw [tb_f q19]; simp; exact hM1) | (rw [tb_t q19]; simp only [if_true]; rw [adZ_e q36]; exact hM1)) hf1
        · skip
          refine tr_aload_n (pc := 22) 0 dX1_addToFields_22 rfl rfl ?_
          refine tr_getR (pc := 23) (q := 37) dX1_addToFields_23 (hS.1 35 (4, 6) rfl) fi_X1_15 rfl (hS.2 35 3 37 rfl) ?_
          refine tr_iload_n (pc := 26) 3 dX1_addToFields_26 rfl rfl ?_
          refine tr_iald (pc := 27) (v := (putZ Z x y s).1 (17 + s)) s dX1_addToFields_27 (hS.1 37 (0, 32) rfl) rfl (by omega) (by decide) e1 ?_
          refine tr_iload_n (pc := 28) 2 dX1_addToFields_28 rfl rfl ?_
          refine tr_ior (pc := 29) (v := ((putZ Z x y s).1 (17 + s)) ||| y) dX1_addToFields_29 rfl ?_
          refine tr_aload_n (pc := 30) 0 dX1_addToFields_30 rfl rfl ?_
          refine tr_getR (pc := 31) (q := 37) dX1_addToFields_31 (hS.1 35 (4, 6) rfl) fi_X1_15 rfl (hS.2 35 3 37 rfl) ?_
          refine tr_iload_n (pc := 34) 3 dX1_addToFields_34 rfl rfl ?_
          refine tr_iald (pc := 35) (v := (putZ Z x y s).1 (17 + s)) s dX1_addToFields_35 (hS.1 37 (0, 32) rfl) rfl (by omega) (by decide) e1 ?_
          refine tr_icmp_eq (pc := 36) (tgt := 54) dX1_addToFields_36 (by decide) Iff.rfl (fun q36 => ?_) (fun q36 => ?_)
          · skip
            refine tr_iinc (pc := 54) (v := nI (s + 1)) (lv' := [(3, .int (nI (s + 1))), (0, rv a 35), (1, .int x), (2, .int y)]) 3 dX1_addToFields_54 rfl (by rw [show Int32.ofInt 1 = nI 1 from by decide, nI_add]) (by decide) rfl ?_
            refine tr_goto (pc := 57) (tgt := 2) dX1_addToFields_57 (by decide) ?_
            refine tr_sub (pc := 2) (lv' := [(0, rv a 35), (1, .int x), (2, .int y), (3, .int (nI (s + 1)))]) [1, 2, 3, 0] rfl ?_
            exact ih (s + 1) h1 (by omega) (by omega) (by simp only [putZ]; first | (rw [tb_f q19]; simp; exact hM1) | (rw [tb_t q19]; simp only [if_true]; rw [adZ_e q36]; exact hM1)) hf1
          · skip
            refine tr_aload_n (pc := 39) 0 dX1_addToFields_39 rfl rfl ?_
            refine tr_getR (pc := 40) (q := 37) dX1_addToFields_40 (hS.1 35 (4, 6) rfl) fi_X1_15 rfl (hS.2 35 3 37 rfl) ?_
            refine tr_iload_n (pc := 43) 3 dX1_addToFields_43 rfl rfl ?_
            refine tr_dup2 (pc := 44) dX1_addToFields_44 rfl rfl ?_
            refine tr_iald (pc := 45) (v := (putZ Z x y s).1 (17 + s)) s dX1_addToFields_45 (hS.1 37 (0, 32) rfl) rfl (by omega) (by decide) e1 ?_
            refine tr_iload_n (pc := 46) 2 dX1_addToFields_46 rfl rfl ?_
            refine tr_ior (pc := 47) (v := ((putZ Z x y s).1 (17 + s)) ||| y) dX1_addToFields_47 rfl ?_
            refine tr_iast (pc := 48) s dX1_addToFields_48 (hS.1 37 (0, 32) rfl) rfl (by omega) (by decide) ?_
            refine tr_aload_n (pc := 49) 0 dX1_addToFields_49 rfl rfl ?_
            refine tr_iconst (pc := 50) (v := nI 1) dX1_addToFields_50 (by decide) ?_
            refine tr_putI (pc := 51) (x := nI 1) dX1_addToFields_51 (hS.1 35 (4, 6) rfl) fi_X1_44 rfl (by decide) (by decide) ?_
            refine tr_iinc (pc := 54) (v := nI (s + 1)) (lv' := [(3, .int (nI (s + 1))), (0, rv a 35), (1, .int x), (2, .int y)]) 3 dX1_addToFields_54 rfl (by rw [show Int32.ofInt 1 = nI 1 from by decide, nI_add]) (by decide) rfl ?_
            refine tr_goto (pc := 57) (tgt := 2) dX1_addToFields_57 (by decide) ?_
            refine tr_sub (pc := 2) (lv' := [(0, rv a 35), (1, .int x), (2, .int y), (3, .int (nI (s + 1)))]) [1, 2, 3, 0] rfl ?_
            exact ih (s + 1) _ (by omega) (by omega) (by simp only [putZ]; rw [tb_t q19]; simp only [if_true]; exact mg_field hM1 (by omega) q36) ((hf1.hs (by decide)).hs (by decide))
  exact L2 (nSt P + 1) 0 h (by omega) (by omega) hM Fr.rf

set_option maxHeartbeats 4000000 in
set_option maxRecDepth 100000 in
theorem c_addByLine {a : Am} {S : St} {h : Hp} (hS : IsSt S) {P : Prog} (hVP : VP P) (hMP : MP h 3 P) (hC : SC h P) {Z : ZV} (hM : MG h Z) {m i : Nat} (hi : i < lnN P m) : CT a 3 mX1_addByLine [rv a 35, .int (nI m), .int (nI i)] S h (fun v S' h' => v = none ∧ S = S' ∧ MG h' (stepZ P Z m i) ∧ Fr [35, 36, 37] h h') := by
  obtain ⟨hV, hVC⟩ := id hVP
  obtain ⟨hV1, hV2, hV3⟩ := id hV
  have hm := lnN_lt hi
  have hok := hV3 m i hi
  obtain ⟨k1, k2, k3, k4⟩ := id hok
  have h8 := hV2 m
  have hO := mo_3 hS
  refine met_of (by decide +kernel) (Nat.le_of_ble_eq_true rfl) ?_
  show T a 3 mX1_addByLine 0 [(0, rv a 35), (1, .int (nI m)), (2, .int (nI i))] [] S h _
  refine tr_aload_n (pc := 0) 0 dX1_addByLine_0 rfl rfl ?_
  refine tr_getR (pc := 1) (q := 3) dX1_addByLine_1 (hS.1 35 (4, 6) rfl) fi_X1_18 rfl (hS.2 35 0 3 rfl) ?_
  refine tr_iload_n (pc := 4) 1 dX1_addByLine_4 rfl rfl ?_
  refine tr_iload_n (pc := 5) 2 dX1_addByLine_5 rfl rfl ?_
  refine tr_callV (pc := 6) (rest := []) (ci := 2) dX1_addByLine_6 ml_X1_61 cv_X2_name rfl rfl (Nat.le_of_ble_eq_true rfl) (hS.1 3 (5, 3) rfl) rfl (by decide) (c_name hO hMP hV hi) ?_
  rintro _ _ _ ⟨rfl, rfl, rfl⟩
  show T a 3 mX1_addByLine 9 [(0, rv a 35), (1, .int (nI m)), (2, .int (nI i))] [.int (nI ((gt P m i).2.1))] S h _
  refine tr_istore_n (pc := 9) (lv' := [(3, .int (nI ((gt P m i).2.1))), (0, rv a 35), (1, .int (nI m)), (2, .int (nI i))]) dX1_addByLine_9 rfl (by decide) rfl ?_
  refine tr_aload_n (pc := 10) 1 dX1_addByLine_10 rfl rfl ?_
  refine tr_iload_n (pc := 11) 2 dX1_addByLine_11 rfl rfl ?_
  refine tr_aload_n (pc := 12) 1 dX1_addByLine_12 rfl rfl ?_
  refine tr_getR (pc := 13) (q := 3) dX1_addByLine_13 (hS.1 35 (4, 6) rfl) fi_X1_18 rfl (hS.2 35 0 3 rfl) ?_
  refine tr_iload_n (pc := 16) 2 dX1_addByLine_16 rfl rfl ?_
  refine tr_iload_n (pc := 17) 3 dX1_addByLine_17 rfl rfl ?_
  refine tr_callV (pc := 18) (rest := [.int (nI m), rv a 35]) (ci := 2) dX1_addByLine_18 ml_X1_65 cv_X2_other rfl rfl (Nat.le_of_ble_eq_true rfl) (hS.1 3 (5, 3) rfl) rfl (by decide) (c_other hO hMP hV hi) ?_
  rintro _ _ _ ⟨rfl, rfl, rfl⟩
  show T a 3 mX1_addByLine 21 [(3, .int (nI ((gt P m i).2.1))), (0, rv a 35), (1, .int (nI m)), (2, .int (nI i))] [.int (nI ((gt P m i).2.2.1)), .int (nI m), rv a 35] S h _
  refine tr_callV (pc := 21) (rest := []) (ci := 1) dX1_addByLine_21 ml_X1_68 cv_X1_inName rfl rfl (Nat.le_of_ble_eq_true rfl) (hS.1 35 (4, 6) rfl) rfl (by decide) (c_inName hS hM.1 (by omega) k3) ?_
  rintro _ _ _ ⟨rfl, rfl, rfl⟩
  show T a 3 mX1_addByLine 24 [(3, .int (nI ((gt P m i).2.1))), (0, rv a 35), (1, .int (nI m)), (2, .int (nI i))] [.int (Z.1 (4 * m + (gt P m i).2.2.1))] S h _
  refine tr_istore (pc := 24) (lv' := [(4, .int (Z.1 (4 * m + (gt P m i).2.2.1))), (3, .int (nI ((gt P m i).2.1))), (0, rv a 35), (1, .int (nI m)), (2, .int (nI i))]) dX1_addByLine_24 (by decide) rfl ?_
  refine tr_aload_n (pc := 26) 2 dX1_addByLine_26 rfl rfl ?_
  refine tr_getR (pc := 27) (q := 3) dX1_addByLine_27 (hS.1 35 (4, 6) rfl) fi_X1_18 rfl (hS.2 35 0 3 rfl) ?_
  refine tr_iload_n (pc := 30) 3 dX1_addByLine_30 rfl rfl ?_
  refine tr_iload_n (pc := 31) 4 dX1_addByLine_31 rfl rfl ?_
  refine tr_callV (pc := 32) (rest := []) (ci := 2) dX1_addByLine_32 ml_X1_71 cv_X2_sort rfl rfl (Nat.le_of_ble_eq_true rfl) (hS.1 3 (5, 3) rfl) rfl (by decide) (c_sort hO hMP hV hi) ?_
  rintro _ _ _ ⟨rfl, rfl, rfl⟩
  show T a 3 mX1_addByLine 35 [(4, .int (Z.1 (4 * m + (gt P m i).2.2.1))), (3, .int (nI ((gt P m i).2.1))), (0, rv a 35), (1, .int (nI m)), (2, .int (nI i))] [.int (nI ((gt P m i).1))] S h _
  rcases (show (gt P m i).1 = 0 ∨ (gt P m i).1 = 1 ∨ (gt P m i).1 = 2 ∨ (gt P m i).1 = 3 ∨ (gt P m i).1 = 4 ∨ (gt P m i).1 = 5 ∨ (gt P m i).1 = 6 ∨ (gt P m i).1 = 7 by omega) with q | q | q | q | q | q | q | q <;> rw [q]
  · skip
    refine tr_tabIn (pc := 35) (off := 45) (tgt := 80) dX1_addByLine_35 (by decide) (by decide) (by decide) (by decide) ?_
    refine tr_aload_n (pc := 80) 2 dX1_addByLine_80 rfl rfl ?_
    refine tr_iload_n (pc := 81) 3 dX1_addByLine_81 rfl rfl ?_
    refine tr_iload_n (pc := 82) 1 dX1_addByLine_82 rfl rfl ?_
    refine tr_iconst (pc := 83) (v := nI 1) dX1_addByLine_83 (by decide) ?_
    refine tr_aload_n (pc := 84) 2 dX1_addByLine_84 rfl rfl ?_
    refine tr_getR (pc := 85) (q := 31) dX1_addByLine_85 (hS.1 35 (4, 6) rfl) fi_X1_22 rfl (hS.2 35 1 31 rfl) ?_
    refine tr_iload_n (pc := 88) 3 dX1_addByLine_88 rfl rfl ?_
    refine tr_iload_n (pc := 89) 4 dX1_addByLine_89 rfl rfl ?_
    refine tr_callV (pc := 90) (rest := [.int (nI 1), .int (nI ((gt P m i).2.1)), .int (nI m), rv a 35]) (ci := 4) dX1_addByLine_90 ml_X1_74 cv_X4_ofLine rfl rfl (Nat.le_of_ble_eq_true rfl) (hS.1 31 (7, 4) rfl) rfl (by decide) (c_ofLine hS hV hC hi) ?_
    rintro _ _ _ ⟨rfl, rfl, rfl⟩
    show T a 3 mX1_addByLine 93 [(4, .int (Z.1 (4 * m + (gt P m i).2.2.1))), (3, .int (nI ((gt P m i).2.1))), (0, rv a 35), (1, .int (nI m)), (2, .int (nI i))] [.int (siteAt P m i), .int (nI 1), .int (nI ((gt P m i).2.1)), .int (nI m), rv a 35] S h _
    refine tr_ishl (pc := 93) (v := (nI 1) <<< (siteAt P m i &&& 31)) dX1_addByLine_93 rfl ?_
    refine tr_callV (pc := 94) (rest := []) (ci := 1) dX1_addByLine_94 ml_X1_79 cv_X1_addToName rfl rfl (Nat.le_of_ble_eq_true rfl) (hS.1 35 (4, 6) rfl) rfl (by decide) (c_addName hS hM (by omega) k2) ?_
    rintro v1 S1 h1 ⟨rfl, rfl, hM1, hf1⟩
    show T a 3 mX1_addByLine 97 [(4, .int (Z.1 (4 * m + (gt P m i).2.2.1))), (3, .int (nI ((gt P m i).2.1))), (0, rv a 35), (1, .int (nI m)), (2, .int (nI i))] [] S h1 _
    refine tr_goto (pc := 97) (tgt := 206) dX1_addByLine_97 (by decide) ?_
    exact tr_vret (pc := 206) dX1_addByLine_206 rfl (⟨rfl, rfl, by unfold stepZ; rw [q]; exact hM1, hf1⟩)
  · skip
    refine tr_tabIn (pc := 35) (off := 65) (tgt := 100) dX1_addByLine_35 (by decide) (by decide) (by decide) (by decide) ?_
    refine tr_aload_n (pc := 100) 2 dX1_addByLine_100 rfl rfl ?_
    refine tr_iload_n (pc := 101) 3 dX1_addByLine_101 rfl rfl ?_
    refine tr_iload_n (pc := 102) 1 dX1_addByLine_102 rfl rfl ?_
    refine tr_iload (pc := 103) 0 dX1_addByLine_103 rfl ?_
    refine tr_callV (pc := 105) (rest := []) (ci := 1) dX1_addByLine_105 ml_X1_79 cv_X1_addToName rfl rfl (Nat.le_of_ble_eq_true rfl) (hS.1 35 (4, 6) rfl) rfl (by decide) (c_addName hS hM (by omega) k2) ?_
    rintro v1 S1 h1 ⟨rfl, rfl, hM1, hf1⟩
    show T a 3 mX1_addByLine 108 [(4, .int (Z.1 (4 * m + (gt P m i).2.2.1))), (3, .int (nI ((gt P m i).2.1))), (0, rv a 35), (1, .int (nI m)), (2, .int (nI i))] [] S h1 _
    refine tr_goto (pc := 108) (tgt := 206) dX1_addByLine_108 (by decide) ?_
    exact tr_vret (pc := 206) dX1_addByLine_206 rfl (⟨rfl, rfl, by unfold stepZ; rw [q]; exact hM1, hf1⟩)
  · skip
    refine tr_tabIn (pc := 35) (off := 76) (tgt := 111) dX1_addByLine_35 (by decide) (by decide) (by decide) (by decide) ?_
    refine tr_aload_n (pc := 111) 2 dX1_addByLine_111 rfl rfl ?_
    refine tr_aload_n (pc := 112) 2 dX1_addByLine_112 rfl rfl ?_
    refine tr_iload_n (pc := 113) 3 dX1_addByLine_113 rfl rfl ?_
    refine tr_iload_n (pc := 114) 1 dX1_addByLine_114 rfl rfl ?_
    refine tr_callV (pc := 115) (rest := [rv a 35]) (ci := 1) dX1_addByLine_115 ml_X1_68 cv_X1_inName rfl rfl (Nat.le_of_ble_eq_true rfl) (hS.1 35 (4, 6) rfl) rfl (by decide) (c_inName hS hM.1 (by omega) k2) ?_
    rintro _ _ _ ⟨rfl, rfl, rfl⟩
    show T a 3 mX1_addByLine 118 [(4, .int (Z.1 (4 * m + (gt P m i).2.2.1))), (3, .int (nI ((gt P m i).2.1))), (0, rv a 35), (1, .int (nI m)), (2, .int (nI i))] [.int (Z.1 (4 * m + (gt P m i).2.1)), rv a 35] S h _
    refine tr_iload (pc := 118) 0 dX1_addByLine_118 rfl ?_
    refine tr_callV (pc := 120) (rest := []) (ci := 1) dX1_addByLine_120 ml_X1_83 cv_X1_addToFields rfl rfl (Nat.le_of_ble_eq_true rfl) (hS.1 35 (4, 6) rfl) rfl (by decide) (c_addFields hS hV hC hM) ?_
    rintro v1 S1 h1 ⟨rfl, rfl, hM1, hf1⟩
    show T a 3 mX1_addByLine 123 [(4, .int (Z.1 (4 * m + (gt P m i).2.2.1))), (3, .int (nI ((gt P m i).2.1))), (0, rv a 35), (1, .int (nI m)), (2, .int (nI i))] [] S h1 _
    refine tr_goto (pc := 123) (tgt := 206) dX1_addByLine_123 (by decide) ?_
    exact tr_vret (pc := 206) dX1_addByLine_206 rfl (⟨rfl, rfl, by unfold stepZ; rw [q]; exact hM1, hf1⟩)
  · skip
    refine tr_tabIn (pc := 35) (off := 91) (tgt := 126) dX1_addByLine_35 (by decide) (by decide) (by decide) (by decide) ?_
    refine tr_aload_n (pc := 126) 2 dX1_addByLine_126 rfl rfl ?_
    refine tr_iload_n (pc := 127) 3 dX1_addByLine_127 rfl rfl ?_
    refine tr_iload_n (pc := 128) 1 dX1_addByLine_128 rfl rfl ?_
    refine tr_aload_n (pc := 129) 2 dX1_addByLine_129 rfl rfl ?_
    refine tr_iload (pc := 130) 0 dX1_addByLine_130 rfl ?_
    refine tr_callV (pc := 132) (rest := [.int (nI ((gt P m i).2.1)), .int (nI m), rv a 35]) (ci := 1) dX1_addByLine_132 ml_X1_34 cv_X1_inFields rfl rfl (Nat.le_of_ble_eq_true rfl) (hS.1 35 (4, 6) rfl) rfl (by decide) (c_inFields hS hV hM.1 hC) ?_
    rintro _ _ _ ⟨rfl, rfl, rfl⟩
    show T a 3 mX1_addByLine 135 [(4, .int (Z.1 (4 * m + (gt P m i).2.2.1))), (3, .int (nI ((gt P m i).2.1))), (0, rv a 35), (1, .int (nI m)), (2, .int (nI i))] [.int (flds Z.1 (Z.1 (4 * m + (gt P m i).2.2.1)) (nSt P)), .int (nI ((gt P m i).2.1)), .int (nI m), rv a 35] S h _
    refine tr_callV (pc := 135) (rest := []) (ci := 1) dX1_addByLine_135 ml_X1_79 cv_X1_addToName rfl rfl (Nat.le_of_ble_eq_true rfl) (hS.1 35 (4, 6) rfl) rfl (by decide) (c_addName hS hM (by omega) k2) ?_
    rintro v1 S1 h1 ⟨rfl, rfl, hM1, hf1⟩
    show T a 3 mX1_addByLine 138 [(4, .int (Z.1 (4 * m + (gt P m i).2.2.1))), (3, .int (nI ((gt P m i).2.1))), (0, rv a 35), (1, .int (nI m)), (2, .int (nI i))] [] S h1 _
    refine tr_goto (pc := 138) (tgt := 206) dX1_addByLine_138 (by decide) ?_
    exact tr_vret (pc := 206) dX1_addByLine_206 rfl (⟨rfl, rfl, by unfold stepZ; rw [q]; exact hM1, hf1⟩)
  · skip
    refine tr_tabIn (pc := 35) (off := 106) (tgt := 141) dX1_addByLine_35 (by decide) (by decide) (by decide) (by decide) ?_
    refine tr_aload_n (pc := 141) 2 dX1_addByLine_141 rfl rfl ?_
    refine tr_aload_n (pc := 142) 2 dX1_addByLine_142 rfl rfl ?_
    refine tr_iload_n (pc := 143) 3 dX1_addByLine_143 rfl rfl ?_
    refine tr_iload_n (pc := 144) 1 dX1_addByLine_144 rfl rfl ?_
    refine tr_callV (pc := 145) (rest := [rv a 35]) (ci := 1) dX1_addByLine_145 ml_X1_68 cv_X1_inName rfl rfl (Nat.le_of_ble_eq_true rfl) (hS.1 35 (4, 6) rfl) rfl (by decide) (c_inName hS hM.1 (by omega) k2) ?_
    rintro _ _ _ ⟨rfl, rfl, rfl⟩
    show T a 3 mX1_addByLine 148 [(4, .int (Z.1 (4 * m + (gt P m i).2.2.1))), (3, .int (nI ((gt P m i).2.1))), (0, rv a 35), (1, .int (nI m)), (2, .int (nI i))] [.int (Z.1 (4 * m + (gt P m i).2.1)), rv a 35] S h _
    refine tr_callV (pc := 148) (rest := []) (ci := 1) dX1_addByLine_148 ml_X1_86 cv_X1_addToOpenPlace rfl rfl (Nat.le_of_ble_eq_true rfl) (hS.1 35 (4, 6) rfl) rfl (by decide) (c_addOpen hS hM) ?_
    rintro v1 S1 h1 ⟨rfl, rfl, hM1, hf1⟩
    show T a 3 mX1_addByLine 151 [(4, .int (Z.1 (4 * m + (gt P m i).2.2.1))), (3, .int (nI ((gt P m i).2.1))), (0, rv a 35), (1, .int (nI m)), (2, .int (nI i))] [] S h1 _
    refine tr_goto (pc := 151) (tgt := 206) dX1_addByLine_151 (by decide) ?_
    exact tr_vret (pc := 206) dX1_addByLine_206 rfl (⟨rfl, rfl, by unfold stepZ; rw [q]; exact hM1, hf1⟩)
  · skip
    refine tr_tabIn (pc := 35) (off := 119) (tgt := 154) dX1_addByLine_35 (by decide) (by decide) (by decide) (by decide) ?_
    refine tr_aload_n (pc := 154) 2 dX1_addByLine_154 rfl rfl ?_
    refine tr_iload_n (pc := 155) 3 dX1_addByLine_155 rfl rfl ?_
    refine tr_iload_n (pc := 156) 1 dX1_addByLine_156 rfl rfl ?_
    refine tr_aload_n (pc := 157) 2 dX1_addByLine_157 rfl rfl ?_
    refine tr_getI (pc := 158) (x := Z.1 16) dX1_addByLine_158 (hS.1 35 (4, 6) rfl) fi_X1_30 rfl hM.1.2.1 ?_
    refine tr_callV (pc := 161) (rest := []) (ci := 1) dX1_addByLine_161 ml_X1_79 cv_X1_addToName rfl rfl (Nat.le_of_ble_eq_true rfl) (hS.1 35 (4, 6) rfl) rfl (by decide) (c_addName hS hM (by omega) k2) ?_
    rintro v1 S1 h1 ⟨rfl, rfl, hM1, hf1⟩
    show T a 3 mX1_addByLine 164 [(4, .int (Z.1 (4 * m + (gt P m i).2.2.1))), (3, .int (nI ((gt P m i).2.1))), (0, rv a 35), (1, .int (nI m)), (2, .int (nI i))] [] S h1 _
    refine tr_goto (pc := 164) (tgt := 206) dX1_addByLine_164 (by decide) ?_
    exact tr_vret (pc := 206) dX1_addByLine_206 rfl (⟨rfl, rfl, by unfold stepZ; rw [q]; exact hM1, hf1⟩)
  · skip
    refine tr_tabIn (pc := 35) (off := 171) (tgt := 206) dX1_addByLine_35 (by decide) (by decide) (by decide) (by decide) ?_
    exact tr_vret (pc := 206) dX1_addByLine_206 rfl (⟨rfl, rfl, by unfold stepZ; rw [q]; exact hM, Fr.rf⟩)
  · skip
    refine tr_tabIn (pc := 35) (off := 132) (tgt := 167) dX1_addByLine_35 (by decide) (by decide) (by decide) (by decide) ?_
    refine tr_aload_n (pc := 167) 2 dX1_addByLine_167 rfl rfl ?_
    refine tr_aload_n (pc := 168) 2 dX1_addByLine_168 rfl rfl ?_
    refine tr_getR (pc := 169) (q := 3) dX1_addByLine_169 (hS.1 35 (4, 6) rfl) fi_X1_18 rfl (hS.2 35 0 3 rfl) ?_
    refine tr_iload_n (pc := 172) 3 dX1_addByLine_172 rfl rfl ?_
    refine tr_iload_n (pc := 173) 4 dX1_addByLine_173 rfl rfl ?_
    refine tr_callV (pc := 174) (rest := [rv a 35]) (ci := 2) dX1_addByLine_174 ml_X1_90 cv_X2_callee rfl rfl (Nat.le_of_ble_eq_true rfl) (hS.1 3 (5, 3) rfl) rfl (by decide) (c_callee hO hMP hV hi) ?_
    rintro _ _ _ ⟨rfl, rfl, rfl⟩
    show T a 3 mX1_addByLine 177 [(4, .int (Z.1 (4 * m + (gt P m i).2.2.1))), (3, .int (nI ((gt P m i).2.1))), (0, rv a 35), (1, .int (nI m)), (2, .int (nI i))] [.int (nI ((gt P m i).2.2.2)), rv a 35] S h _
    refine tr_iconst (pc := 177) (v := nI 0) dX1_addByLine_177 (by decide) ?_
    refine tr_iload (pc := 178) 0 dX1_addByLine_178 rfl ?_
    refine tr_callV (pc := 180) (rest := []) (ci := 1) dX1_addByLine_180 ml_X1_79 cv_X1_addToName rfl rfl (Nat.le_of_ble_eq_true rfl) (hS.1 35 (4, 6) rfl) rfl (by decide) (c_addName hS hM k4 (show 0 < 4 by decide)) ?_
    rintro v1 S1 h1 ⟨rfl, rfl, hM1, hf1⟩
    have hMP1 : MP h1 3 P := hMP.fr hf1 (by decide) (by decide) (by decide)
    rw [Nat.add_zero] at hM1
    show T a 3 mX1_addByLine 183 [(4, .int (Z.1 (4 * m + (gt P m i).2.2.1))), (3, .int (nI ((gt P m i).2.1))), (0, rv a 35), (1, .int (nI m)), (2, .int (nI i))] [] S h1 _
    refine tr_aload_n (pc := 183) 2 dX1_addByLine_183 rfl rfl ?_
    refine tr_iload_n (pc := 184) 3 dX1_addByLine_184 rfl rfl ?_
    refine tr_iload_n (pc := 185) 1 dX1_addByLine_185 rfl rfl ?_
    refine tr_aload_n (pc := 186) 2 dX1_addByLine_186 rfl rfl ?_
    refine tr_aload_n (pc := 187) 2 dX1_addByLine_187 rfl rfl ?_
    refine tr_getR (pc := 188) (q := 3) dX1_addByLine_188 (hS.1 35 (4, 6) rfl) fi_X1_18 rfl (hS.2 35 0 3 rfl) ?_
    refine tr_iload_n (pc := 191) 3 dX1_addByLine_191 rfl rfl ?_
    refine tr_iload_n (pc := 192) 4 dX1_addByLine_192 rfl rfl ?_
    refine tr_callV (pc := 193) (rest := [rv a 35, .int (nI ((gt P m i).2.1)), .int (nI m), rv a 35]) (ci := 2) dX1_addByLine_193 ml_X1_90 cv_X2_callee rfl rfl (Nat.le_of_ble_eq_true rfl) (hS.1 3 (5, 3) rfl) rfl (by decide) (c_callee hO hMP1 hV hi) ?_
    rintro _ _ _ ⟨rfl, rfl, rfl⟩
    show T a 3 mX1_addByLine 196 [(4, .int (Z.1 (4 * m + (gt P m i).2.2.1))), (3, .int (nI ((gt P m i).2.1))), (0, rv a 35), (1, .int (nI m)), (2, .int (nI i))] [.int (nI ((gt P m i).2.2.2)), rv a 35, .int (nI ((gt P m i).2.1)), .int (nI m), rv a 35] S h1 _
    refine tr_iconst (pc := 196) (v := nI 3) dX1_addByLine_196 (by decide) ?_
    refine tr_callV (pc := 197) (rest := [.int (nI ((gt P m i).2.1)), .int (nI m), rv a 35]) (ci := 1) dX1_addByLine_197 ml_X1_68 cv_X1_inName rfl rfl (Nat.le_of_ble_eq_true rfl) (hS.1 35 (4, 6) rfl) rfl (by decide) (c_inName hS hM1.1 k4 (show 3 < 4 by decide)) ?_
    rintro _ _ _ ⟨rfl, rfl, rfl⟩
    show T a 3 mX1_addByLine 200 [(4, .int (Z.1 (4 * m + (gt P m i).2.2.1))), (3, .int (nI ((gt P m i).2.1))), (0, rv a 35), (1, .int (nI m)), (2, .int (nI i))] [.int ((adZ Z (4 * (gt P m i).2.2.2) (Z.1 (4 * m + (gt P m i).2.2.1))).1 (4 * (gt P m i).2.2.2 + 3)), .int (nI ((gt P m i).2.1)), .int (nI m), rv a 35] S h1 _
    refine tr_callV (pc := 200) (rest := []) (ci := 1) dX1_addByLine_200 ml_X1_79 cv_X1_addToName rfl rfl (Nat.le_of_ble_eq_true rfl) (hS.1 35 (4, 6) rfl) rfl (by decide) (c_addName hS hM1 (by omega) k2) ?_
    rintro v1 S1 h2 ⟨rfl, rfl, hM2, hf2⟩
    show T a 3 mX1_addByLine 203 [(4, .int (Z.1 (4 * m + (gt P m i).2.2.1))), (3, .int (nI ((gt P m i).2.1))), (0, rv a 35), (1, .int (nI m)), (2, .int (nI i))] [] S h2 _
    refine tr_goto (pc := 203) (tgt := 206) dX1_addByLine_203 (by decide) ?_
    exact tr_vret (pc := 206) dX1_addByLine_206 rfl (⟨rfl, rfl, by unfold stepZ; rw [q]; exact hM2, hf1.trans hf2⟩)

set_option maxHeartbeats 4000000 in
set_option maxRecDepth 100000 in
theorem c_find {a : Am} {S : St} {h : Hp} (hS : IsSt S) {P : Prog} (hVP : VP P) (hMP : MP h 3 P) (hC : SC h P) : CT a 5 mX1_find [rv a 35] S h (fun v S' h' => v = none ∧ S = S' ∧ MC h' (mayV P) ∧ Fr [35, 36, 37] h h') := by
  obtain ⟨hV, hVC⟩ := id hVP
  obtain ⟨hV1, hV2, hV3⟩ := id hV
  have hO := mo_3 hS
  refine met_of (by decide +kernel) (Nat.le_of_ble_eq_true rfl) ?_
  show T a 5 mX1_find 0 [(0, rv a 35)] [] S h _
  refine tr_aload_n (pc := 0) 0 dX1_find_0 rfl rfl ?_
  refine tr_getR (pc := 1) (q := 36) dX1_find_1 (hS.1 35 (4, 6) rfl) fi_X1_9 rfl (hS.2 35 2 36 rfl) ?_
  refine tr_iconst (pc := 4) (v := nI 0) dX1_find_4 (by decide) ?_
  refine tr_callS (pc := 5) (rest := []) dX1_find_5 ml_X1_38 cs_J7_fill_53178 rfl rfl (Nat.le_of_ble_eq_true rfl) (by decide) (c_fill (hS.1 36 _ rfl) (by decide)) ?_
  rintro v1 S1 h1 ⟨rfl, rfl, f1, hf1, rfl⟩
  show T a 5 mX1_find 8 [(0, rv a 35)] [] S (hs h 36 f1) _
  refine tr_aload_n (pc := 8) 0 dX1_find_8 rfl rfl ?_
  refine tr_getR (pc := 9) (q := 37) dX1_find_9 (hS.1 35 (4, 6) rfl) fi_X1_15 rfl (hS.2 35 3 37 rfl) ?_
  refine tr_iconst (pc := 12) (v := nI 0) dX1_find_12 (by decide) ?_
  refine tr_callS (pc := 13) (rest := []) dX1_find_13 ml_X1_38 cs_J7_fill_53178 rfl rfl (Nat.le_of_ble_eq_true rfl) (by decide) (c_fill (hS.1 37 _ rfl) (by decide)) ?_
  rintro v1 S1 h1 ⟨rfl, rfl, f2, hf2, rfl⟩
  show T a 5 mX1_find 16 [(0, rv a 35)] [] S (hs (hs h 36 f1) 37 f2) _
  refine tr_aload_n (pc := 16) 0 dX1_find_16 rfl rfl ?_
  refine tr_iconst (pc := 17) (v := nI 0) dX1_find_17 (by decide) ?_
  refine tr_putI (pc := 18) (x := nI 0) dX1_find_18 (hS.1 35 (4, 6) rfl) fi_X1_30 rfl rfl rfl ?_
  refine tr_aload_n (pc := 21) 0 dX1_find_21 rfl rfl ?_
  refine tr_iconst (pc := 22) (v := nI 1) dX1_find_22 (by decide) ?_
  refine tr_putI (pc := 23) (x := nI 1) dX1_find_23 (hS.1 35 (4, 6) rfl) fi_X1_44 rfl (by decide) (by decide) ?_
  refine tr_iconst (pc := 26) (v := nI 0) dX1_find_26 (by decide) ?_
  refine tr_istore_n (pc := 27) (lv' := [(1, .int (nI 0)), (0, rv a 35)]) dX1_find_27 rfl (by decide) rfl ?_
  refine tr_sub (pc := 28) (lv' := [(0, rv a 35), (1, .int (nI 0))]) [1, 0] rfl ?_
  have L28 : ∀ (fu : Nat) (k : Nat) (Z : ZV) (h1 : Hp), 1570 - k < fu → k ≤ 1569 → RI P k Z → MG h1 Z → Fr [35, 36, 37] h h1 → T a 5 mX1_find 28 [(0, rv a 35), (1, .int (nI k))] [] S h1 (fun v S' h' => v = none ∧ S = S' ∧ MC h' (mayV P) ∧ Fr [35, 36, 37] h h') := by
    intro fu
    induction fu with
    | zero => intro k Z h1 hu hk hR hM hf; omega
    | succ fu ih =>
      intro k Z h1 hu hk hR hM hf
      refine tr_iload_n (pc := 28) 1 dX1_find_28 rfl rfl ?_
      refine tr_sipush (pc := 29) (v := nI 1569) dX1_find_29 (by decide) ?_
      refine tr_icmp_ge (pc := 32) (tgt := 98) dX1_find_32 (by decide) (nI_leI (by omega) (by omega)) (fun q32 => ?_) (fun q32 => ?_)
      · skip
        exact tr_vret (pc := 98) dX1_find_98 rfl (by
            have hg : Z.2 = false := by
              cases hg : Z.2 with
              | false => rfl
              | true => have := ri_lt hR hg; omega
            exact ⟨rfl, rfl, by rw [← ri_end hR hk hg]; exact hM.1, hf⟩)
      · skip
        refine tr_aload_n (pc := 35) 0 dX1_find_35 rfl rfl ?_
        refine tr_getI (pc := 36) (x := bI Z.2) dX1_find_36 (hS.1 35 (4, 6) rfl) fi_X1_44 rfl hM.2 ?_
        refine tr_if_eq (pc := 39) (tgt := 98) dX1_find_39 (by decide) Iff.rfl (fun q39 => ?_) (fun q39 => ?_)
        · skip
          exact tr_vret (pc := 98) dX1_find_98 rfl (by
              have hg : Z.2 = false := by
                cases hg : Z.2 with
                | false => rfl
                | true => rw [hg] at q39; exact absurd q39 (by decide)
              exact ⟨rfl, rfl, by rw [← ri_end hR hk hg]; exact hM.1, hf⟩)
        · skip
          have hg : Z.2 = true := by
            cases hg : Z.2 with
            | true => rfl
            | false => rw [hg] at q39; exact absurd rfl q39
          have hM0 : MG (hs h1 35 (upd (h1 35) 5 (nI 0))) (methsZ P (Z.1, false) 0) := ⟨hM.1, rfl⟩
          refine tr_aload_n (pc := 42) 0 dX1_find_42 rfl rfl ?_
          refine tr_iconst (pc := 43) (v := nI 0) dX1_find_43 (by decide) ?_
          refine tr_putI (pc := 44) (x := nI 0) dX1_find_44 (hS.1 35 (4, 6) rfl) fi_X1_44 rfl (by decide) (by decide) ?_
          refine tr_iconst (pc := 47) (v := nI 0) dX1_find_47 (by decide) ?_
          refine tr_istore_n (pc := 48) (lv' := [(2, .int (nI 0)), (0, rv a 35), (1, .int (nI k))]) dX1_find_48 rfl (by decide) rfl ?_
          refine tr_sub (pc := 49) (lv' := [(0, rv a 35), (1, .int (nI k)), (2, .int (nI 0))]) [1, 2, 0] rfl ?_
          have L49 : ∀ (fu : Nat) (m : Nat) (h2 : Hp), P.length - m < fu → m ≤ P.length → MG h2 (methsZ P (Z.1, false) m) → Fr [35, 36, 37] h h2 → T a 5 mX1_find 49 [(0, rv a 35), (1, .int (nI k)), (2, .int (nI m))] [] S h2 (fun v S' h' => v = none ∧ S = S' ∧ MC h' (mayV P) ∧ Fr [35, 36, 37] h h') := by
            intro fu
            induction fu with
            | zero => intro m h2 hu2 hm hM2 hf2; omega
            | succ fu ih2 =>
              intro m h2 hu2 hm hM2 hf2
              have hMP2 : MP h2 3 P := hMP.fr hf2 (by decide) (by decide) (by decide)
              refine tr_iload_n (pc := 49) 2 dX1_find_49 rfl rfl ?_
              refine tr_aload_n (pc := 50) 0 dX1_find_50 rfl rfl ?_
              refine tr_getR (pc := 51) (q := 3) dX1_find_51 (hS.1 35 (4, 6) rfl) fi_X1_18 rfl (hS.2 35 0 3 rfl) ?_
              refine tr_callV (pc := 54) (rest := [.int (nI m)]) (ci := 2) dX1_find_54 ml_X1_48 cv_X2_count rfl rfl (Nat.le_of_ble_eq_true rfl) (hS.1 3 (5, 3) rfl) rfl (by decide) (c_count hO hMP2 hV) ?_
              rintro _ _ _ ⟨rfl, rfl, rfl⟩
              show T a 5 mX1_find 57 [(0, rv a 35), (1, .int (nI k)), (2, .int (nI m))] [.int (nI P.length), .int (nI m)] S h2 _
              refine tr_icmp_ge (pc := 57) (tgt := 92) dX1_find_57 (by decide) (nI_leI (by omega) (by omega)) (fun q57 => ?_) (fun q57 => ?_)
              · skip
                refine tr_iinc (pc := 92) (v := nI (k + 1)) (lv' := [(1, .int (nI (k + 1))), (0, rv a 35), (2, .int (nI m))]) 1 dX1_find_92 rfl (by rw [show Int32.ofInt 1 = nI 1 from by decide, nI_add]) (by decide) rfl ?_
                refine tr_goto (pc := 95) (tgt := 28) dX1_find_95 (by decide) ?_
                refine tr_sub (pc := 28) (lv' := [(0, rv a 35), (1, .int (nI (k + 1)))]) [1, 0] rfl ?_
                exact ih (k + 1) (roundZ P Z.1) h2 (by omega) (by omega) (ri_s hVP hR hg) (by rw [show m = P.length by omega] at hM2; exact hM2) hf2
              · skip
                have h8 := hV2 m
                refine tr_iconst (pc := 60) (v := nI 0) dX1_find_60 (by decide) ?_
                refine tr_istore_n (pc := 61) (lv' := [(3, .int (nI 0)), (0, rv a 35), (1, .int (nI k)), (2, .int (nI m))]) dX1_find_61 rfl (by decide) rfl ?_
                refine tr_sub (pc := 62) (lv' := [(0, rv a 35), (1, .int (nI k)), (2, .int (nI m)), (3, .int (nI 0))]) [1, 2, 3, 0] rfl ?_
                have L62 : ∀ (fu : Nat) (i : Nat) (h3 : Hp), lnN P m - i < fu → i ≤ lnN P m → MG h3 (linesZ P (methsZ P (Z.1, false) m) m i) → Fr [35, 36, 37] h h3 → T a 5 mX1_find 62 [(0, rv a 35), (1, .int (nI k)), (2, .int (nI m)), (3, .int (nI i))] [] S h3 (fun v S' h' => v = none ∧ S = S' ∧ MC h' (mayV P) ∧ Fr [35, 36, 37] h h') := by
                  intro fu
                  induction fu with
                  | zero => intro i h3 hu3 hi hM3 hf3; omega
                  | succ fu ih3 =>
                    intro i h3 hu3 hi hM3 hf3
                    have hMP3 : MP h3 3 P := hMP.fr hf3 (by decide) (by decide) (by decide)
                    have hC3 : SC h3 P := hC.fr hf3 (by decide) (by decide) (by decide) (by decide)
                    refine tr_iload_n (pc := 62) 3 dX1_find_62 rfl rfl ?_
                    refine tr_aload_n (pc := 63) 0 dX1_find_63 rfl rfl ?_
                    refine tr_getR (pc := 64) (q := 3) dX1_find_64 (hS.1 35 (4, 6) rfl) fi_X1_18 rfl (hS.2 35 0 3 rfl) ?_
                    refine tr_iload_n (pc := 67) 2 dX1_find_67 rfl rfl ?_
                    refine tr_callV (pc := 68) (rest := [.int (nI i)]) (ci := 2) dX1_find_68 ml_X1_54 cv_X2_lines rfl rfl (Nat.le_of_ble_eq_true rfl) (hS.1 3 (5, 3) rfl) rfl (by decide) (c_lines_in hO hMP3 hV (by omega)) ?_
                    rintro _ _ _ ⟨rfl, rfl, rfl⟩
                    show T a 5 mX1_find 71 [(0, rv a 35), (1, .int (nI k)), (2, .int (nI m)), (3, .int (nI i))] [.int (nI (lnN P m)), .int (nI i)] S h3 _
                    refine tr_icmp_ge (pc := 71) (tgt := 86) dX1_find_71 (by decide) (nI_leI (by omega) (by omega)) (fun q71 => ?_) (fun q71 => ?_)
                    · skip
                      refine tr_iinc (pc := 86) (v := nI (m + 1)) (lv' := [(2, .int (nI (m + 1))), (0, rv a 35), (1, .int (nI k)), (3, .int (nI i))]) 2 dX1_find_86 rfl (by rw [show Int32.ofInt 1 = nI 1 from by decide, nI_add]) (by decide) rfl ?_
                      refine tr_goto (pc := 89) (tgt := 49) dX1_find_89 (by decide) ?_
                      refine tr_sub (pc := 49) (lv' := [(0, rv a 35), (1, .int (nI k)), (2, .int (nI (m + 1)))]) [1, 2, 0] rfl ?_
                      exact ih2 (m + 1) h3 (by omega) (by omega) (by rw [show i = lnN P m by omega] at hM3; exact hM3) hf3
                    · skip
                      refine tr_aload_n (pc := 74) 0 dX1_find_74 rfl rfl ?_
                      refine tr_iload_n (pc := 75) 2 dX1_find_75 rfl rfl ?_
                      refine tr_iload_n (pc := 76) 3 dX1_find_76 rfl rfl ?_
                      refine tr_callV (pc := 77) (rest := []) (ci := 1) dX1_find_77 ml_X1_57 cv_X1_addByLine rfl rfl (Nat.le_of_ble_eq_true rfl) (hS.1 35 (4, 6) rfl) rfl (by decide) (c_addByLine hS hVP hMP3 hC3 hM3 (Nat.lt_of_not_le q71)) ?_
                      rintro v1 S1 h4 ⟨rfl, rfl, hM4, hf4⟩
                      show T a 5 mX1_find 80 [(0, rv a 35), (1, .int (nI k)), (2, .int (nI m)), (3, .int (nI i))] [] S h4 _
                      refine tr_iinc (pc := 80) (v := nI (i + 1)) (lv' := [(3, .int (nI (i + 1))), (0, rv a 35), (1, .int (nI k)), (2, .int (nI m))]) 3 dX1_find_80 rfl (by rw [show Int32.ofInt 1 = nI 1 from by decide, nI_add]) (by decide) rfl ?_
                      refine tr_goto (pc := 83) (tgt := 62) dX1_find_83 (by decide) ?_
                      refine tr_sub (pc := 62) (lv' := [(0, rv a 35), (1, .int (nI k)), (2, .int (nI m)), (3, .int (nI (i + 1)))]) [1, 2, 3, 0] rfl ?_
                      exact ih3 (i + 1) h4 (by omega) (by omega) hM4 (hf3.trans hf4)
                exact L62 (lnN P m + 1) 0 h2 (by omega) (by omega) hM2 hf2
          exact L49 (P.length + 1) 0 _ (by omega) (by omega) hM0 (hf.hs (by decide))
  exact L28 1571 0 (fun _ => nI 0, true) _ (by omega) (by omega) ri_0 ⟨⟨fun k hk => hf1 k hk, rfl, fun s hs => hf2 s hs⟩, rfl⟩ ((((Fr.rf.hs (by decide)).hs (by decide)).hs (by decide)).hs (by decide))

set_option maxHeartbeats 4000000 in
set_option maxRecDepth 100000 in
theorem c_reach {a : Am} {S : St} {h : Hp} (hS : IsSt S) {P : Prog} (hV : VB P) {V : Nat → Int32} (hM : MC h V) (hC : SC h P) {x : Int32} : CT a 2 mX1_reachedFrom [rv a 35, .int x] S h (Rt (rch V (nSt P) x) S h) := by
  obtain ⟨hV1, hV2, hV3⟩ := id hV
  have hns := nSt_le hV
  refine met_of (by decide +kernel) (Nat.le_of_ble_eq_true rfl) ?_
  show T a 2 mX1_reachedFrom 0 [(0, rv a 35), (1, .int x)] [] S h _
  refine tr_iload_n (pc := 0) 1 dX1_reachedFrom_0 rfl rfl ?_
  refine tr_istore_n (pc := 1) (lv' := [(2, .int x), (0, rv a 35), (1, .int x)]) dX1_reachedFrom_1 rfl (by decide) rfl ?_
  refine tr_iconst (pc := 2) (v := nI 0) dX1_reachedFrom_2 (by decide) ?_
  refine tr_istore_n (pc := 3) (lv' := [(3, .int (nI 0)), (2, .int x), (0, rv a 35), (1, .int x)]) dX1_reachedFrom_3 rfl (by decide) rfl ?_
  refine tr_iconst (pc := 4) (v := nI 0) dX1_reachedFrom_4 (by decide) ?_
  refine tr_istore (pc := 5) (lv' := [(4, .int (nI 0)), (3, .int (nI 0)), (2, .int x), (0, rv a 35), (1, .int x)]) dX1_reachedFrom_5 (by decide) rfl ?_
  refine tr_sub (pc := 7) (lv' := [(0, rv a 35), (2, .int x), (3, .int (nI 0)), (4, .int (nI 0))]) [3, 2, 1, 0] rfl ?_
  have L7 : ∀ (fu : Nat) (k : Nat) (y z : Int32), 33 - k < fu → k ≤ 33 → RLq V (nSt P) x k y z → T a 2 mX1_reachedFrom 7 [(0, rv a 35), (2, .int y), (3, .int z), (4, .int (nI k))] [] S h (Rt (rch V (nSt P) x) S h) := by
    intro fu
    induction fu with
    | zero => intro k y z hu hk hR; omega
    | succ fu ih =>
      intro k y z hu hk hR
      refine tr_iload (pc := 7) 3 dX1_reachedFrom_7 rfl ?_
      refine tr_bipush (pc := 9) (v := nI 32) dX1_reachedFrom_9 (by decide) ?_
      refine tr_icmp_gt (pc := 11) (tgt := 35) dX1_reachedFrom_11 (by decide) (nI_ltI (by omega) (by omega)) (fun q11 => ?_) (fun q11 => ?_)
      · skip
        refine tr_iload_n (pc := 35) 1 dX1_reachedFrom_35 rfl rfl ?_
        exact tr_iret (pc := 36) dX1_reachedFrom_36 rfl rfl (⟨by rw [hR.1, show k = 33 by omega]; rfl, rfl, rfl⟩)
      · skip
        refine tr_iload_n (pc := 14) 1 dX1_reachedFrom_14 rfl rfl ?_
        refine tr_iload_n (pc := 15) 2 dX1_reachedFrom_15 rfl rfl ?_
        refine tr_icmp_eq (pc := 16) (tgt := 35) dX1_reachedFrom_16 (by decide) Iff.rfl (fun q16 => ?_) (fun q16 => ?_)
        · skip
          refine tr_iload_n (pc := 35) 1 dX1_reachedFrom_35 rfl rfl ?_
          exact tr_iret (pc := 36) dX1_reachedFrom_36 rfl rfl (⟨by rw [rl_eq hns hR hk q16], rfl, rfl⟩)
        · skip
          refine tr_iload_n (pc := 19) 1 dX1_reachedFrom_19 rfl rfl ?_
          refine tr_istore_n (pc := 20) (lv' := [(3, .int y), (0, rv a 35), (2, .int y), (4, .int (nI k))]) dX1_reachedFrom_20 rfl (by decide) rfl ?_
          refine tr_iload_n (pc := 21) 2 dX1_reachedFrom_21 rfl rfl ?_
          refine tr_aload_n (pc := 22) 1 dX1_reachedFrom_22 rfl rfl ?_
          refine tr_iload_n (pc := 23) 2 dX1_reachedFrom_23 rfl rfl ?_
          refine tr_callV (pc := 24) (rest := [.int y]) (ci := 1) dX1_reachedFrom_24 ml_X1_34 cv_X1_inFields rfl rfl (Nat.le_of_ble_eq_true rfl) (hS.1 35 (4, 6) rfl) rfl (by decide) (c_inFields hS hV hM hC) ?_
          rintro _ _ _ ⟨rfl, rfl, rfl⟩
          show T a 2 mX1_reachedFrom 27 [(3, .int y), (0, rv a 35), (2, .int y), (4, .int (nI k))] [.int (flds V y (nSt P)), .int y] S h _
          refine tr_ior (pc := 27) (v := y ||| (flds V y (nSt P))) dX1_reachedFrom_27 rfl ?_
          refine tr_istore_n (pc := 28) (lv' := [(2, .int (y ||| (flds V y (nSt P)))), (3, .int y), (0, rv a 35), (4, .int (nI k))]) dX1_reachedFrom_28 rfl (by decide) rfl ?_
          refine tr_iinc (pc := 29) (v := nI (k + 1)) (lv' := [(4, .int (nI (k + 1))), (2, .int (y ||| (flds V y (nSt P)))), (3, .int y), (0, rv a 35)]) 3 dX1_reachedFrom_29 rfl (by rw [show Int32.ofInt 1 = nI 1 from by decide, nI_add]) (by decide) rfl ?_
          refine tr_goto (pc := 32) (tgt := 7) dX1_reachedFrom_32 (by decide) ?_
          refine tr_sub (pc := 7) (lv' := [(0, rv a 35), (2, .int (y ||| (flds V y (nSt P)))), (3, .int y), (4, .int (nI (k + 1)))]) [3, 1, 2, 0] rfl ?_
          exact ih (k + 1) _ _ (by omega) (by omega) (rl_s hR)
  exact L7 34 0 x (nI 0) (by omega) (by omega) ⟨rfl, Or.inl ⟨rfl, rfl⟩⟩

/-! ===== the reference: MAY ===== -/
def MN (h : Hp) (Z : ZV) : Prop := (∀ k, k < 49 → h 61 k = Z.1 k) ∧ h 50 22 = bI Z.2
theorem MN.fm {Fs L : List Nat} {h h' : Hp} {Z : ZV} (hN : MN h Z) (k : Fm Fs L h h') (h0 : 22 ∉ Fs) (h1 : 61 ∉ L) : MN h' Z := by
  unfold MN
  rw [k.1 61 (by decide) h1, k.2 22 h0]
  exact hN
theorem mn_add {h : Hp} {Z : ZV} {k : Nat} {x : Int32} (hM : ∀ k, k < 49 → h 61 k = Z.1 k) (hk : k < 49) {h1 : Hp} (e1 : h1 61 = upd (h 61) k (Z.1 k ||| x)) (e2 : h1 50 22 = bI (Z.2 || decide (¬ Z.1 k ||| x = Z.1 k))) : MN h1 (adZ Z k x) := by
  refine ⟨fun j hj => ?_, e2⟩
  rw [e1]
  show _ = upd Z.1 k _ j
  by_cases e : j = k
  · subst e; rw [upd_s, upd_s]
  · rw [upd_n e, upd_n e]; exact hM j hj
set_option maxHeartbeats 4000000 in
set_option maxRecDepth 100000 in
theorem c_madd {a : Am} {S : St} {h : Hp} (hS : IsSt S) {Z : ZV} (hM : MN h Z) {k : Nat} (hk : k < 49) {y : Int32} : CT a 0 mX10_add [rv a 50, .int (nI k), .int y] S h (fun v S' h' => v = none ∧ S = S' ∧ MN h' (adZ Z k y) ∧ Fm [22] [61] h h') := by
  refine met_of (by decide +kernel) (Nat.le_of_ble_eq_true rfl) ?_
  show T a 0 mX10_add 0 [(0, rv a 50), (1, .int (nI k)), (2, .int y)] [] S h _
  refine tr_aload_n (pc := 0) 0 dX10_add_0 rfl rfl ?_
  refine tr_aload_n (pc := 1) 0 dX10_add_1 rfl rfl ?_
  refine tr_getI (pc := 2) (x := bI Z.2) dX10_add_2 (hS.1 50 (13, 45) rfl) fi_X10_182 rfl hM.2 ?_
  refine tr_if_ne (pc := 5) (tgt := 25) dX10_add_5 (by decide) Iff.rfl (fun q5 => ?_) (fun q5 => ?_)
  · skip
    refine tr_iconst (pc := 25) (v := nI 1) dX10_add_25 (by decide) ?_
    refine tr_goto (pc := 26) (tgt := 30) dX10_add_26 (by decide) ?_
    refine tr_putI (pc := 30) (x := nI 1) dX10_add_30 (hS.1 50 (13, 45) rfl) fi_X10_182 rfl (by decide) (by decide) ?_
    refine tr_aload_n (pc := 33) 0 dX10_add_33 rfl rfl ?_
    refine tr_getR (pc := 34) (q := 61) dX10_add_34 (hS.1 50 (13, 45) rfl) fi_X10_40 rfl (hS.2 50 21 61 rfl) ?_
    refine tr_iload_n (pc := 37) 1 dX10_add_37 rfl rfl ?_
    refine tr_dup2 (pc := 38) dX10_add_38 rfl rfl ?_
    refine tr_iald (pc := 39) (v := Z.1 k) k dX10_add_39 (hS.1 61 (0, 49) rfl) rfl (by omega) (by decide) (hM.1 k hk) ?_
    refine tr_iload_n (pc := 40) 2 dX10_add_40 rfl rfl ?_
    refine tr_ior (pc := 41) (v := (Z.1 k) ||| y) dX10_add_41 rfl ?_
    refine tr_iast (pc := 42) k dX10_add_42 (hS.1 61 (0, 49) rfl) rfl (by omega) (by decide) ?_
    exact tr_vret (pc := 43) dX10_add_43 rfl (⟨rfl, rfl, mn_add hM.1 hk rfl (by rw [show (Z.2 || decide (¬ Z.1 k ||| y = Z.1 k)) = true by rw [bz_t q5]; rfl]; rfl), (Fm.rf.put (by decide)).set (by decide) (by decide)⟩)
  · skip
    refine tr_aload_n (pc := 8) 0 dX10_add_8 rfl rfl ?_
    refine tr_getR (pc := 9) (q := 61) dX10_add_9 (hS.1 50 (13, 45) rfl) fi_X10_40 rfl (hS.2 50 21 61 rfl) ?_
    refine tr_iload_n (pc := 12) 1 dX10_add_12 rfl rfl ?_
    refine tr_iald (pc := 13) (v := Z.1 k) k dX10_add_13 (hS.1 61 (0, 49) rfl) rfl (by omega) (by decide) (hM.1 k hk) ?_
    refine tr_iload_n (pc := 14) 2 dX10_add_14 rfl rfl ?_
    refine tr_ior (pc := 15) (v := (Z.1 k) ||| y) dX10_add_15 rfl ?_
    refine tr_aload_n (pc := 16) 0 dX10_add_16 rfl rfl ?_
    refine tr_getR (pc := 17) (q := 61) dX10_add_17 (hS.1 50 (13, 45) rfl) fi_X10_40 rfl (hS.2 50 21 61 rfl) ?_
    refine tr_iload_n (pc := 20) 1 dX10_add_20 rfl rfl ?_
    refine tr_iald (pc := 21) (v := Z.1 k) k dX10_add_21 (hS.1 61 (0, 49) rfl) rfl (by omega) (by decide) (hM.1 k hk) ?_
    refine tr_icmp_eq (pc := 22) (tgt := 29) dX10_add_22 (by decide) Iff.rfl (fun q22 => ?_) (fun q22 => ?_)
    · skip
      refine tr_iconst (pc := 29) (v := nI 0) dX10_add_29 (by decide) ?_
      refine tr_putI (pc := 30) (x := nI 0) dX10_add_30 (hS.1 50 (13, 45) rfl) fi_X10_182 rfl (by decide) (by decide) ?_
      refine tr_aload_n (pc := 33) 0 dX10_add_33 rfl rfl ?_
      refine tr_getR (pc := 34) (q := 61) dX10_add_34 (hS.1 50 (13, 45) rfl) fi_X10_40 rfl (hS.2 50 21 61 rfl) ?_
      refine tr_iload_n (pc := 37) 1 dX10_add_37 rfl rfl ?_
      refine tr_dup2 (pc := 38) dX10_add_38 rfl rfl ?_
      refine tr_iald (pc := 39) (v := Z.1 k) k dX10_add_39 (hS.1 61 (0, 49) rfl) rfl (by omega) (by decide) (hM.1 k hk) ?_
      refine tr_iload_n (pc := 40) 2 dX10_add_40 rfl rfl ?_
      refine tr_ior (pc := 41) (v := (Z.1 k) ||| y) dX10_add_41 rfl ?_
      refine tr_iast (pc := 42) k dX10_add_42 (hS.1 61 (0, 49) rfl) rfl (by omega) (by decide) ?_
      exact tr_vret (pc := 43) dX10_add_43 rfl (⟨rfl, rfl, mn_add hM.1 hk rfl (by rw [show (Z.2 || decide (¬ Z.1 k ||| y = Z.1 k)) = false by rw [bz_f q5]; simp [q22]]; rfl), (Fm.rf.put (by decide)).set (by decide) (by decide)⟩)
    · skip
      refine tr_iconst (pc := 25) (v := nI 1) dX10_add_25 (by decide) ?_
      refine tr_goto (pc := 26) (tgt := 30) dX10_add_26 (by decide) ?_
      refine tr_putI (pc := 30) (x := nI 1) dX10_add_30 (hS.1 50 (13, 45) rfl) fi_X10_182 rfl (by decide) (by decide) ?_
      refine tr_aload_n (pc := 33) 0 dX10_add_33 rfl rfl ?_
      refine tr_getR (pc := 34) (q := 61) dX10_add_34 (hS.1 50 (13, 45) rfl) fi_X10_40 rfl (hS.2 50 21 61 rfl) ?_
      refine tr_iload_n (pc := 37) 1 dX10_add_37 rfl rfl ?_
      refine tr_dup2 (pc := 38) dX10_add_38 rfl rfl ?_
      refine tr_iald (pc := 39) (v := Z.1 k) k dX10_add_39 (hS.1 61 (0, 49) rfl) rfl (by omega) (by decide) (hM.1 k hk) ?_
      refine tr_iload_n (pc := 40) 2 dX10_add_40 rfl rfl ?_
      refine tr_ior (pc := 41) (v := (Z.1 k) ||| y) dX10_add_41 rfl ?_
      refine tr_iast (pc := 42) k dX10_add_42 (hS.1 61 (0, 49) rfl) rfl (by omega) (by decide) ?_
      exact tr_vret (pc := 43) dX10_add_43 rfl (⟨rfl, rfl, mn_add hM.1 hk rfl (by rw [show (Z.2 || decide (¬ Z.1 k ||| y = Z.1 k)) = true by simp [q22]]; rfl), (Fm.rf.put (by decide)).set (by decide) (by decide)⟩)

set_option maxHeartbeats 4000000 in
set_option maxRecDepth 100000 in
theorem c_mhas_y {a : Am} {S : St} {h : Hp} {x : Int32} {s : Nat} (ht : tb x s = true) : CT a 0 mX10_has [.int x, .int (nI s)] S h (Rt (nI 1) S h) := by
  refine met_of (by decide +kernel) (Nat.le_of_ble_eq_true rfl) ?_
  show T a 0 mX10_has 0 [(0, .int x), (1, .int (nI s))] [] S h _
  refine tr_iload_n (pc := 0) 0 dX10_has_0 rfl rfl ?_
  refine tr_iload_n (pc := 1) 1 dX10_has_1 rfl rfl ?_
  refine tr_ishr (pc := 2) (v := x >>> (nI s &&& 31)) dX10_has_2 rfl ?_
  refine tr_iconst (pc := 3) (v := nI 1) dX10_has_3 (by decide) ?_
  refine tr_iand (pc := 4) (v := (x >>> (nI s &&& 31)) &&& (nI 1)) dX10_has_4 rfl ?_
  refine tr_iconst (pc := 5) (v := nI 1) dX10_has_5 (by decide) ?_
  refine tr_icmp_ne (pc := 6) (tgt := 13) dX10_has_6 (by decide) Iff.rfl (fun hcc => absurd (of_decide_eq_true ht) hcc) (fun _ => ?_)
  refine tr_iconst (pc := 9) (v := nI 1) dX10_has_9 (by decide) ?_
  refine tr_goto (pc := 10) (tgt := 14) dX10_has_10 (by decide) ?_
  exact tr_iret (pc := 14) dX10_has_14 rfl (by decide) (⟨rfl, rfl, rfl⟩)

set_option maxHeartbeats 4000000 in
set_option maxRecDepth 100000 in
theorem c_mhas_n {a : Am} {S : St} {h : Hp} {x : Int32} {s : Nat} (ht : tb x s = false) : CT a 0 mX10_has [.int x, .int (nI s)] S h (Rt (nI 0) S h) := by
  refine met_of (by decide +kernel) (Nat.le_of_ble_eq_true rfl) ?_
  show T a 0 mX10_has 0 [(0, .int x), (1, .int (nI s))] [] S h _
  refine tr_iload_n (pc := 0) 0 dX10_has_0 rfl rfl ?_
  refine tr_iload_n (pc := 1) 1 dX10_has_1 rfl rfl ?_
  refine tr_ishr (pc := 2) (v := x >>> (nI s &&& 31)) dX10_has_2 rfl ?_
  refine tr_iconst (pc := 3) (v := nI 1) dX10_has_3 (by decide) ?_
  refine tr_iand (pc := 4) (v := (x >>> (nI s &&& 31)) &&& (nI 1)) dX10_has_4 rfl ?_
  refine tr_iconst (pc := 5) (v := nI 1) dX10_has_5 (by decide) ?_
  refine tr_icmp_ne (pc := 6) (tgt := 13) dX10_has_6 (by decide) Iff.rfl (fun _ => ?_) (fun hcc => absurd hcc (of_decide_eq_false ht))
  refine tr_iconst (pc := 13) (v := nI 0) dX10_has_13 (by decide) ?_
  exact tr_iret (pc := 14) dX10_has_14 rfl (by decide) (⟨rfl, rfl, rfl⟩)

set_option maxHeartbeats 4000000 in
set_option maxRecDepth 100000 in
theorem c_mfields {a : Am} {S : St} {h : Hp} (hS : IsSt S) {P : Prog} (hV : VB P) (hSN : SN h P) {Z : ZV} (hM : MN h Z) {x : Int32} : CT a 1 mX10_fields [rv a 50, .int x] S h (Rt (flds Z.1 x (nSt P)) S h) := by
  obtain ⟨hV1, hV2, hV3⟩ := id hV
  have hns := nSt_le hV
  refine met_of (by decide +kernel) (Nat.le_of_ble_eq_true rfl) ?_
  show T a 1 mX10_fields 0 [(0, rv a 50), (1, .int x)] [] S h _
  refine tr_iconst (pc := 0) (v := nI 0) dX10_fields_0 (by decide) ?_
  refine tr_istore_n (pc := 1) (lv' := [(2, .int (nI 0)), (0, rv a 50), (1, .int x)]) dX10_fields_1 rfl (by decide) rfl ?_
  refine tr_iconst (pc := 2) (v := nI 0) dX10_fields_2 (by decide) ?_
  refine tr_istore_n (pc := 3) (lv' := [(3, .int (nI 0)), (2, .int (nI 0)), (0, rv a 50), (1, .int x)]) dX10_fields_3 rfl (by decide) rfl ?_
  refine tr_sub (pc := 4) (lv' := [(0, rv a 50), (1, .int x), (2, .int (nI 0)), (3, .int (nI 0))]) [2, 3, 1, 0] rfl ?_
  have L4 : ∀ (fu : Nat) (s : Nat), nSt P - s < fu → s ≤ nSt P → T a 1 mX10_fields 4 [(0, rv a 50), (1, .int x), (2, .int (flds Z.1 x s)), (3, .int (nI s))] [] S h (Rt (flds Z.1 x (nSt P)) S h) := by
    intro fu
    induction fu with
    | zero => intro s hu hs; omega
    | succ fu ih =>
      intro s hu hs
      refine tr_iload_n (pc := 4) 3 dX10_fields_4 rfl rfl ?_
      refine tr_aload_n (pc := 5) 0 dX10_fields_5 rfl rfl ?_
      refine tr_getI (pc := 6) (x := nI (nSt P)) dX10_fields_6 (hS.1 50 (13, 45) rfl) fi_X10_175 rfl hSN.1 ?_
      refine tr_icmp_ge (pc := 9) (tgt := 42) dX10_fields_9 (by decide) (nI_leI (by omega) (by omega)) (fun q9 => ?_) (fun q9 => ?_)
      · skip
        refine tr_iload_n (pc := 42) 2 dX10_fields_42 rfl rfl ?_
        exact tr_iret (pc := 43) dX10_fields_43 rfl rfl (by
            rw [show nSt P = s by omega]; exact ⟨rfl, rfl, rfl⟩)
      · skip
        refine tr_iload_n (pc := 12) 2 dX10_fields_12 rfl rfl ?_
        refine tr_iload_n (pc := 13) 1 dX10_fields_13 rfl rfl ?_
        refine tr_iload_n (pc := 14) 3 dX10_fields_14 rfl rfl ?_
        cases ht : tb x s with
        | true => ?_
        | false => ?_
        · skip
          refine tr_callS (pc := 15) (rest := [.int (flds Z.1 x s)]) dX10_fields_15 ml_X10_186 cs_X10_has rfl rfl (Nat.le_of_ble_eq_true rfl) (by decide) (c_mhas_y ht) ?_
          rintro _ _ _ ⟨rfl, rfl, rfl⟩
          show T a 1 mX10_fields 18 [(0, rv a 50), (1, .int x), (2, .int (flds Z.1 x s)), (3, .int (nI s))] [.int (nI 1), .int (flds Z.1 x s)] S h _
          refine tr_if_eq (pc := 18) (tgt := 33) dX10_fields_18 (by decide) (nI_z_eq (by omega)) (fun hcc => absurd hcc (by decide)) (fun _ => ?_)
          refine tr_aload_n (pc := 21) 0 dX10_fields_21 rfl rfl ?_
          refine tr_getR (pc := 22) (q := 61) dX10_fields_22 (hS.1 50 (13, 45) rfl) fi_X10_40 rfl (hS.2 50 21 61 rfl) ?_
          refine tr_bipush (pc := 25) (v := nI 17) dX10_fields_25 (by decide) ?_
          refine tr_iload_n (pc := 27) 3 dX10_fields_27 rfl rfl ?_
          refine tr_iadd (pc := 28) (v := nI (17 + s)) dX10_fields_28 (nI_add _ _) ?_
          refine tr_iald (pc := 29) (v := Z.1 (17 + s)) (17 + s) dX10_fields_29 (hS.1 61 (0, 49) rfl) rfl (by omega) (by decide) (hM.1 (17 + s) (by omega)) ?_
          refine tr_goto (pc := 30) (tgt := 34) dX10_fields_30 (by decide) ?_
          refine tr_ior (pc := 34) (v := (flds Z.1 x s) ||| (Z.1 (17 + s))) dX10_fields_34 rfl ?_
          refine tr_istore_n (pc := 35) (lv' := [(2, .int ((flds Z.1 x s) ||| (Z.1 (17 + s)))), (0, rv a 50), (1, .int x), (3, .int (nI s))]) dX10_fields_35 rfl (by decide) rfl ?_
          refine tr_iinc (pc := 36) (v := nI (s + 1)) (lv' := [(3, .int (nI (s + 1))), (2, .int ((flds Z.1 x s) ||| (Z.1 (17 + s)))), (0, rv a 50), (1, .int x)]) 3 dX10_fields_36 rfl (by rw [show Int32.ofInt 1 = nI 1 from by decide, nI_add]) (by decide) rfl ?_
          refine tr_goto (pc := 39) (tgt := 4) dX10_fields_39 (by decide) ?_
          refine tr_sub (pc := 4) (lv' := [(0, rv a 50), (1, .int x), (2, .int ((flds Z.1 x s) ||| (Z.1 (17 + s)))), (3, .int (nI (s + 1)))]) [2, 3, 1, 0] rfl ?_
          have e1 : (flds Z.1 x s) ||| (Z.1 (17 + s)) = flds Z.1 x (s + 1) := by simp only [flds]; rw [ht]; simp
          rw [e1]
          exact ih (s + 1) (by omega) (by omega)
        · skip
          refine tr_callS (pc := 15) (rest := [.int (flds Z.1 x s)]) dX10_fields_15 ml_X10_186 cs_X10_has rfl rfl (Nat.le_of_ble_eq_true rfl) (by decide) (c_mhas_n ht) ?_
          rintro _ _ _ ⟨rfl, rfl, rfl⟩
          show T a 1 mX10_fields 18 [(0, rv a 50), (1, .int x), (2, .int (flds Z.1 x s)), (3, .int (nI s))] [.int (nI 0), .int (flds Z.1 x s)] S h _
          refine tr_if_eq (pc := 18) (tgt := 33) dX10_fields_18 (by decide) (nI_z_eq (by omega)) (fun _ => ?_) (fun hcc => absurd (by decide) hcc)
          refine tr_iconst (pc := 33) (v := nI 0) dX10_fields_33 (by decide) ?_
          refine tr_ior (pc := 34) (v := (flds Z.1 x s) ||| (nI 0)) dX10_fields_34 rfl ?_
          refine tr_istore_n (pc := 35) (lv' := [(2, .int ((flds Z.1 x s) ||| (nI 0))), (0, rv a 50), (1, .int x), (3, .int (nI s))]) dX10_fields_35 rfl (by decide) rfl ?_
          refine tr_iinc (pc := 36) (v := nI (s + 1)) (lv' := [(3, .int (nI (s + 1))), (2, .int ((flds Z.1 x s) ||| (nI 0))), (0, rv a 50), (1, .int x)]) 3 dX10_fields_36 rfl (by rw [show Int32.ofInt 1 = nI 1 from by decide, nI_add]) (by decide) rfl ?_
          refine tr_goto (pc := 39) (tgt := 4) dX10_fields_39 (by decide) ?_
          refine tr_sub (pc := 4) (lv' := [(0, rv a 50), (1, .int x), (2, .int ((flds Z.1 x s) ||| (nI 0))), (3, .int (nI (s + 1)))]) [2, 3, 1, 0] rfl ?_
          have e1 : (flds Z.1 x s) ||| (nI 0) = flds Z.1 x (s + 1) := by simp only [flds]; rw [ht, or_0]; simp
          rw [e1]
          exact ih (s + 1) (by omega) (by omega)
  exact L4 (nSt P + 1) 0 (by omega) (by omega)

theorem putZ_lo {Z : ZV} {x y : Int32} {s k : Nat} (hk : k < 17) : (putZ Z x y s).1 k = Z.1 k := by
  induction s with
  | zero => rfl
  | succ s ih =>
    simp only [putZ]
    split
    · show upd _ _ _ k = _
      rw [upd_n (by omega)]; exact ih
    · exact ih
set_option maxHeartbeats 4000000 in
set_option maxRecDepth 100000 in
theorem c_goThrough {a : Am} {S : St} {h : Hp} (hS : IsSt S) {P : Prog} (hVP : VP P) (hN : NP h P) (hSN : SN h P) {Z : ZV} (hM : MN h Z) {m i : Nat} (hi : i < lnN P m) : CT a 2 mX10_goThrough [rv a 50, .int (nI m), .int (nI i)] S h (fun v S' h' => v = none ∧ S = S' ∧ MN h' (stepZ P Z m i) ∧ Fm [22] [61] h h') := by
  obtain ⟨hV, hVC⟩ := id hVP
  obtain ⟨hV1, hV2, hV3⟩ := id hV
  have hm := lnN_lt hi
  have hok := hV3 m i hi
  obtain ⟨k1, k2, k3, k4⟩ := id hok
  have h8 := hV2 m
  have hns := nSt_le hV
  refine met_of (by decide +kernel) (Nat.le_of_ble_eq_true rfl) ?_
  show T a 2 mX10_goThrough 0 [(0, rv a 50), (1, .int (nI m)), (2, .int (nI i))] [] S h _
  refine tr_iconst (pc := 0) (v := nI 4) dX10_goThrough_0 (by decide) ?_
  refine tr_iload_n (pc := 1) 1 dX10_goThrough_1 rfl rfl ?_
  refine tr_imul (pc := 2) (v := nI (4 * m)) dX10_goThrough_2 (pk_mul _ _) ?_
  refine tr_aload_n (pc := 3) 0 dX10_goThrough_3 rfl rfl ?_
  refine tr_iload_n (pc := 4) 1 dX10_goThrough_4 rfl rfl ?_
  refine tr_iload_n (pc := 5) 2 dX10_goThrough_5 rfl rfl ?_
  refine tr_iconst (pc := 6) (v := nI 1) dX10_goThrough_6 (by decide) ?_
  refine tr_callV (pc := 7) (rest := [.int (nI (4 * m))]) (ci := 10) dX10_goThrough_7 ml_X10_178 cv_X10_lineAt rfl rfl (Nat.le_of_ble_eq_true rfl) (hS.1 50 (13, 45) rfl) rfl (by decide) (c_mline hS hV hN hi (show 1 < 4 by decide)) ?_
  rintro _ _ _ ⟨rfl, rfl, rfl⟩
  show T a 2 mX10_goThrough 10 [(0, rv a 50), (1, .int (nI m)), (2, .int (nI i))] [.int (nI ((gt P m i).2.1)), .int (nI (4 * m))] S h _
  refine tr_iadd (pc := 10) (v := nI (4 * m + ((gt P m i).2.1))) dX10_goThrough_10 (nI_add _ _) ?_
  refine tr_istore_n (pc := 11) (lv' := [(3, .int (nI (4 * m + ((gt P m i).2.1)))), (0, rv a 50), (1, .int (nI m)), (2, .int (nI i))]) dX10_goThrough_11 rfl (by decide) rfl ?_
  refine tr_iconst (pc := 12) (v := nI 4) dX10_goThrough_12 (by decide) ?_
  refine tr_iload_n (pc := 13) 2 dX10_goThrough_13 rfl rfl ?_
  refine tr_imul (pc := 14) (v := nI (4 * m)) dX10_goThrough_14 (pk_mul _ _) ?_
  refine tr_aload_n (pc := 15) 1 dX10_goThrough_15 rfl rfl ?_
  refine tr_iload_n (pc := 16) 2 dX10_goThrough_16 rfl rfl ?_
  refine tr_iload_n (pc := 17) 3 dX10_goThrough_17 rfl rfl ?_
  refine tr_iconst (pc := 18) (v := nI 2) dX10_goThrough_18 (by decide) ?_
  refine tr_callV (pc := 19) (rest := [.int (nI (4 * m))]) (ci := 10) dX10_goThrough_19 ml_X10_178 cv_X10_lineAt rfl rfl (Nat.le_of_ble_eq_true rfl) (hS.1 50 (13, 45) rfl) rfl (by decide) (c_mline hS hV hN hi (show 2 < 4 by decide)) ?_
  rintro _ _ _ ⟨rfl, rfl, rfl⟩
  show T a 2 mX10_goThrough 22 [(3, .int (nI (4 * m + ((gt P m i).2.1)))), (0, rv a 50), (1, .int (nI m)), (2, .int (nI i))] [.int (cmp (gt P m i) 2), .int (nI (4 * m))] S h _
  refine tr_iadd (pc := 22) (v := (nI (4 * m)) + (cmp (gt P m i) 2)) dX10_goThrough_22 rfl ?_
  refine tr_istore (pc := 23) (lv' := [(4, .int ((nI (4 * m)) + (cmp (gt P m i) 2))), (3, .int (nI (4 * m + ((gt P m i).2.1)))), (0, rv a 50), (1, .int (nI m)), (2, .int (nI i))]) dX10_goThrough_23 (by decide) rfl ?_
  refine tr_aload_n (pc := 25) 2 dX10_goThrough_25 rfl rfl ?_
  refine tr_iload_n (pc := 26) 3 dX10_goThrough_26 rfl rfl ?_
  refine tr_iload_n (pc := 27) 4 dX10_goThrough_27 rfl rfl ?_
  refine tr_iconst (pc := 28) (v := nI 3) dX10_goThrough_28 (by decide) ?_
  refine tr_callV (pc := 29) (rest := []) (ci := 10) dX10_goThrough_29 ml_X10_178 cv_X10_lineAt rfl rfl (Nat.le_of_ble_eq_true rfl) (hS.1 50 (13, 45) rfl) rfl (by decide) (c_mline hS hV hN hi (show 3 < 4 by decide)) ?_
  rintro _ _ _ ⟨rfl, rfl, rfl⟩
  show T a 2 mX10_goThrough 32 [(4, .int ((nI (4 * m)) + (cmp (gt P m i) 2))), (3, .int (nI (4 * m + ((gt P m i).2.1)))), (0, rv a 50), (1, .int (nI m)), (2, .int (nI i))] [.int (cmp (gt P m i) 3)] S h _
  refine tr_istore (pc := 32) (lv' := [(5, .int (cmp (gt P m i) 3)), (4, .int ((nI (4 * m)) + (cmp (gt P m i) 2))), (3, .int (nI (4 * m + ((gt P m i).2.1)))), (0, rv a 50), (1, .int (nI m)), (2, .int (nI i))]) dX10_goThrough_32 (by decide) rfl ?_
  refine tr_aload_n (pc := 34) 3 dX10_goThrough_34 rfl rfl ?_
  refine tr_iload_n (pc := 35) 4 dX10_goThrough_35 rfl rfl ?_
  refine tr_iload_n (pc := 36) 5 dX10_goThrough_36 rfl rfl ?_
  refine tr_iconst (pc := 37) (v := nI 0) dX10_goThrough_37 (by decide) ?_
  refine tr_callV (pc := 38) (rest := []) (ci := 10) dX10_goThrough_38 ml_X10_178 cv_X10_lineAt rfl rfl (Nat.le_of_ble_eq_true rfl) (hS.1 50 (13, 45) rfl) rfl (by decide) (c_mline hS hV hN hi (show 0 < 4 by decide)) ?_
  rintro _ _ _ ⟨rfl, rfl, rfl⟩
  show T a 2 mX10_goThrough 41 [(5, .int (cmp (gt P m i) 3)), (4, .int ((nI (4 * m)) + (cmp (gt P m i) 2))), (3, .int (nI (4 * m + ((gt P m i).2.1)))), (0, rv a 50), (1, .int (nI m)), (2, .int (nI i))] [.int (nI ((gt P m i).1))] S h _
  have cy : cmp (gt P m i) 2 = if hasY (gt P m i).1 = true then nI (gt P m i).2.2.1 else -1 := rfl
  have cc : cmp (gt P m i) 3 = if (gt P m i).1 = 7 then nI (gt P m i).2.2.2 else -1 := rfl
  rw [cy, cc]
  rcases (show (gt P m i).1 = 0 ∨ (gt P m i).1 = 1 ∨ (gt P m i).1 = 2 ∨ (gt P m i).1 = 3 ∨ (gt P m i).1 = 4 ∨ (gt P m i).1 = 5 ∨ (gt P m i).1 = 6 ∨ (gt P m i).1 = 7 by omega) with q | q | q | q | q | q | q | q <;> simp only [q, hasY, nI_add, Nat.reduceBEq, Nat.reduceEqDiff, Bool.or_true, Bool.or_false, Bool.false_or, Bool.true_or, Bool.or_self, Bool.false_eq_true, if_true, if_false, reduceIte]
  · skip
    show T a 2 mX10_goThrough 41 [(5, .int (-1)), (4, .int (nI (4 * m) + -1)), (3, .int (nI (4 * m + ((gt P m i).2.1)))), (0, rv a 50), (1, .int (nI m)), (2, .int (nI i))] [.int (nI 0)] S h _
    refine tr_tabIn (pc := 41) (off := 47) (tgt := 88) dX10_goThrough_41 (by decide) (by decide) (by decide) (by decide) ?_
    refine tr_aload_n (pc := 88) 3 dX10_goThrough_88 rfl rfl ?_
    refine tr_iload_n (pc := 89) 2 dX10_goThrough_89 rfl rfl ?_
    refine tr_iconst (pc := 90) (v := nI 1) dX10_goThrough_90 (by decide) ?_
    refine tr_aload_n (pc := 91) 3 dX10_goThrough_91 rfl rfl ?_
    refine tr_getR (pc := 92) (q := 60) dX10_goThrough_92 (hS.1 50 (13, 45) rfl) fi_X10_37 rfl (hS.2 50 19 60 rfl) ?_
    refine tr_bipush (pc := 95) (v := nI 8) dX10_goThrough_95 (by decide) ?_
    refine tr_iload_n (pc := 97) 4 dX10_goThrough_97 rfl rfl ?_
    refine tr_imul (pc := 98) (v := nI (8 * m)) dX10_goThrough_98 (pk_mul _ _) ?_
    refine tr_iload_n (pc := 99) 5 dX10_goThrough_99 rfl rfl ?_
    refine tr_iadd (pc := 100) (v := nI (8 * m + i)) dX10_goThrough_100 (nI_add _ _) ?_
    refine tr_iald (pc := 101) (v := siteAt P m i) (8 * m + i) dX10_goThrough_101 (hS.1 60 (0, 32) rfl) rfl (by omega) (by decide) (hSN.2.2 m i hi) ?_
    refine tr_ishl (pc := 102) (v := (nI 1) <<< (siteAt P m i &&& 31)) dX10_goThrough_102 rfl ?_
    refine tr_callV (pc := 103) (rest := []) (ci := 10) dX10_goThrough_103 ml_X10_189 cv_X10_add rfl rfl (Nat.le_of_ble_eq_true rfl) (hS.1 50 (13, 45) rfl) rfl (by decide) (c_madd hS hM (by omega)) ?_
    rintro v1 S1 h1 ⟨rfl, rfl, hM1, hf1⟩
    show T a 2 mX10_goThrough 106 [(5, .int (-1)), (4, .int (nI (4 * m) + -1)), (3, .int (nI (4 * m + ((gt P m i).2.1)))), (0, rv a 50), (1, .int (nI m)), (2, .int (nI i))] [] S h1 _
    refine tr_goto (pc := 106) (tgt := 262) dX10_goThrough_106 (by decide) ?_
    exact tr_vret (pc := 262) dX10_goThrough_262 rfl (⟨rfl, rfl, by unfold stepZ; rw [q]; exact hM1, hf1⟩)
  · skip
    show T a 2 mX10_goThrough 41 [(5, .int (-1)), (4, .int (nI (4 * m + (gt P m i).2.2.1))), (3, .int (nI (4 * m + ((gt P m i).2.1)))), (0, rv a 50), (1, .int (nI m)), (2, .int (nI i))] [.int (nI 1)] S h _
    refine tr_tabIn (pc := 41) (off := 68) (tgt := 109) dX10_goThrough_41 (by decide) (by decide) (by decide) (by decide) ?_
    refine tr_aload_n (pc := 109) 3 dX10_goThrough_109 rfl rfl ?_
    refine tr_iload_n (pc := 110) 2 dX10_goThrough_110 rfl rfl ?_
    refine tr_aload_n (pc := 111) 3 dX10_goThrough_111 rfl rfl ?_
    refine tr_getR (pc := 112) (q := 61) dX10_goThrough_112 (hS.1 50 (13, 45) rfl) fi_X10_40 rfl (hS.2 50 21 61 rfl) ?_
    refine tr_iload (pc := 115) 1 dX10_goThrough_115 rfl ?_
    refine tr_iald (pc := 117) (v := Z.1 (4 * m + (gt P m i).2.2.1)) (4 * m + (gt P m i).2.2.1) dX10_goThrough_117 (hS.1 61 (0, 49) rfl) rfl (by omega) (by decide) (hM.1 (4 * m + (gt P m i).2.2.1) (by omega)) ?_
    refine tr_callV (pc := 118) (rest := []) (ci := 10) dX10_goThrough_118 ml_X10_189 cv_X10_add rfl rfl (Nat.le_of_ble_eq_true rfl) (hS.1 50 (13, 45) rfl) rfl (by decide) (c_madd hS hM (by omega)) ?_
    rintro v1 S1 h1 ⟨rfl, rfl, hM1, hf1⟩
    show T a 2 mX10_goThrough 121 [(5, .int (-1)), (4, .int (nI (4 * m + (gt P m i).2.2.1))), (3, .int (nI (4 * m + ((gt P m i).2.1)))), (0, rv a 50), (1, .int (nI m)), (2, .int (nI i))] [] S h1 _
    refine tr_goto (pc := 121) (tgt := 262) dX10_goThrough_121 (by decide) ?_
    exact tr_vret (pc := 262) dX10_goThrough_262 rfl (⟨rfl, rfl, by unfold stepZ; rw [q]; exact hM1, hf1⟩)
  · skip
    show T a 2 mX10_goThrough 41 [(5, .int (-1)), (4, .int (nI (4 * m + (gt P m i).2.2.1))), (3, .int (nI (4 * m + ((gt P m i).2.1)))), (0, rv a 50), (1, .int (nI m)), (2, .int (nI i))] [.int (nI 2)] S h _
    refine tr_tabIn (pc := 41) (off := 83) (tgt := 124) dX10_goThrough_41 (by decide) (by decide) (by decide) (by decide) ?_
    refine tr_iconst (pc := 124) (v := nI 0) dX10_goThrough_124 (by decide) ?_
    refine tr_istore (pc := 125) (lv' := [(6, .int (nI 0)), (5, .int (-1)), (4, .int (nI (4 * m + (gt P m i).2.2.1))), (3, .int (nI (4 * m + ((gt P m i).2.1)))), (0, rv a 50), (1, .int (nI m)), (2, .int (nI i))]) dX10_goThrough_125 (by decide) rfl ?_
    refine tr_sub (pc := 127) (lv' := [(0, rv a 50), (1, .int (nI m)), (2, .int (nI i)), (3, .int (nI (4 * m + ((gt P m i).2.1)))), (4, .int (nI (4 * m + (gt P m i).2.2.1))), (6, .int (nI 0))]) [4, 5, 6, 3, 2, 0] rfl ?_
    have L127 : ∀ (fu : Nat) (s : Nat) (h1 : Hp), nSt P - s < fu → s ≤ nSt P → MN h1 (putZ Z (Z.1 (4 * m + (gt P m i).2.1)) (Z.1 (4 * m + (gt P m i).2.2.1)) s) → Fm [22] [61] h h1 → T a 2 mX10_goThrough 127 [(0, rv a 50), (1, .int (nI m)), (2, .int (nI i)), (3, .int (nI (4 * m + ((gt P m i).2.1)))), (4, .int (nI (4 * m + (gt P m i).2.2.1))), (6, .int (nI s))] [] S h1 (fun v S' h' => v = none ∧ S = S' ∧ MN h' (stepZ P Z m i) ∧ Fm [22] [61] h h') := by
      intro fu
      induction fu with
      | zero => intro s h1 hu hs hM1 hf1; omega
      | succ fu ih =>
        intro s h1 hu hs hM1 hf1
        have hSN1 : SN h1 P := hSN.fm hf1 (by decide) (by decide) (by decide) (by decide)
        have eX : h1 61 (4 * m + (gt P m i).2.1) = Z.1 (4 * m + (gt P m i).2.1) := by rw [hM1.1 _ (by omega)]; exact putZ_lo (by omega)
        have eY : h1 61 (4 * m + (gt P m i).2.2.1) = Z.1 (4 * m + (gt P m i).2.2.1) := by rw [hM1.1 _ (by omega)]; exact putZ_lo (by omega)
        refine tr_iload (pc := 127) 5 dX10_goThrough_127 rfl ?_
        refine tr_aload_n (pc := 129) 0 dX10_goThrough_129 rfl rfl ?_
        refine tr_getI (pc := 130) (x := nI (nSt P)) dX10_goThrough_130 (hS.1 50 (13, 45) rfl) fi_X10_175 rfl hSN1.1 ?_
        refine tr_icmp_ge (pc := 133) (tgt := 176) dX10_goThrough_133 (by decide) (nI_leI (by omega) (by omega)) (fun q133 => ?_) (fun q133 => ?_)
        · skip
          refine tr_goto (pc := 176) (tgt := 262) dX10_goThrough_176 (by decide) ?_
          exact tr_vret (pc := 262) dX10_goThrough_262 rfl (⟨rfl, rfl, by unfold stepZ; rw [q]; rw [show nSt P = s by omega]; exact hM1, hf1⟩)
        · skip
          refine tr_aload_n (pc := 136) 0 dX10_goThrough_136 rfl rfl ?_
          refine tr_bipush (pc := 137) (v := nI 17) dX10_goThrough_137 (by decide) ?_
          refine tr_iload (pc := 139) 5 dX10_goThrough_139 rfl ?_
          refine tr_iadd (pc := 141) (v := nI (17 + s)) dX10_goThrough_141 (nI_add _ _) ?_
          refine tr_aload_n (pc := 142) 0 dX10_goThrough_142 rfl rfl ?_
          refine tr_getR (pc := 143) (q := 61) dX10_goThrough_143 (hS.1 50 (13, 45) rfl) fi_X10_40 rfl (hS.2 50 21 61 rfl) ?_
          refine tr_iload_n (pc := 146) 3 dX10_goThrough_146 rfl rfl ?_
          refine tr_iald (pc := 147) (v := Z.1 (4 * m + (gt P m i).2.1)) (4 * m + ((gt P m i).2.1)) dX10_goThrough_147 (hS.1 61 (0, 49) rfl) rfl (by omega) (by decide) eX ?_
          refine tr_iload (pc := 148) 5 dX10_goThrough_148 rfl ?_
          cases ht : tb (Z.1 (4 * m + (gt P m i).2.1)) s with
          | true => ?_
          | false => ?_
          · skip
            refine tr_callS (pc := 150) (rest := [.int (nI (17 + s)), rv a 50]) dX10_goThrough_150 ml_X10_186 cs_X10_has rfl rfl (Nat.le_of_ble_eq_true rfl) (by decide) (c_mhas_y ht) ?_
            rintro _ _ _ ⟨rfl, rfl, rfl⟩
            show T a 2 mX10_goThrough 153 [(0, rv a 50), (1, .int (nI m)), (2, .int (nI i)), (3, .int (nI (4 * m + ((gt P m i).2.1)))), (4, .int (nI (4 * m + (gt P m i).2.2.1))), (6, .int (nI s))] [.int (nI 1), .int (nI (17 + s)), rv a 50] S h1 _
            refine tr_if_eq (pc := 153) (tgt := 166) dX10_goThrough_153 (by decide) (nI_z_eq (by omega)) (fun hcc => absurd hcc (by decide)) (fun _ => ?_)
            refine tr_aload_n (pc := 156) 0 dX10_goThrough_156 rfl rfl ?_
            refine tr_getR (pc := 157) (q := 61) dX10_goThrough_157 (hS.1 50 (13, 45) rfl) fi_X10_40 rfl (hS.2 50 21 61 rfl) ?_
            refine tr_iload (pc := 160) 4 dX10_goThrough_160 rfl ?_
            refine tr_iald (pc := 162) (v := Z.1 (4 * m + (gt P m i).2.2.1)) (4 * m + (gt P m i).2.2.1) dX10_goThrough_162 (hS.1 61 (0, 49) rfl) rfl (by omega) (by decide) eY ?_
            refine tr_goto (pc := 163) (tgt := 167) dX10_goThrough_163 (by decide) ?_
            refine tr_callV (pc := 167) (rest := []) (ci := 10) dX10_goThrough_167 ml_X10_189 cv_X10_add rfl rfl (Nat.le_of_ble_eq_true rfl) (hS.1 50 (13, 45) rfl) rfl (by decide) (c_madd hS hM1 (by omega)) ?_
            rintro v1 S1 h2 ⟨rfl, rfl, hM2, hf2⟩
            have hM2b : MN h2 (putZ Z (Z.1 (4 * m + (gt P m i).2.1)) (Z.1 (4 * m + (gt P m i).2.2.1)) (s + 1)) := by simp only [putZ]; rw [ht]; exact hM2
            show T a 2 mX10_goThrough 170 [(0, rv a 50), (1, .int (nI m)), (2, .int (nI i)), (3, .int (nI (4 * m + ((gt P m i).2.1)))), (4, .int (nI (4 * m + (gt P m i).2.2.1))), (6, .int (nI s))] [] S h2 _
            refine tr_iinc (pc := 170) (v := nI (s + 1)) (lv' := [(6, .int (nI (s + 1))), (0, rv a 50), (1, .int (nI m)), (2, .int (nI i)), (3, .int (nI (4 * m + ((gt P m i).2.1)))), (4, .int (nI (4 * m + (gt P m i).2.2.1)))]) 5 dX10_goThrough_170 rfl (by rw [show Int32.ofInt 1 = nI 1 from by decide, nI_add]) (by decide) rfl ?_
            refine tr_goto (pc := 173) (tgt := 127) dX10_goThrough_173 (by decide) ?_
            refine tr_sub (pc := 127) (lv' := [(0, rv a 50), (1, .int (nI m)), (2, .int (nI i)), (3, .int (nI (4 * m + ((gt P m i).2.1)))), (4, .int (nI (4 * m + (gt P m i).2.2.1))), (6, .int (nI (s + 1)))]) [1, 2, 3, 4, 5, 0] rfl ?_
            exact ih (s + 1) h2 (by omega) (by omega) hM2b (hf1.trans hf2)
          · skip
            refine tr_callS (pc := 150) (rest := [.int (nI (17 + s)), rv a 50]) dX10_goThrough_150 ml_X10_186 cs_X10_has rfl rfl (Nat.le_of_ble_eq_true rfl) (by decide) (c_mhas_n ht) ?_
            rintro _ _ _ ⟨rfl, rfl, rfl⟩
            show T a 2 mX10_goThrough 153 [(0, rv a 50), (1, .int (nI m)), (2, .int (nI i)), (3, .int (nI (4 * m + ((gt P m i).2.1)))), (4, .int (nI (4 * m + (gt P m i).2.2.1))), (6, .int (nI s))] [.int (nI 0), .int (nI (17 + s)), rv a 50] S h1 _
            refine tr_if_eq (pc := 153) (tgt := 166) dX10_goThrough_153 (by decide) (nI_z_eq (by omega)) (fun _ => ?_) (fun hcc => absurd (by decide) hcc)
            refine tr_iconst (pc := 166) (v := nI 0) dX10_goThrough_166 (by decide) ?_
            refine tr_callV (pc := 167) (rest := []) (ci := 10) dX10_goThrough_167 ml_X10_189 cv_X10_add rfl rfl (Nat.le_of_ble_eq_true rfl) (hS.1 50 (13, 45) rfl) rfl (by decide) (c_madd hS hM1 (by omega)) ?_
            rintro v1 S1 h2 ⟨rfl, rfl, hM2, hf2⟩
            have hM2b : MN h2 (putZ Z (Z.1 (4 * m + (gt P m i).2.1)) (Z.1 (4 * m + (gt P m i).2.2.1)) (s + 1)) := by simp only [putZ]; rw [ht]; rw [adZ_0] at hM2; exact hM2
            show T a 2 mX10_goThrough 170 [(0, rv a 50), (1, .int (nI m)), (2, .int (nI i)), (3, .int (nI (4 * m + ((gt P m i).2.1)))), (4, .int (nI (4 * m + (gt P m i).2.2.1))), (6, .int (nI s))] [] S h2 _
            refine tr_iinc (pc := 170) (v := nI (s + 1)) (lv' := [(6, .int (nI (s + 1))), (0, rv a 50), (1, .int (nI m)), (2, .int (nI i)), (3, .int (nI (4 * m + ((gt P m i).2.1)))), (4, .int (nI (4 * m + (gt P m i).2.2.1)))]) 5 dX10_goThrough_170 rfl (by rw [show Int32.ofInt 1 = nI 1 from by decide, nI_add]) (by decide) rfl ?_
            refine tr_goto (pc := 173) (tgt := 127) dX10_goThrough_173 (by decide) ?_
            refine tr_sub (pc := 127) (lv' := [(0, rv a 50), (1, .int (nI m)), (2, .int (nI i)), (3, .int (nI (4 * m + ((gt P m i).2.1)))), (4, .int (nI (4 * m + (gt P m i).2.2.1))), (6, .int (nI (s + 1)))]) [1, 2, 3, 4, 5, 0] rfl ?_
            exact ih (s + 1) h2 (by omega) (by omega) hM2b (hf1.trans hf2)
    exact L127 (nSt P + 1) 0 h (by omega) (by omega) hM Fm.rf
  · skip
    show T a 2 mX10_goThrough 41 [(5, .int (-1)), (4, .int (nI (4 * m + (gt P m i).2.2.1))), (3, .int (nI (4 * m + ((gt P m i).2.1)))), (0, rv a 50), (1, .int (nI m)), (2, .int (nI i))] [.int (nI 3)] S h _
    refine tr_tabIn (pc := 41) (off := 138) (tgt := 179) dX10_goThrough_41 (by decide) (by decide) (by decide) (by decide) ?_
    refine tr_aload_n (pc := 179) 3 dX10_goThrough_179 rfl rfl ?_
    refine tr_iload_n (pc := 180) 2 dX10_goThrough_180 rfl rfl ?_
    refine tr_aload_n (pc := 181) 3 dX10_goThrough_181 rfl rfl ?_
    refine tr_aload_n (pc := 182) 3 dX10_goThrough_182 rfl rfl ?_
    refine tr_getR (pc := 183) (q := 61) dX10_goThrough_183 (hS.1 50 (13, 45) rfl) fi_X10_40 rfl (hS.2 50 21 61 rfl) ?_
    refine tr_iload (pc := 186) 1 dX10_goThrough_186 rfl ?_
    refine tr_iald (pc := 188) (v := Z.1 (4 * m + (gt P m i).2.2.1)) (4 * m + (gt P m i).2.2.1) dX10_goThrough_188 (hS.1 61 (0, 49) rfl) rfl (by omega) (by decide) (hM.1 (4 * m + (gt P m i).2.2.1) (by omega)) ?_
    refine tr_callV (pc := 189) (rest := [.int (nI (4 * m + ((gt P m i).2.1))), rv a 50]) (ci := 10) dX10_goThrough_189 ml_X10_193 cv_X10_fields rfl rfl (Nat.le_of_ble_eq_true rfl) (hS.1 50 (13, 45) rfl) rfl (by decide) (c_mfields hS hV hSN hM) ?_
    rintro _ _ _ ⟨rfl, rfl, rfl⟩
    show T a 2 mX10_goThrough 192 [(5, .int (-1)), (4, .int (nI (4 * m + (gt P m i).2.2.1))), (3, .int (nI (4 * m + ((gt P m i).2.1)))), (0, rv a 50), (1, .int (nI m)), (2, .int (nI i))] [.int (flds Z.1 (Z.1 (4 * m + (gt P m i).2.2.1)) (nSt P)), .int (nI (4 * m + ((gt P m i).2.1))), rv a 50] S h _
    refine tr_callV (pc := 192) (rest := []) (ci := 10) dX10_goThrough_192 ml_X10_189 cv_X10_add rfl rfl (Nat.le_of_ble_eq_true rfl) (hS.1 50 (13, 45) rfl) rfl (by decide) (c_madd hS hM (by omega)) ?_
    rintro v1 S1 h1 ⟨rfl, rfl, hM1, hf1⟩
    show T a 2 mX10_goThrough 195 [(5, .int (-1)), (4, .int (nI (4 * m + (gt P m i).2.2.1))), (3, .int (nI (4 * m + ((gt P m i).2.1)))), (0, rv a 50), (1, .int (nI m)), (2, .int (nI i))] [] S h1 _
    refine tr_goto (pc := 195) (tgt := 262) dX10_goThrough_195 (by decide) ?_
    exact tr_vret (pc := 262) dX10_goThrough_262 rfl (⟨rfl, rfl, by unfold stepZ; rw [q]; exact hM1, hf1⟩)
  · skip
    show T a 2 mX10_goThrough 41 [(5, .int (-1)), (4, .int (nI (4 * m) + -1)), (3, .int (nI (4 * m + ((gt P m i).2.1)))), (0, rv a 50), (1, .int (nI m)), (2, .int (nI i))] [.int (nI 4)] S h _
    refine tr_tabIn (pc := 41) (off := 157) (tgt := 198) dX10_goThrough_41 (by decide) (by decide) (by decide) (by decide) ?_
    refine tr_aload_n (pc := 198) 3 dX10_goThrough_198 rfl rfl ?_
    refine tr_bipush (pc := 199) (v := nI 16) dX10_goThrough_199 (by decide) ?_
    refine tr_aload_n (pc := 201) 3 dX10_goThrough_201 rfl rfl ?_
    refine tr_getR (pc := 202) (q := 61) dX10_goThrough_202 (hS.1 50 (13, 45) rfl) fi_X10_40 rfl (hS.2 50 21 61 rfl) ?_
    refine tr_iload_n (pc := 205) 2 dX10_goThrough_205 rfl rfl ?_
    refine tr_iald (pc := 206) (v := Z.1 (4 * m + (gt P m i).2.1)) (4 * m + ((gt P m i).2.1)) dX10_goThrough_206 (hS.1 61 (0, 49) rfl) rfl (by omega) (by decide) (hM.1 (4 * m + (gt P m i).2.1) (by omega)) ?_
    refine tr_callV (pc := 207) (rest := []) (ci := 10) dX10_goThrough_207 ml_X10_189 cv_X10_add rfl rfl (Nat.le_of_ble_eq_true rfl) (hS.1 50 (13, 45) rfl) rfl (by decide) (c_madd hS hM (by omega)) ?_
    rintro v1 S1 h1 ⟨rfl, rfl, hM1, hf1⟩
    show T a 2 mX10_goThrough 210 [(5, .int (-1)), (4, .int (nI (4 * m) + -1)), (3, .int (nI (4 * m + ((gt P m i).2.1)))), (0, rv a 50), (1, .int (nI m)), (2, .int (nI i))] [] S h1 _
    refine tr_goto (pc := 210) (tgt := 262) dX10_goThrough_210 (by decide) ?_
    exact tr_vret (pc := 262) dX10_goThrough_262 rfl (⟨rfl, rfl, by unfold stepZ; rw [q]; exact hM1, hf1⟩)
  · skip
    show T a 2 mX10_goThrough 41 [(5, .int (-1)), (4, .int (nI (4 * m) + -1)), (3, .int (nI (4 * m + ((gt P m i).2.1)))), (0, rv a 50), (1, .int (nI m)), (2, .int (nI i))] [.int (nI 5)] S h _
    refine tr_tabIn (pc := 41) (off := 172) (tgt := 213) dX10_goThrough_41 (by decide) (by decide) (by decide) (by decide) ?_
    refine tr_aload_n (pc := 213) 3 dX10_goThrough_213 rfl rfl ?_
    refine tr_iload_n (pc := 214) 2 dX10_goThrough_214 rfl rfl ?_
    refine tr_aload_n (pc := 215) 3 dX10_goThrough_215 rfl rfl ?_
    refine tr_getR (pc := 216) (q := 61) dX10_goThrough_216 (hS.1 50 (13, 45) rfl) fi_X10_40 rfl (hS.2 50 21 61 rfl) ?_
    refine tr_bipush (pc := 219) (v := nI 16) dX10_goThrough_219 (by decide) ?_
    refine tr_iald (pc := 221) (v := Z.1 (16)) 16 dX10_goThrough_221 (hS.1 61 (0, 49) rfl) rfl (by omega) (by decide) (hM.1 (16) (by omega)) ?_
    refine tr_callV (pc := 222) (rest := []) (ci := 10) dX10_goThrough_222 ml_X10_189 cv_X10_add rfl rfl (Nat.le_of_ble_eq_true rfl) (hS.1 50 (13, 45) rfl) rfl (by decide) (c_madd hS hM (by omega)) ?_
    rintro v1 S1 h1 ⟨rfl, rfl, hM1, hf1⟩
    show T a 2 mX10_goThrough 225 [(5, .int (-1)), (4, .int (nI (4 * m) + -1)), (3, .int (nI (4 * m + ((gt P m i).2.1)))), (0, rv a 50), (1, .int (nI m)), (2, .int (nI i))] [] S h1 _
    refine tr_goto (pc := 225) (tgt := 262) dX10_goThrough_225 (by decide) ?_
    exact tr_vret (pc := 262) dX10_goThrough_262 rfl (⟨rfl, rfl, by unfold stepZ; rw [q]; exact hM1, hf1⟩)
  · skip
    show T a 2 mX10_goThrough 41 [(5, .int (-1)), (4, .int (nI (4 * m) + -1)), (3, .int (nI (4 * m + ((gt P m i).2.1)))), (0, rv a 50), (1, .int (nI m)), (2, .int (nI i))] [.int (nI 6)] S h _
    refine tr_tabIn (pc := 41) (off := 221) (tgt := 262) dX10_goThrough_41 (by decide) (by decide) (by decide) (by decide) ?_
    exact tr_vret (pc := 262) dX10_goThrough_262 rfl (⟨rfl, rfl, by unfold stepZ; rw [q]; exact hM, Fm.rf⟩)
  · skip
    show T a 2 mX10_goThrough 41 [(5, .int (nI ((gt P m i).2.2.2))), (4, .int (nI (4 * m + (gt P m i).2.2.1))), (3, .int (nI (4 * m + ((gt P m i).2.1)))), (0, rv a 50), (1, .int (nI m)), (2, .int (nI i))] [.int (nI 7)] S h _
    refine tr_tabIn (pc := 41) (off := 187) (tgt := 228) dX10_goThrough_41 (by decide) (by decide) (by decide) (by decide) ?_
    refine tr_aload_n (pc := 228) 3 dX10_goThrough_228 rfl rfl ?_
    refine tr_iconst (pc := 229) (v := nI 4) dX10_goThrough_229 (by decide) ?_
    refine tr_iload (pc := 230) 0 dX10_goThrough_230 rfl ?_
    refine tr_imul (pc := 232) (v := nI (4 * ((gt P m i).2.2.2))) dX10_goThrough_232 (pk_mul _ _) ?_
    refine tr_aload_n (pc := 233) 3 dX10_goThrough_233 rfl rfl ?_
    refine tr_getR (pc := 234) (q := 61) dX10_goThrough_234 (hS.1 50 (13, 45) rfl) fi_X10_40 rfl (hS.2 50 21 61 rfl) ?_
    refine tr_iload (pc := 237) 1 dX10_goThrough_237 rfl ?_
    refine tr_iald (pc := 239) (v := Z.1 (4 * m + (gt P m i).2.2.1)) (4 * m + (gt P m i).2.2.1) dX10_goThrough_239 (hS.1 61 (0, 49) rfl) rfl (by omega) (by decide) (hM.1 (4 * m + (gt P m i).2.2.1) (by omega)) ?_
    refine tr_callV (pc := 240) (rest := []) (ci := 10) dX10_goThrough_240 ml_X10_189 cv_X10_add rfl rfl (Nat.le_of_ble_eq_true rfl) (hS.1 50 (13, 45) rfl) rfl (by decide) (c_madd hS hM (by omega)) ?_
    rintro v1 S1 h1 ⟨rfl, rfl, hM1, hf1⟩
    show T a 2 mX10_goThrough 243 [(5, .int (nI ((gt P m i).2.2.2))), (4, .int (nI (4 * m + (gt P m i).2.2.1))), (3, .int (nI (4 * m + ((gt P m i).2.1)))), (0, rv a 50), (1, .int (nI m)), (2, .int (nI i))] [] S h1 _
    refine tr_aload_n (pc := 243) 3 dX10_goThrough_243 rfl rfl ?_
    refine tr_iload_n (pc := 244) 2 dX10_goThrough_244 rfl rfl ?_
    refine tr_aload_n (pc := 245) 3 dX10_goThrough_245 rfl rfl ?_
    refine tr_getR (pc := 246) (q := 61) dX10_goThrough_246 (hS.1 50 (13, 45) rfl) fi_X10_40 rfl (hS.2 50 21 61 rfl) ?_
    refine tr_iconst (pc := 249) (v := nI 4) dX10_goThrough_249 (by decide) ?_
    refine tr_iload (pc := 250) 0 dX10_goThrough_250 rfl ?_
    refine tr_imul (pc := 252) (v := nI (4 * ((gt P m i).2.2.2))) dX10_goThrough_252 (pk_mul _ _) ?_
    refine tr_iconst (pc := 253) (v := nI 3) dX10_goThrough_253 (by decide) ?_
    refine tr_iadd (pc := 254) (v := nI (4 * ((gt P m i).2.2.2) + 3)) dX10_goThrough_254 (nI_add _ _) ?_
    refine tr_iald (pc := 255) (v := (adZ Z (4 * (gt P m i).2.2.2) (Z.1 (4 * m + (gt P m i).2.2.1))).1 (4 * (gt P m i).2.2.2 + 3)) (4 * ((gt P m i).2.2.2) + 3) dX10_goThrough_255 (hS.1 61 (0, 49) rfl) rfl (by omega) (by decide) (hM1.1 _ (by omega)) ?_
    refine tr_callV (pc := 256) (rest := []) (ci := 10) dX10_goThrough_256 ml_X10_189 cv_X10_add rfl rfl (Nat.le_of_ble_eq_true rfl) (hS.1 50 (13, 45) rfl) rfl (by decide) (c_madd hS hM1 (by omega)) ?_
    rintro v1 S1 h2 ⟨rfl, rfl, hM2, hf2⟩
    show T a 2 mX10_goThrough 259 [(5, .int (nI ((gt P m i).2.2.2))), (4, .int (nI (4 * m + (gt P m i).2.2.1))), (3, .int (nI (4 * m + ((gt P m i).2.1)))), (0, rv a 50), (1, .int (nI m)), (2, .int (nI i))] [] S h2 _
    refine tr_goto (pc := 259) (tgt := 262) dX10_goThrough_259 (by decide) ?_
    exact tr_vret (pc := 262) dX10_goThrough_262 rfl (⟨rfl, rfl, by unfold stepZ; rw [q]; exact hM2, hf1.trans hf2⟩)

set_option maxHeartbeats 4000000 in
set_option maxRecDepth 100000 in
theorem c_mfindMays {a : Am} {S : St} {h : Hp} (hS : IsSt S) {P : Prog} (hVP : VP P) (hN : NP h P) : CT a 3 mX10_findMays [rv a 50] S h (fun v S' h' => v = none ∧ S = S' ∧ SN h' P ∧ MN h' (mayV P, false) ∧ Fm [20, 22] [58, 59, 60, 61] h h') := by
  obtain ⟨hV, hVC⟩ := id hVP
  obtain ⟨hV1, hV2, hV3⟩ := id hV
  refine met_of (by decide +kernel) (Nat.le_of_ble_eq_true rfl) ?_
  show T a 3 mX10_findMays 0 [(0, rv a 50)] [] S h _
  refine tr_aload_n (pc := 0) 0 dX10_findMays_0 rfl rfl ?_
  refine tr_callV (pc := 1) (rest := []) (ci := 10) dX10_findMays_1 ml_X10_196 cv_X10_findSites rfl rfl (Nat.le_of_ble_eq_true rfl) (hS.1 50 (13, 45) rfl) rfl (by decide) (c_findSites hS hV hN) ?_
  rintro v1 S1 h1 ⟨rfl, rfl, hSN, hf1a⟩
  have hf1 : Fm [20, 22] [58, 59, 60, 61] h h1 := hf1a.mono (by decide) (by decide)
  show T a 3 mX10_findMays 4 [(0, rv a 50)] [] S h1 _
  refine tr_iconst (pc := 4) (v := nI 0) dX10_findMays_4 (by decide) ?_
  refine tr_istore_n (pc := 5) (lv' := [(1, .int (nI 0)), (0, rv a 50)]) dX10_findMays_5 rfl (by decide) rfl ?_
  refine tr_sub (pc := 6) (lv' := [(0, rv a 50), (1, .int (nI 0))]) [1, 0] rfl ?_
  have L6 : ∀ (fu : Nat) (k : Nat) (h2 : Hp), 49 - k < fu → k ≤ 49 → (∀ j, j < k → h2 61 j = nI 0) → Fm [20, 22] [58, 59, 60, 61] h h2 → SN h2 P → T a 3 mX10_findMays 6 [(0, rv a 50), (1, .int (nI k))] [] S h2 (fun v S' h' => v = none ∧ S = S' ∧ SN h' P ∧ MN h' (mayV P, false) ∧ Fm [20, 22] [58, 59, 60, 61] h h') := by
    intro fu
    induction fu with
    | zero => intro k h2 hu hk hz hf2 hSN2; omega
    | succ fu ih =>
      intro k h2 hu hk hz hf2 hSN2
      refine tr_iload_n (pc := 6) 1 dX10_findMays_6 rfl rfl ?_
      refine tr_bipush (pc := 7) (v := nI 49) dX10_findMays_7 (by decide) ?_
      refine tr_icmp_ge (pc := 9) (tgt := 25) dX10_findMays_9 (by decide) (nI_leI (by omega) (by omega)) (fun q9 => ?_) (fun q9 => ?_)
      · skip
        refine tr_aload_n (pc := 25) 0 dX10_findMays_25 rfl rfl ?_
        refine tr_iconst (pc := 26) (v := nI 1) dX10_findMays_26 (by decide) ?_
        refine tr_putI (pc := 27) (x := nI 1) dX10_findMays_27 (hS.1 50 (13, 45) rfl) fi_X10_182 rfl (by decide) (by decide) ?_
        refine tr_sub (pc := 30) (lv' := [(0, rv a 50)]) [0] rfl ?_
        have L30 : ∀ (fu : Nat) (c : Nat) (Z : ZV) (h3 : Hp), 1570 - c < fu → c ≤ 1569 → RI P c Z → MN h3 Z → SN h3 P → Fm [20, 22] [58, 59, 60, 61] h h3 → T a 3 mX10_findMays 30 [(0, rv a 50)] [] S h3 (fun v S' h' => v = none ∧ S = S' ∧ SN h' P ∧ MN h' (mayV P, false) ∧ Fm [20, 22] [58, 59, 60, 61] h h') := by
          intro fu
          induction fu with
          | zero => intro c Z h3 hu2 hc hR hM hSN3 hf3; omega
          | succ fu ih2 =>
            intro c Z h3 hu2 hc hR hM hSN3 hf3
            refine tr_aload_n (pc := 30) 0 dX10_findMays_30 rfl rfl ?_
            refine tr_getI (pc := 31) (x := bI Z.2) dX10_findMays_31 (hS.1 50 (13, 45) rfl) fi_X10_182 rfl hM.2 ?_
            refine tr_if_eq (pc := 34) (tgt := 86) dX10_findMays_34 (by decide) Iff.rfl (fun q34 => ?_) (fun q34 => ?_)
            · skip
              exact tr_vret (pc := 86) dX10_findMays_86 rfl (⟨rfl, rfl, hSN3, ⟨by rw [← ri_end hR hc (bz_f q34)]; exact hM.1, by rw [hM.2, bz_f q34]⟩, hf3⟩)
            · skip
              have hg : Z.2 = true := bz_t q34
              have hlt := ri_lt hR hg
              refine tr_aload_n (pc := 37) 0 dX10_findMays_37 rfl rfl ?_
              refine tr_iconst (pc := 38) (v := nI 0) dX10_findMays_38 (by decide) ?_
              refine tr_putI (pc := 39) (x := nI 0) dX10_findMays_39 (hS.1 50 (13, 45) rfl) fi_X10_182 rfl (by decide) (by decide) ?_
              refine tr_iconst (pc := 42) (v := nI 0) dX10_findMays_42 (by decide) ?_
              refine tr_istore_n (pc := 43) (lv' := [(1, .int (nI 0)), (0, rv a 50)]) dX10_findMays_43 rfl (by decide) rfl ?_
              refine tr_sub (pc := 44) (lv' := [(0, rv a 50), (1, .int (nI 0))]) [1, 0] rfl ?_
              have L44 : ∀ (fu : Nat) (m : Nat) (h4 : Hp), P.length - m < fu → m ≤ P.length → MN h4 (methsZ P (Z.1, false) m) → SN h4 P → Fm [20, 22] [58, 59, 60, 61] h h4 → T a 3 mX10_findMays 44 [(0, rv a 50), (1, .int (nI m))] [] S h4 (fun v S' h' => v = none ∧ S = S' ∧ SN h' P ∧ MN h' (mayV P, false) ∧ Fm [20, 22] [58, 59, 60, 61] h h') := by
                intro fu
                induction fu with
                | zero => intro m h4 hu3 hm hM4 hSN4 hf4; omega
                | succ fu ih3 =>
                  intro m h4 hu3 hm hM4 hSN4 hf4
                  have hN4 : NP h4 P := hN.fm hf4 (by decide)
                  refine tr_iload_n (pc := 44) 1 dX10_findMays_44 rfl rfl ?_
                  refine tr_aload_n (pc := 45) 0 dX10_findMays_45 rfl rfl ?_
                  refine tr_getR (pc := 46) (q := 51) dX10_findMays_46 (hS.1 50 (13, 45) rfl) fi_X10_7 rfl (hS.2 50 0 51 rfl) ?_
                  refine tr_iconst (pc := 49) (v := nI 0) dX10_findMays_49 (by decide) ?_
                  refine tr_iald (pc := 50) (v := nI P.length) 0 dX10_findMays_50 (hS.1 51 (0, 133) rfl) rfl (by omega) (by decide) hN4.1 ?_
                  refine tr_icmp_ge (pc := 51) (tgt := 83) dX10_findMays_51 (by decide) (nI_leI (by omega) (by omega)) (fun q51 => ?_) (fun q51 => ?_)
                  · skip
                    refine tr_goto (pc := 83) (tgt := 30) dX10_findMays_83 (by decide) ?_
                    refine tr_sub (pc := 30) (lv' := [(0, rv a 50)]) [0] rfl ?_
                    exact ih2 (c + 1) (roundZ P Z.1) h4 (by omega) (by omega) (ri_s hVP hR hg) (by rw [show m = P.length by omega] at hM4; exact hM4) hSN4 hf4
                  · skip
                    have h8 := hV2 m
                    refine tr_iconst (pc := 54) (v := nI 0) dX10_findMays_54 (by decide) ?_
                    refine tr_istore_n (pc := 55) (lv' := [(2, .int (nI 0)), (0, rv a 50), (1, .int (nI m))]) dX10_findMays_55 rfl (by decide) rfl ?_
                    refine tr_sub (pc := 56) (lv' := [(0, rv a 50), (1, .int (nI m)), (2, .int (nI 0))]) [1, 2, 0] rfl ?_
                    have L56 : ∀ (fu : Nat) (i : Nat) (h5 : Hp), lnN P m - i < fu → i ≤ lnN P m → MN h5 (linesZ P (methsZ P (Z.1, false) m) m i) → SN h5 P → Fm [20, 22] [58, 59, 60, 61] h h5 → T a 3 mX10_findMays 56 [(0, rv a 50), (1, .int (nI m)), (2, .int (nI i))] [] S h5 (fun v S' h' => v = none ∧ S = S' ∧ SN h' P ∧ MN h' (mayV P, false) ∧ Fm [20, 22] [58, 59, 60, 61] h h') := by
                      intro fu
                      induction fu with
                      | zero => intro i h5 hu4 hi hM5 hSN5 hf5; omega
                      | succ fu ih4 =>
                        intro i h5 hu4 hi hM5 hSN5 hf5
                        have hN5 : NP h5 P := hN.fm hf5 (by decide)
                        refine tr_iload_n (pc := 56) 2 dX10_findMays_56 rfl rfl ?_
                        refine tr_aload_n (pc := 57) 0 dX10_findMays_57 rfl rfl ?_
                        refine tr_iload_n (pc := 58) 1 dX10_findMays_58 rfl rfl ?_
                        refine tr_callV (pc := 59) (rest := [.int (nI i)]) (ci := 10) dX10_findMays_59 ml_X10_168 cv_X10_linesOf rfl rfl (Nat.le_of_ble_eq_true rfl) (hS.1 50 (13, 45) rfl) rfl (by decide) (c_mlines hS hV hN5 (by omega)) ?_
                        rintro _ _ _ ⟨rfl, rfl, rfl⟩
                        show T a 3 mX10_findMays 62 [(0, rv a 50), (1, .int (nI m)), (2, .int (nI i))] [.int (nI (lnN P m)), .int (nI i)] S h5 _
                        refine tr_icmp_ge (pc := 62) (tgt := 77) dX10_findMays_62 (by decide) (nI_leI (by omega) (by omega)) (fun q62 => ?_) (fun q62 => ?_)
                        · skip
                          refine tr_iinc (pc := 77) (v := nI (m + 1)) (lv' := [(1, .int (nI (m + 1))), (0, rv a 50), (2, .int (nI i))]) 1 dX10_findMays_77 rfl (by rw [show Int32.ofInt 1 = nI 1 from by decide, nI_add]) (by decide) rfl ?_
                          refine tr_goto (pc := 80) (tgt := 44) dX10_findMays_80 (by decide) ?_
                          refine tr_sub (pc := 44) (lv' := [(0, rv a 50), (1, .int (nI (m + 1)))]) [1, 0] rfl ?_
                          exact ih3 (m + 1) h5 (by omega) (by omega) (by rw [show i = lnN P m by omega] at hM5; exact hM5) hSN5 hf5
                        · skip
                          refine tr_aload_n (pc := 65) 0 dX10_findMays_65 rfl rfl ?_
                          refine tr_iload_n (pc := 66) 1 dX10_findMays_66 rfl rfl ?_
                          refine tr_iload_n (pc := 67) 2 dX10_findMays_67 rfl rfl ?_
                          refine tr_callV (pc := 68) (rest := []) (ci := 10) dX10_findMays_68 ml_X10_199 cv_X10_goThrough rfl rfl (Nat.le_of_ble_eq_true rfl) (hS.1 50 (13, 45) rfl) rfl (by decide) (c_goThrough hS hVP hN5 hSN5 hM5 (Nat.lt_of_not_le q62)) ?_
                          rintro v1 S1 h6 ⟨rfl, rfl, hM6, hf6⟩
                          show T a 3 mX10_findMays 71 [(0, rv a 50), (1, .int (nI m)), (2, .int (nI i))] [] S h6 _
                          refine tr_iinc (pc := 71) (v := nI (i + 1)) (lv' := [(2, .int (nI (i + 1))), (0, rv a 50), (1, .int (nI m))]) 2 dX10_findMays_71 rfl (by rw [show Int32.ofInt 1 = nI 1 from by decide, nI_add]) (by decide) rfl ?_
                          refine tr_goto (pc := 74) (tgt := 56) dX10_findMays_74 (by decide) ?_
                          refine tr_sub (pc := 56) (lv' := [(0, rv a 50), (1, .int (nI m)), (2, .int (nI (i + 1)))]) [1, 2, 0] rfl ?_
                          exact ih4 (i + 1) h6 (by omega) (by omega) hM6 (hSN5.fm hf6 (by decide) (by decide) (by decide) (by decide)) (hf5.trans (hf6.mono (by decide) (by decide)))
                    exact L56 (lnN P m + 1) 0 h4 (by omega) (by omega) hM4 hSN4 hf4
              exact L44 (P.length + 1) 0 _ (by omega) (by omega) ⟨hM.1, rfl⟩ hSN3 (hf3.put (by decide))
        exact L30 1571 0 (fun _ => nI 0, true) _ (by omega) (by omega) ri_0 ⟨fun j hj => hz j (by omega), rfl⟩ hSN2 (hf2.put (by decide))
      · skip
        refine tr_aload_n (pc := 12) 0 dX10_findMays_12 rfl rfl ?_
        refine tr_getR (pc := 13) (q := 61) dX10_findMays_13 (hS.1 50 (13, 45) rfl) fi_X10_40 rfl (hS.2 50 21 61 rfl) ?_
        refine tr_iload_n (pc := 16) 1 dX10_findMays_16 rfl rfl ?_
        refine tr_iconst (pc := 17) (v := nI 0) dX10_findMays_17 (by decide) ?_
        refine tr_iast (pc := 18) k dX10_findMays_18 (hS.1 61 (0, 49) rfl) rfl (by omega) (by decide) ?_
        refine tr_iinc (pc := 19) (v := nI (k + 1)) (lv' := [(1, .int (nI (k + 1))), (0, rv a 50)]) 1 dX10_findMays_19 rfl (by rw [show Int32.ofInt 1 = nI 1 from by decide, nI_add]) (by decide) rfl ?_
        refine tr_goto (pc := 22) (tgt := 6) dX10_findMays_22 (by decide) ?_
        refine tr_sub (pc := 6) (lv' := [(0, rv a 50), (1, .int (nI (k + 1)))]) [1, 0] rfl ?_
        exact ih (k + 1) _ (by omega) (by omega) (fun j hj => by
          rw [hs_same]
          by_cases q : j = k
          · subst q; exact upd_s
          · rw [upd_n q]; exact hz j (by omega)) (hf2.set (by decide) (by decide)) hSN2
  exact L6 50 0 h1 (by omega) (by omega) (fun j hj => by omega) hf1 hSN

set_option maxHeartbeats 4000000 in
set_option maxRecDepth 100000 in
theorem c_mreach {a : Am} {S : St} {h : Hp} (hS : IsSt S) {P : Prog} (hV : VB P) (hSN : SN h P) {Z : ZV} (hM : MN h Z) {x : Int32} : CT a 2 mX10_reachedFrom [rv a 50, .int x] S h (Rt (rch Z.1 (nSt P) x) S h) := by
  obtain ⟨hV1, hV2, hV3⟩ := id hV
  have hns := nSt_le hV
  refine met_of (by decide +kernel) (Nat.le_of_ble_eq_true rfl) ?_
  show T a 2 mX10_reachedFrom 0 [(0, rv a 50), (1, .int x)] [] S h _
  refine tr_iload_n (pc := 0) 1 dX10_reachedFrom_0 rfl rfl ?_
  refine tr_istore_n (pc := 1) (lv' := [(2, .int x), (0, rv a 50), (1, .int x)]) dX10_reachedFrom_1 rfl (by decide) rfl ?_
  refine tr_iconst (pc := 2) (v := nI 0) dX10_reachedFrom_2 (by decide) ?_
  refine tr_istore_n (pc := 3) (lv' := [(3, .int (nI 0)), (2, .int x), (0, rv a 50), (1, .int x)]) dX10_reachedFrom_3 rfl (by decide) rfl ?_
  refine tr_sub (pc := 4) (lv' := [(0, rv a 50), (2, .int x), (3, .int (nI 0))]) [2, 1, 0] rfl ?_
  have L4 : ∀ (fu : Nat) (k : Nat) (y z : Int32), 40 - k < fu → k ≤ pcN z 32 + 1 → RLq Z.1 (nSt P) x k y z → T a 2 mX10_reachedFrom 4 [(0, rv a 50), (2, .int y), (3, .int z)] [] S h (Rt (rch Z.1 (nSt P) x) S h) := by
    intro fu
    induction fu with
    | zero => intro k y z hu hk hR; omega
    | succ fu ih =>
      intro k y z hu hk hR
      have hk2 := pcN_le z 32
      refine tr_iload_n (pc := 4) 1 dX10_reachedFrom_4 rfl rfl ?_
      refine tr_iload_n (pc := 5) 2 dX10_reachedFrom_5 rfl rfl ?_
      refine tr_icmp_eq (pc := 6) (tgt := 22) dX10_reachedFrom_6 (by decide) Iff.rfl (fun q6 => ?_) (fun q6 => ?_)
      · skip
        refine tr_iload_n (pc := 22) 1 dX10_reachedFrom_22 rfl rfl ?_
        exact tr_iret (pc := 23) dX10_reachedFrom_23 rfl rfl (⟨by rw [rl_eq hns hR (by omega) q6], rfl, rfl⟩)
      · skip
        refine tr_iload_n (pc := 9) 1 dX10_reachedFrom_9 rfl rfl ?_
        refine tr_istore_n (pc := 10) (lv' := [(3, .int y), (0, rv a 50), (2, .int y)]) dX10_reachedFrom_10 rfl (by decide) rfl ?_
        refine tr_iload_n (pc := 11) 2 dX10_reachedFrom_11 rfl rfl ?_
        refine tr_aload_n (pc := 12) 1 dX10_reachedFrom_12 rfl rfl ?_
        refine tr_iload_n (pc := 13) 2 dX10_reachedFrom_13 rfl rfl ?_
        refine tr_callV (pc := 14) (rest := [.int y]) (ci := 10) dX10_reachedFrom_14 ml_X10_193 cv_X10_fields rfl rfl (Nat.le_of_ble_eq_true rfl) (hS.1 50 (13, 45) rfl) rfl (by decide) (c_mfields hS hV hSN hM) ?_
        rintro _ _ _ ⟨rfl, rfl, rfl⟩
        show T a 2 mX10_reachedFrom 17 [(3, .int y), (0, rv a 50), (2, .int y)] [.int (flds Z.1 y (nSt P)), .int y] S h _
        refine tr_ior (pc := 17) (v := y ||| (flds Z.1 y (nSt P))) dX10_reachedFrom_17 rfl ?_
        refine tr_istore_n (pc := 18) (lv' := [(2, .int (y ||| (flds Z.1 y (nSt P)))), (3, .int y), (0, rv a 50)]) dX10_reachedFrom_18 rfl (by decide) rfl ?_
        refine tr_goto (pc := 19) (tgt := 4) dX10_reachedFrom_19 (by decide) ?_
        refine tr_sub (pc := 4) (lv' := [(0, rv a 50), (2, .int (y ||| (flds Z.1 y (nSt P)))), (3, .int y)]) [2, 0, 1] rfl ?_
        exact ih (k + 1) _ _ (by omega) (by rcases rl_pc hR with e | e | e <;> first | exact absurd e q6 | omega) (rl_s hR)
  exact L4 41 0 x (nI 0) (by omega) (by omega) ⟨rfl, Or.inl ⟨rfl, rfl⟩⟩
