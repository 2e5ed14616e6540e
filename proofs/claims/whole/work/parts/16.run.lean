/-! ===== A RUN: the picture ===== -/
abbrev OT : Type := Option Nat
def tv (x : OT) : Int32 := match x with
  | none => -1
  | some t => nI t
/-- scalars (things, locks, idle locks, calls, leaks), rows (site, maker, made, leaked, locked), what f holds, what G holds -/
abbrev RS : Type := (Nat → Nat) × (Nat → Nat → Nat) × (Nat → OT) × OT
def un (f : Nat → Nat) (k x : Nat) : Nat → Nat := fun j => if j = k then x else f j
def ua (f : Nat → Nat → Nat) (k : Nat) (g : Nat → Nat) : Nat → Nat → Nat := fun j => if j = k then g else f j
def uo (f : Nat → OT) (k : Nat) (x : OT) : Nat → OT := fun j => if j = k then x else f j
theorem un_s {f : Nat → Nat} {k x : Nat} : un f k x k = x := by simp [un]
theorem un_n {f : Nat → Nat} {k x j : Nat} (h : j ≠ k) : un f k x j = f j := by simp [un, h]
theorem ua_s {f : Nat → Nat → Nat} {k : Nat} {g : Nat → Nat} : ua f k g k = g := by simp [ua]
theorem ua_n {f : Nat → Nat → Nat} {k j : Nat} {g : Nat → Nat} (h : j ≠ k) : ua f k g j = f j := by simp [ua, h]
theorem uo_s {f : Nat → OT} {k : Nat} {x : OT} : uo f k x k = x := by simp [uo]
theorem uo_n {f : Nat → OT} {k j : Nat} {x : OT} (h : j ≠ k) : uo f k x j = f j := by simp [uo, h]
def rMake (R : RS) (s c : Nat) : RS := (un R.1 0 (R.1 0 + 1), ua (ua (ua R.2.1 0 (un (R.2.1 0) (R.1 0) s)) 1 (un (R.2.1 1) (R.1 0) c)) 2 (un (R.2.1 2) s (R.2.1 2 s + 1)), uo R.2.2.1 (R.1 0) none, R.2.2.2)
def rSetF (R : RS) (t : Nat) (v : OT) : RS := (R.1, R.2.1, uo R.2.2.1 t v, R.2.2.2)
def rOpen (R : RS) (v : OT) : RS := (R.1, R.2.1, R.2.2.1, v)
def rLock (R : RS) (t b : Nat) : RS := (un (un R.1 1 (R.1 1 + 1)) 2 (R.1 2 + b), ua R.2.1 4 (un (R.2.1 4) (R.2.1 0 t) (R.2.1 4 (R.2.1 0 t) + 1)), R.2.2.1, R.2.2.2)
def rCall (R : RS) : RS := (un R.1 3 (R.1 3 + 1), R.2.1, R.2.2.1, R.2.2.2)
def chn (f : Nat → OT) (s : OT) : Nat → OT
  | 0 => s
  | k + 1 => (chn f s k).bind f
/-- t is come to from s -/
def Rch (f : Nat → OT) (s : OT) (t : Nat) : Prop := ∃ k, chn f s k = some t
def rAll (R : RS) (g r : OT) (t : Nat) : Prop := Rch R.2.2.1 R.2.2.2 t ∨ Rch R.2.2.1 g t ∨ Rch R.2.2.1 r t
noncomputable def lkB (R : RS) (c : Nat) (g r : OT) (t : Nat) : Bool := decide (R.2.1 1 t = c) && @decide (rAll R g r t) (Classical.propDecidable _)
noncomputable def rLeak (R : RS) (c : Nat) (g r : OT) : RS := (un R.1 4 (R.1 4 + cntG (lkB R c g r) (R.1 0)), ua R.2.1 3 (fun s => R.2.1 3 s + cntG (fun t => lkB R c g r t && decide (R.2.1 0 t = s)) (R.1 0)), R.2.2.1, R.2.2.2)
abbrev LnS : Type := RS × (Nat → OT) × Bool
abbrev CR : Type := RS × OT × Bool
def doL (cal : Nat → OT → RS → CR) (P : Prog) (m c i : Nat) (R : RS) (E : Nat → OT) : LnS := match (gt P m i).1 with
  | 0 => (rMake R (sno P m i) c, uo E (gt P m i).2.1 (some (R.1 0)), false)
  | 1 => (R, uo E (gt P m i).2.1 (E (gt P m i).2.2.1), false)
  | 2 => match E (gt P m i).2.1 with
    | none => (R, E, true)
    | some t => (rSetF R t (E (gt P m i).2.2.1), E, false)
  | 3 => match E (gt P m i).2.2.1 with
    | none => (R, E, true)
    | some t => (R, uo E (gt P m i).2.1 (R.2.2.1 t), false)
  | 4 => (rOpen R (E (gt P m i).2.1), E, false)
  | 5 => (R, uo E (gt P m i).2.1 R.2.2.2, false)
  | 6 => match E (gt P m i).2.1 with
    | none => (R, E, true)
    | some t => (rLock R t (if tb (idl P m) i = true then 1 else 0), E, false)
  | _ => ((cal (gt P m i).2.2.2 (E (gt P m i).2.2.1) R).1, uo E (gt P m i).2.1 (cal (gt P m i).2.2.2 (E (gt P m i).2.2.1) R).2.1, (cal (gt P m i).2.2.2 (E (gt P m i).2.2.1) R).2.2)
def runL (cal : Nat → OT → RS → CR) (P : Prog) (m c : Nat) (R : RS) (E : Nat → OT) : Nat → LnS
  | 0 => (R, E, false)
  | i + 1 => if (runL cal P m c R E i).2.2 = true then runL cal P m c R E i else doL cal P m c i (runL cal P m c R E i).1 (runL cal P m c R E i).2.1
def E0 (g : OT) : Nat → OT := fun x => if x = 0 then g else none
noncomputable def exM (P : Prog) : Nat → Nat → OT → RS → CR
  | 0, _, _, R => (R, none, false)
  | k + 1, m, g, R =>
    let s := runL (exM P k) P m (R.1 3) (rCall R) (E0 g) (lnN P m)
    if s.2.2 = true then (s.1, s.2.1 3, true) else (rLeak s.1 (R.1 3) g (s.2.1 3), s.2.1 3, false)
def R0 : RS := (fun _ => 0, fun _ _ => 0, fun _ => none, none)
noncomputable def runP (P : Prog) : CR := if 0 < P.length then exM P 4 0 none R0 else (R0, none, false)
/-! what always holds of things -/
def okT (n : Nat) (x : OT) : Prop := ∀ u, x = some u → u < n
def WF (P : Prog) (R : RS) : Prop := (∀ t, t < R.1 0 → R.2.1 0 t < nSt P ∧ okT (R.1 0) (R.2.2.1 t) ∧ R.2.1 1 t < R.1 3) ∧ okT (R.1 0) R.2.2.2
def WE (R : RS) (E : Nat → OT) : Prop := ∀ x, okT (R.1 0) (E x)
theorem okT.le {n n' : Nat} {x : OT} (h : okT n x) (hn : n ≤ n') : okT n' x := fun u hu => Nat.lt_of_lt_of_le (h u hu) hn
theorem okT.none {n : Nat} : okT n none := fun u hu => by cases hu
theorem okT.some {n t : Nat} (h : t < n) : okT n (some t) := fun u hu => by cases hu; exact h
theorem okT_uo {n k : Nat} {x : OT} {f : Nat → OT} (hf : ∀ j, okT n (f j)) (hx : okT n x) : ∀ j, okT n (uo f k x j) := by
  intro j
  by_cases q : j = k
  · subst q; rw [uo_s]; exact hx
  · rw [uo_n q]; exact hf j
/-- what a step does to things: older ones keep site and maker, new ones are of calls from c0 on -/
def Nw (c0 : Nat) (R R' : RS) : Prop := R.1 0 ≤ R'.1 0 ∧ R.1 3 ≤ R'.1 3 ∧ (∀ t, t < R.1 0 → R'.2.1 0 t = R.2.1 0 t ∧ R'.2.1 1 t = R.2.1 1 t) ∧ ∀ t, R.1 0 ≤ t → t < R'.1 0 → c0 ≤ R'.2.1 1 t
theorem Nw.rf {c0 : Nat} {R : RS} : Nw c0 R R := ⟨Nat.le_refl _, Nat.le_refl _, fun _ _ => ⟨rfl, rfl⟩, fun t h1 h2 => by omega⟩
theorem Nw.same {c0 : Nat} {R R' : RS} (h0 : R'.1 0 = R.1 0) (h1 : R.1 3 ≤ R'.1 3) (h2 : R'.2.1 0 = R.2.1 0) (h3 : R'.2.1 1 = R.2.1 1) : Nw c0 R R' := ⟨by omega, h1, fun t _ => by rw [h2, h3]; exact ⟨rfl, rfl⟩, fun t a b => by omega⟩
theorem Nw.trans {c0 : Nat} {R R1 R2 : RS} (h1 : Nw c0 R R1) (h2 : Nw c0 R1 R2) : Nw c0 R R2 := by
  obtain ⟨a1, a2, a3, a4⟩ := h1
  obtain ⟨b1, b2, b3, b4⟩ := h2
  refine ⟨by omega, by omega, fun t ht => ?_, fun t p q => ?_⟩
  · have e1 := a3 t ht
    have e2 := b3 t (by omega)
    exact ⟨e2.1.trans e1.1, e2.2.trans e1.2⟩
  · by_cases z : t < R1.1 0
    · rw [(b3 t z).2]; exact a4 t p z
    · exact b4 t (by omega) q
theorem Nw.mono {c0 c1 : Nat} {R R' : RS} (h : Nw c1 R R') (hc : c0 ≤ c1) : Nw c0 R R' := ⟨h.1, h.2.1, h.2.2.1, fun t a b => Nat.le_trans hc (h.2.2.2 t a b)⟩
/-- how many things a call has made -/
def mkN (R : RS) (c : Nat) : Nat := cntG (fun t => decide (R.2.1 1 t = c)) (R.1 0)
theorem mkN_nw {c0 c : Nat} {R R' : RS} (h : Nw c0 R R') (hc : c < c0) : mkN R' c = mkN R c := by
  obtain ⟨a1, a2, a3, a4⟩ := h
  unfold mkN
  have e : cntG (fun t => decide (R'.2.1 1 t = c)) (R'.1 0) = cntG (fun t => decide (R'.2.1 1 t = c)) (R.1 0 + (R'.1 0 - R.1 0)) := by congr 1; omega
  rw [e, cntG_add]
  have e1 : cntG (fun s => decide (R'.2.1 1 (R.1 0 + s) = c)) (R'.1 0 - R.1 0) = 0 := cntG_0 (fun s hs => by
    have := a4 (R.1 0 + s) (by omega) (by omega)
    simp
    omega)
  rw [e1, Nat.add_zero]
  exact cntG_congr (fun s hs => by rw [(a3 s hs).2])
theorem mkN_0 {R : RS} {c : Nat} (h : ∀ t, t < R.1 0 → R.2.1 1 t < c) : mkN R c = 0 := cntG_0 (fun t ht => by have := h t ht; simp; omega)
theorem mk_n0 (R : RS) (s c : Nat) : (rMake R s c).1 0 = R.1 0 + 1 := by simp [rMake, un]
theorem mk_n3 (R : RS) (s c : Nat) : (rMake R s c).1 3 = R.1 3 := by simp [rMake, un]
theorem mk_a0 (R : RS) (s c : Nat) : (rMake R s c).2.1 0 = un (R.2.1 0) (R.1 0) s := by simp [rMake, ua]
theorem mk_a1 (R : RS) (s c : Nat) : (rMake R s c).2.1 1 = un (R.2.1 1) (R.1 0) c := by simp [rMake, ua]
theorem mk_a2 (R : RS) (s c : Nat) : (rMake R s c).2.1 2 = un (R.2.1 2) s (R.2.1 2 s + 1) := by simp [rMake, ua]
theorem nw_make {R : RS} {s c c0 : Nat} (hc : c0 ≤ c) : Nw c0 R (rMake R s c) := by
  refine ⟨by rw [mk_n0]; omega, by rw [mk_n3]; exact Nat.le_refl _, fun t ht => ?_, fun t h1 h2 => ?_⟩
  · rw [mk_a0, mk_a1, un_n (by omega), un_n (by omega)]; exact ⟨rfl, rfl⟩
  · rw [mk_n0] at h2
    rw [mk_a1, show t = R.1 0 by omega, un_s]; exact hc
theorem wf_make {P : Prog} {R : RS} {s c : Nat} (h : WF P R) (hs : s < nSt P) (hc : c < R.1 3) : WF P (rMake R s c) := by
  obtain ⟨h1, h2⟩ := h
  refine ⟨fun t ht => ?_, ?_⟩
  · rw [mk_n0] at ht
    rw [mk_n0, mk_n3, mk_a0, mk_a1]
    show _ ∧ okT _ (uo R.2.2.1 (R.1 0) none t) ∧ _
    by_cases q : t = R.1 0
    · rw [q, un_s, un_s, uo_s]; exact ⟨hs, okT.none, hc⟩
    · rw [un_n q, un_n q, uo_n q]
      obtain ⟨a1, a2, a3⟩ := h1 t (by omega)
      exact ⟨a1, a2.le (by omega), a3⟩
  · rw [mk_n0]
    exact h2.le (by omega)
def cB : Nat → Nat
  | 0 => 0
  | k + 1 => 1 + 8 * cB k
/-- what a call leaves: CG k R R' r -/
def CG (P : Prog) (k : Nat) (R : RS) (X : CR) : Prop := WF P X.1 ∧ okT (X.1.1 0) X.2.1 ∧ Nw (R.1 3) R X.1 ∧ X.1.1 0 ≤ R.1 0 + 8 ^ k ∧ X.1.1 3 ≤ R.1 3 + cB k
/-- what the lines of a call leave, up to line i -/
def LG (P : Prog) (k m c i : Nat) (R : RS) (X : LnS) : Prop := WF P X.1 ∧ WE X.1 X.2.1 ∧ Nw c R X.1 ∧ X.1.1 0 ≤ R.1 0 + i * 8 ^ k ∧ X.1.1 3 ≤ R.1 3 + 1 + i * cB k ∧ R.1 3 < X.1.1 3 ∧ (X.2.2 = false → mkN X.1 c = (sitesM P m i).length)
theorem wf_set {P : Prog} {R : RS} {t : Nat} {v : OT} (h : WF P R) (hv : okT (R.1 0) v) : WF P (rSetF R t v) := by
  refine ⟨fun u hu => ?_, h.2⟩
  obtain ⟨a1, a2, a3⟩ := h.1 u hu
  refine ⟨a1, ?_, a3⟩
  show okT _ (uo R.2.2.1 t v u)
  by_cases q : u = t
  · subst q; rw [uo_s]; exact hv
  · rw [uo_n q]; exact a2
theorem lg_step {P : Prog} {k m i : Nat} {R : RS} {X : LnS} {cal : Nat → OT → RS → CR} (hV : VP P) (hi : i < lnN P m) (h : LG P k m (R.1 3) i R X) (hf : X.2.2 = false)
    (hcal : ∀ g R1, WF P R1 → okT (R1.1 0) g → (gt P m i).1 = 7 → CG P k R1 (cal (gt P m i).2.2.2 g R1)) : LG P k m (R.1 3) (i + 1) R (doL cal P m (R.1 3) i X.1 X.2.1) := by
  obtain ⟨w1, w2, w3, w4, w5, w6, w7⟩ := h
  have w7 := w7 hf
  have hp : 0 < 8 ^ k := Nat.pow_pos (by decide)
  have hexp : (i + 1) * 8 ^ k = i * 8 ^ k + 8 ^ k := by rw [Nat.add_mul, Nat.one_mul]
  have hexc : (i + 1) * cB k = i * cB k + cB k := by rw [Nat.add_mul, Nat.one_mul]
  have keep : ∀ (X' : LnS), ¬ (gt P m i).1 = 0 → WF P X'.1 → WE X'.1 X'.2.1 → X'.1.1 0 = X.1.1 0 → X'.1.1 3 = X.1.1 3 → X'.1.2.1 0 = X.1.2.1 0 → X'.1.2.1 1 = X.1.2.1 1 → LG P k m (R.1 3) (i + 1) R X' := by
    intro X' hs a1 a2 a3 a4 a5 a6
    refine ⟨a1, a2, w3.trans (Nw.same a3 (by omega) a5 a6), by omega, by omega, by omega, fun _ => ?_⟩
    rw [sitesM_s, if_neg hs, ← w7]
    unfold mkN
    rw [a3, a6]
  unfold doL
  split
  · rename_i q
    have hc : R.1 3 < X.1.1 3 := w6
    refine ⟨wf_make w1 (sno_lt hi q) hc, ?_, w3.trans (nw_make (Nat.le_refl _)), ?_, ?_, ?_, fun _ => ?_⟩
    · intro x
      show okT _ (uo _ _ _ x)
      rw [mk_n0]
      exact okT_uo (fun j => (w2 j).le (by omega)) (okT.some (by omega)) x
    · show (rMake _ _ _).1 0 ≤ _; rw [mk_n0]; omega
    · show (rMake _ _ _).1 3 ≤ _; rw [mk_n3]; omega
    · show _ < (rMake _ _ _).1 3; rw [mk_n3]; omega
    · show mkN (rMake X.1 (sno P m i) (R.1 3)) (R.1 3) = _
      rw [sitesM_s, if_pos q]
      unfold mkN at w7 ⊢
      rw [mk_n0, mk_a1]
      have e5 : un (X.1.2.1 1) (X.1.1 0) (R.1 3) (X.1.1 0) = R.1 3 := un_s
      have key : cntG (fun t => decide (un (X.1.2.1 1) (X.1.1 0) (R.1 3) t = R.1 3)) (X.1.1 0) = cntG (fun t => decide (X.1.2.1 1 t = R.1 3)) (X.1.1 0) := cntG_congr (fun s hs => by rw [un_n (by omega)])
      simp only [cntG, List.length_append, List.length_singleton]
      rw [key, w7]
      simp [e5]
  · rename_i q
    exact keep _ (by omega) w1 (okT_uo w2 (w2 _)) rfl rfl rfl rfl
  · rename_i q
    split
    · exact keep _ (by omega) w1 w2 rfl rfl rfl rfl
    · exact keep _ (by omega) (wf_set w1 (w2 _)) w2 rfl rfl rfl rfl
  · rename_i q
    split
    · exact keep _ (by omega) w1 w2 rfl rfl rfl rfl
    · rename_i t ht
      exact keep _ (by omega) w1 (okT_uo w2 ((w1.1 t (w2 _ t ht)).2.1)) rfl rfl rfl rfl
  · rename_i q
    exact keep _ (by omega) ⟨w1.1, w2 _⟩ w2 rfl rfl rfl rfl
  · rename_i q
    exact keep _ (by omega) w1 (okT_uo w2 w1.2) rfl rfl rfl rfl
  · rename_i q
    split
    · exact keep _ (by omega) w1 w2 rfl rfl rfl rfl
    · have e0 : ∀ t b, (rLock X.1 t b).1 0 = X.1.1 0 := fun t b => by simp [rLock, un]
      have e3 : ∀ t b, (rLock X.1 t b).1 3 = X.1.1 3 := fun t b => by simp [rLock, un]
      have a0 : ∀ t b, (rLock X.1 t b).2.1 0 = X.1.2.1 0 := fun t b => by simp [rLock, ua]
      have a1 : ∀ t b, (rLock X.1 t b).2.1 1 = X.1.2.1 1 := fun t b => by simp [rLock, ua]
      refine keep _ (by omega) ⟨fun u hu => ?_, ?_⟩ (fun x => ?_) (e0 _ _) (e3 _ _) (a0 _ _) (a1 _ _)
      · rw [e0] at hu
        rw [e0, e3, a0, a1]
        exact w1.1 u hu
      · rw [e0]; exact w1.2
      · show okT ((rLock _ _ _).1 0) _; rw [e0]; exact w2 x
  · rename_i q0 q1 q2 q3 q4 q5 q6
    have ho := (hV.1.2.2 m i hi).1
    have q7 : (gt P m i).1 = 7 := by
      have : ∀ j, (gt P m i).1 = j → j = 0 ∨ j = 1 ∨ j = 2 ∨ j = 3 ∨ j = 4 ∨ j = 5 ∨ j = 6 ∨ j = 7 := fun j hj => by omega
      rcases this _ rfl with e | e | e | e | e | e | e | e
      · exact absurd e q0
      · exact absurd e q1
      · exact absurd e q2
      · exact absurd e q3
      · exact absurd e q4
      · exact absurd e q5
      · exact absurd e q6
      · exact e
    obtain ⟨c1, c2, c3, c4, c5⟩ := hcal (X.2.1 (gt P m i).2.2.1) X.1 w1 (w2 _) q7
    refine ⟨c1, okT_uo (fun j => (w2 j).le c3.1) c2, w3.trans (c3.mono (by omega)), by show (cal _ _ _).1.1 0 ≤ _; omega, by show (cal _ _ _).1.1 3 ≤ _; omega, by have := c3.2.1; show _ < (cal _ _ _).1.1 3; omega, fun _ => ?_⟩
    show mkN (cal _ _ _).1 _ = _
    rw [mkN_nw c3 w6, w7, sitesM_s, if_neg (by omega)]
theorem lg_mono {P : Prog} {k m c i : Nat} {R : RS} {X : LnS} (h : LG P k m c i R X) (hf : X.2.2 = true) : LG P k m c (i + 1) R X := by
  obtain ⟨w1, w2, w3, w4, w5, w6, w7⟩ := h
  unfold LG
  generalize 8 ^ k = p at *
  generalize cB k = q at *
  have hexp : (i + 1) * p = i * p + p := by rw [Nat.add_mul, Nat.one_mul]
  have hexc : (i + 1) * q = i * q + q := by rw [Nat.add_mul, Nat.one_mul]
  exact ⟨w1, w2, w3, by omega, by omega, w6, fun h => by rw [hf] at h; cases h⟩
theorem rc_0 (R : RS) : (rCall R).1 0 = R.1 0 := by simp [rCall, un]
theorem rc_3 (R : RS) : (rCall R).1 3 = R.1 3 + 1 := by simp [rCall, un]
theorem wf_call {P : Prog} {R : RS} (h : WF P R) : WF P (rCall R) := by
  refine ⟨fun t ht => ?_, by rw [rc_0]; exact h.2⟩
  rw [rc_0] at ht
  obtain ⟨a1, a2, a3⟩ := h.1 t ht
  rw [rc_0, rc_3]
  exact ⟨a1, a2, Nat.lt_succ_of_lt a3⟩
theorem okE0 {n : Nat} {g : OT} (h : okT n g) : ∀ x, okT n (E0 g x) := by
  intro x
  unfold E0
  split
  · exact h
  · exact okT.none
theorem lg_0 {P : Prog} {k m : Nat} {R : RS} {g : OT} (h : WF P R) (hg : okT (R.1 0) g) : LG P k m (R.1 3) 0 R (rCall R, E0 g, false) := by
  refine ⟨wf_call h, fun x => by show okT ((rCall R).1 0) _; rw [rc_0]; exact okE0 hg x, Nw.same (rc_0 R) (by rw [rc_3]; omega) rfl rfl, by show (rCall R).1 0 ≤ _; rw [rc_0]; omega, by show (rCall R).1 3 ≤ _; rw [rc_3]; omega, by show _ < (rCall R).1 3; rw [rc_3]; omega, fun _ => ?_⟩
  show mkN (rCall R) _ = 0
  exact mkN_0 (fun t ht => by rw [rc_0] at ht; exact (h.1 t ht).2.2)
theorem cg_call {P : Prog} (hV : VP P) : ∀ (k m : Nat) (g : OT) (R : RS), 4 ≤ m + k → WF P R → okT (R.1 0) g → CG P k R (exM P k m g R) ∧ ∀ i, i ≤ lnN P m → 0 < k → LG P (k - 1) m (R.1 3) i R (runL (exM P (k - 1)) P m (R.1 3) (rCall R) (E0 g) i) := by
  intro k
  induction k with
  | zero =>
    intro m g R hmk hw hg
    exact ⟨⟨hw, okT.none, Nw.rf, by show R.1 0 ≤ _; omega, by show R.1 3 ≤ _; omega⟩, fun i _ h0 => by omega⟩
  | succ k ih =>
    intro m g R hmk hw hg
    have lines : ∀ i, i ≤ lnN P m → LG P k m (R.1 3) i R (runL (exM P k) P m (R.1 3) (rCall R) (E0 g) i) := by
      intro i
      induction i with
      | zero => intro _; exact lg_0 hw hg
      | succ i ihi =>
        intro hi
        have h := ihi (by omega)
        simp only [runL]
        by_cases q : (runL (exM P k) P m (R.1 3) (rCall R) (E0 g) i).2.2 = true
        · rw [if_pos q]; exact lg_mono h q
        · rw [if_neg q]
          refine lg_step hV (by omega) h (by simpa using q) (fun g1 R1 hw1 hg1 q7 => (ih _ g1 R1 ?_ hw1 hg1).1)
          have := (hV.2 m i (by omega) q7).1
          omega
    refine ⟨?_, fun i hi _ => lines i hi⟩
    obtain ⟨w1, w2, w3, w4, w5, w6, w7⟩ := lines (lnN P m) (Nat.le_refl _)
    have h8 := hV.1.2.1 m
    have hb1 : lnN P m * 8 ^ k ≤ 8 ^ (k + 1) := by rw [Nat.pow_succ, Nat.mul_comm (8 ^ k)]; exact Nat.mul_le_mul_right _ h8
    have hb2 : lnN P m * cB k ≤ 8 * cB k := Nat.mul_le_mul_right _ h8
    have hcb : cB (k + 1) = 1 + 8 * cB k := rfl
    show CG P (k + 1) R (if (runL (exM P k) P m (R.1 3) (rCall R) (E0 g) (lnN P m)).2.2 = true then _ else _)
    split
    · exact ⟨w1, w2 3, w3, by show (runL (exM P k) P m (R.1 3) (rCall R) (E0 g) (lnN P m)).1.1 0 ≤ R.1 0 + 8 ^ (k + 1); omega, by show (runL (exM P k) P m (R.1 3) (rCall R) (E0 g) (lnN P m)).1.1 3 ≤ R.1 3 + cB (k + 1); omega⟩
    · have e0 : ∀ X c g r, (rLeak X c g r).1 0 = X.1 0 := fun X c g r => by simp [rLeak, un]
      have e3 : ∀ X c g r, (rLeak X c g r).1 3 = X.1 3 := fun X c g r => by simp [rLeak, un]
      have a0 : ∀ X c g r, (rLeak X c g r).2.1 0 = X.2.1 0 := fun X c g r => by simp [rLeak, ua]
      have a1 : ∀ X c g r, (rLeak X c g r).2.1 1 = X.2.1 1 := fun X c g r => by simp [rLeak, ua]
      refine ⟨⟨fun t ht => ?_, by rw [e0]; exact w1.2⟩, by rw [e0]; exact w2 3, w3.trans (Nw.same (e0 _ _ _ _) (by rw [e3]; exact Nat.le_refl _) (a0 _ _ _ _) (a1 _ _ _ _)), by rw [e0]; omega, by rw [e3]; omega⟩
      rw [e0] at ht
      rw [e0, e3, a0, a1]
      exact w1.1 t ht
/-! following f -/
theorem Rch_step {f : Nat → OT} {s : OT} {t u : Nat} (h : Rch f s t) (e : f t = some u) : Rch f s u := by
  obtain ⟨k, hk⟩ := h
  exact ⟨k + 1, by show (chn f s k).bind f = _; rw [hk]; exact e⟩
theorem Rch_0 {f : Nat → OT} {t : Nat} : Rch f (some t) t := ⟨0, rfl⟩
theorem Rch_none {f : Nat → OT} {t : Nat} : ¬ Rch f none t := by
  rintro ⟨k, hk⟩
  have : ∀ k, chn f none k = none := by
    intro k
    induction k with
    | zero => rfl
    | succ k ih => show (chn f none k).bind f = none; rw [ih]; rfl
  rw [this k] at hk
  cases hk
def ub (f : Nat → Bool) (k : Nat) : Nat → Bool := fun j => if j = k then true else f j
theorem ub_s {f : Nat → Bool} {k : Nat} : ub f k k = true := by simp [ub]
theorem ub_n {f : Nat → Bool} {k j : Nat} (h : j ≠ k) : ub f k j = f j := by simp [ub, h]
theorem ub_m {f : Nat → Bool} {k j : Nat} (h : f j = true) : ub f k j = true := by
  by_cases q : j = k
  · subst q; exact ub_s
  · rw [ub_n q]; exact h
/-- the marked things are closed under f, but for x -/
def Cx (f : Nat → OT) (M : Nat → Bool) (n : Nat) (x : OT) : Prop := ∀ t, t < n → M t = true → ∀ u, f t = some u → M u = true ∨ x = some u
def Cl (f : Nat → OT) (M : Nat → Bool) (n : Nat) : Prop := ∀ t, t < n → M t = true → ∀ u, f t = some u → M u = true
theorem Cl.cx {f : Nat → OT} {M : Nat → Bool} {n : Nat} {x : OT} (h : Cl f M n) : Cx f M n x := fun t ht hm u hu => Or.inl (h t ht hm u hu)
theorem cx_step {f : Nat → OT} {M : Nat → Bool} {n t : Nat} (h : Cx f M n (some t)) : Cx f (ub M t) n (f t) := by
  intro v hv hm u hu
  by_cases q : v = t
  · subst q; exact Or.inr hu
  · rw [ub_n q] at hm
    rcases h v hv hm u hu with h1 | h1
    · exact Or.inl (ub_m h1)
    · cases h1; exact Or.inl ub_s
theorem cx_none {f : Nat → OT} {M : Nat → Bool} {n : Nat} (h : Cx f M n none) : Cl f M n := fun t ht hm u hu => (h t ht hm u hu).resolve_right (fun q => by cases q)
theorem cx_seen {f : Nat → OT} {M : Nat → Bool} {n t : Nat} (h : Cx f M n (some t)) (hm : M t = true) : Cl f M n := fun v hv hm2 u hu => by
  rcases h v hv hm2 u hu with h1 | h1
  · exact h1
  · cases h1; exact hm
theorem cl_reach {f : Nat → OT} {M : Nat → Bool} {n : Nat} {s : OT} (h : Cl f M n) (hf : ∀ t, t < n → okT n (f t)) (hs : okT n s) (hm : ∀ u, s = some u → M u = true) : ∀ t, Rch f s t → M t = true := by
  have key : ∀ k t, chn f s k = some t → t < n ∧ M t = true := by
    intro k
    induction k with
    | zero => intro t ht; exact ⟨hs t ht, hm t ht⟩
    | succ k ih =>
      intro t ht
      have ht : (chn f s k).bind f = some t := ht
      cases e : chn f s k with
      | none => rw [e] at ht; cases ht
      | some v =>
        rw [e] at ht
        obtain ⟨h1, h2⟩ := ih v e
        have ht : f v = some t := ht
        exact ⟨hf v h1 t ht, h v h1 h2 t ht⟩
  rintro t ⟨k, hk⟩
  exact (key k t hk).2
theorem cntG_ub {f g : Nat → Bool} {n t : Nat} (ht : t < n) (h1 : f t = false) (h2 : g t = true) (h3 : ∀ j, j ≠ t → g j = f j) : cntG g n = cntG f n + 1 := by
  induction n with
  | zero => omega
  | succ n ih =>
    simp only [cntG]
    by_cases q : t = n
    · subst q
      rw [h1, h2, cntG_congr (fun s hs => h3 s (by omega))]
      simp
    · rw [ih (by omega), h3 n (fun e => q e.symm)]
      omega
theorem cntG_sub {f g : Nat → Bool} {n : Nat} (h : ∀ j, j < n → f j = true → g j = true) : cntG f n ≤ cntG g n := by
  induction n with
  | zero => exact Nat.le_refl _
  | succ n ih =>
    simp only [cntG]
    have := ih (fun j hj => h j (by omega))
    have h1 := h n (by omega)
    cases e : f n with
    | false => simp; omega
    | true => rw [h1 e]; simp; omega
theorem cntG_full {f g : Nat → Bool} {n : Nat} (h : ∀ j, j < n → f j = true → g j = true) (e : cntG f n = cntG g n) : ∀ j, j < n → f j = g j := by
  induction n with
  | zero => intro j hj; omega
  | succ n ih =>
    simp only [cntG] at e
    have h1 := cntG_sub (n := n) (fun j hj => h j (by omega))
    have h2 := h n (by omega)
    intro j hj
    cases e1 : f n with
    | true =>
      rw [e1, h2 e1] at e
      by_cases q : j = n
      · subst q; rw [e1, h2 e1]
      · exact ih (fun j hj => h j (by omega)) (by simpa using e) j (by omega)
    | false =>
      cases e2 : g n with
      | true => rw [e1, e2] at e; simp at e; omega
      | false =>
        rw [e1, e2] at e
        by_cases q : j = n
        · subst q; rw [e1, e2]
        · exact ih (fun j hj => h j (by omega)) (by simpa using e) j (by omega)
theorem cntG_lt {f : Nat → Bool} {n t : Nat} (ht : t < n) (h : f t = false) : cntG f n < n := by
  have h1 := cntG_sub (f := f) (g := ub f t) (n := n) (fun j _ hj => ub_m hj)
  have h2 := cntG_ub (f := f) (g := ub f t) ht h ub_s (fun j hj => ub_n hj)
  have h3 := cntG_le (ub f t) n
  omega
