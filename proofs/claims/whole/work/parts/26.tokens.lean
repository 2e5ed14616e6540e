/-! ===== the tokens of a text, and how it is read: a pure picture ===== -/
def isL (c : Nat) : Bool := decide (97 ≤ c) && decide (c ≤ 122)
theorem isL_iff {c : Nat} : isL c = true ↔ 97 ≤ c ∧ c ≤ 122 := by simp [isL]
def goN (tx : List Nat) (f : Nat → Bool) : Nat → Nat → Nat
  | 0, p => p
  | n + 1, p => if p < tx.length ∧ f (tx.getD p 0) = true then goN tx f n (p + 1) else p
/-- the end of the run of bytes with f from p on -/
def gon (tx : List Nat) (f : Nat → Bool) (p : Nat) : Nat := goN tx f (tx.length - p) p
theorem gon_step {tx : List Nat} {f : Nat → Bool} {p : Nat} (h1 : p < tx.length) (h2 : f (tx.getD p 0) = true) : gon tx f p = gon tx f (p + 1) := by
  unfold gon
  obtain ⟨k, hk⟩ : ∃ k, tx.length - p = k + 1 := ⟨tx.length - p - 1, by omega⟩
  rw [hk, show tx.length - (p + 1) = k by omega]
  show (if p < tx.length ∧ f (tx.getD p 0) = true then goN tx f k (p + 1) else p) = _
  rw [if_pos ⟨h1, h2⟩]
theorem gon_stop {tx : List Nat} {f : Nat → Bool} {p : Nat} (h : ¬ (p < tx.length ∧ f (tx.getD p 0) = true)) : gon tx f p = p := by
  unfold gon
  cases hk : tx.length - p with
  | zero => rfl
  | succ k =>
    show (if p < tx.length ∧ f (tx.getD p 0) = true then goN tx f k (p + 1) else p) = p
    rw [if_neg h]
theorem goN_ge {tx : List Nat} {f : Nat → Bool} : ∀ (n p : Nat), p ≤ goN tx f n p := by
  intro n
  induction n with
  | zero => intro p; exact Nat.le_refl _
  | succ n ih =>
    intro p
    show p ≤ (if p < tx.length ∧ f (tx.getD p 0) = true then goN tx f n (p + 1) else p)
    by_cases h : p < tx.length ∧ f (tx.getD p 0) = true
    · rw [if_pos h]; have := ih (p + 1); omega
    · rw [if_neg h]; exact Nat.le_refl _
theorem goN_le {tx : List Nat} {f : Nat → Bool} : ∀ (n p : Nat), p ≤ tx.length → goN tx f n p ≤ tx.length := by
  intro n
  induction n with
  | zero => intro p h; exact h
  | succ n ih =>
    intro p hp
    show (if p < tx.length ∧ f (tx.getD p 0) = true then goN tx f n (p + 1) else p) ≤ _
    by_cases h : p < tx.length ∧ f (tx.getD p 0) = true
    · rw [if_pos h]; exact ih (p + 1) h.1
    · rw [if_neg h]; exact hp
theorem goN_all {tx : List Nat} {f : Nat → Bool} : ∀ (n p k : Nat), p ≤ k → k < goN tx f n p → f (tx.getD k 0) = true := by
  intro n
  induction n with
  | zero => intro p k h1 h2; exact absurd h2 (by show ¬ k < p; omega)
  | succ n ih =>
    intro p k h1 h2
    have h2 : k < (if p < tx.length ∧ f (tx.getD p 0) = true then goN tx f n (p + 1) else p) := h2
    by_cases h : p < tx.length ∧ f (tx.getD p 0) = true
    · rw [if_pos h] at h2
      by_cases hk : k = p
      · rw [hk]; exact h.2
      · exact ih (p + 1) k (by omega) h2
    · rw [if_neg h] at h2; omega
theorem gon_ge {tx : List Nat} {f : Nat → Bool} {p : Nat} : p ≤ gon tx f p := goN_ge _ _
theorem gon_le {tx : List Nat} {f : Nat → Bool} {p : Nat} (h : p ≤ tx.length) : gon tx f p ≤ tx.length := goN_le _ _ h
/-- letters, blanks -/
def lend (tx : List Nat) (p : Nat) : Nat := gon tx isL p
def isB (c : Nat) : Bool := decide (c = 32)
theorem isB_iff {c : Nat} : isB c = true ↔ c = 32 := by simp [isB]
def skp (tx : List Nat) (p : Nat) : Nat := gon tx isB p
theorem lend_step {tx : List Nat} {p : Nat} (h1 : p < tx.length) (h2 : 97 ≤ tx.getD p 0) (h3 : tx.getD p 0 ≤ 122) : lend tx p = lend tx (p + 1) := gon_step h1 (isL_iff.2 ⟨h2, h3⟩)
theorem lend_stop {tx : List Nat} {p : Nat} (h : ¬ (p < tx.length ∧ 97 ≤ tx.getD p 0 ∧ tx.getD p 0 ≤ 122)) : lend tx p = p := gon_stop (fun q => h ⟨q.1, isL_iff.1 q.2⟩)
theorem skp_step {tx : List Nat} {p : Nat} (h1 : p < tx.length) (h2 : tx.getD p 0 = 32) : skp tx p = skp tx (p + 1) := gon_step h1 (isB_iff.2 h2)
theorem skp_stop {tx : List Nat} {p : Nat} (h : ¬ (p < tx.length ∧ tx.getD p 0 = 32)) : skp tx p = p := gon_stop (fun q => h ⟨q.1, isB_iff.1 q.2⟩)
def wkd (tx : List Nat) (p n : Nat) : Nat := if n = 3 ∧ tx.getD p 0 = 110 ∧ tx.getD (p + 1) 0 = 101 ∧ tx.getD (p + 2) 0 = 119 then 128 else if n = 4 ∧ tx.getD p 0 = 108 ∧ tx.getD (p + 1) 0 = 111 ∧ tx.getD (p + 2) 0 = 99 ∧ tx.getD (p + 3) 0 = 107 then 129 else 130
/-- the kind of the token at p: a byte, 128 new, 129 lock, 130 another word, 131 the end -/
def kd (tx : List Nat) (p : Nat) : Nat := if tx.length ≤ p then 131 else if lend tx p ≤ p + 1 then tx.getD p 0 else wkd tx p (lend tx p - p)
def aft (tx : List Nat) (p : Nat) : Nat := if tx.length ≤ p then p else max (p + 1) (lend tx p)
/-- the place of the next token -/
def Nx (tx : List Nat) (p : Nat) : Nat := skp tx (aft tx p)
def pl (tx : List Nat) : Nat → Nat
  | 0 => skp tx 0
  | j + 1 => Nx tx (pl tx j)
theorem wkd_lt {tx : List Nat} {p n : Nat} : wkd tx p n ≤ 130 ∧ 128 ≤ wkd tx p n := by
  unfold wkd
  split
  · omega
  · split <;> omega
theorem tv_lt {tx : List Nat} (hv : TV tx) {p : Nat} : tx.getD p 0 < 128 := by
  by_cases h : p < tx.length
  · rw [List.getD_eq_getElem?_getD, List.getElem?_eq_getElem h]
    exact hv.2 _ (List.getElem_mem h)
  · rw [List.getD_eq_getElem?_getD, List.getElem?_eq_none (by omega)]
    show (0 : Nat) < 128
    omega
theorem kd_in {tx : List Nat} (hv : TV tx) {p : Nat} (hp : p < tx.length) : kd tx p < 131 := by
  unfold kd
  rw [if_neg (by omega)]
  split
  · have := tv_lt hv (p := p); omega
  · have := (wkd_lt (tx := tx) (p := p) (n := lend tx p - p)).1; omega
theorem kd_end {tx : List Nat} {p : Nat} (hp : tx.length ≤ p) : kd tx p = 131 := by
  unfold kd
  rw [if_pos hp]
theorem kd_le {tx : List Nat} (hv : TV tx) {p : Nat} : kd tx p ≤ 131 := by
  by_cases h : p < tx.length
  · exact Nat.le_of_lt (kd_in hv h)
  · rw [kd_end (by omega)]; exact Nat.le_refl _
theorem kd_lt {tx : List Nat} {p : Nat} (h : kd tx p ≠ 131) : p < tx.length := by
  by_cases hp : p < tx.length
  · exact hp
  · exact absurd (kd_end (by omega)) h
theorem aft_le {tx : List Nat} {p : Nat} (h : p ≤ tx.length) : aft tx p ≤ tx.length := by
  unfold aft
  split
  · exact h
  · have : lend tx p ≤ tx.length := gon_le h
    omega
theorem skp_le {tx : List Nat} {p : Nat} (h : p ≤ tx.length) : skp tx p ≤ tx.length := gon_le h
theorem Nx_le {tx : List Nat} {p : Nat} (h : p ≤ tx.length) : Nx tx p ≤ tx.length := skp_le (aft_le h)
theorem Nx_gt {tx : List Nat} {p : Nat} (h : p < tx.length) : p < Nx tx p := by
  have h1 : p + 1 ≤ aft tx p := by
    unfold aft
    rw [if_neg (by omega)]
    omega
  have h2 : aft tx p ≤ skp tx (aft tx p) := gon_ge
  unfold Nx
  omega
theorem Nx_end {tx : List Nat} {p : Nat} (h : p = tx.length) : Nx tx p = p := by
  have h1 : aft tx p = p := by
    unfold aft
    rw [if_pos (by omega)]
  unfold Nx
  rw [h1]
  exact skp_stop (by omega)
theorem Nx_ge {tx : List Nat} {p : Nat} (h : p ≤ tx.length) : p ≤ Nx tx p := by
  by_cases h1 : p < tx.length
  · exact Nat.le_of_lt (Nx_gt h1)
  · rw [Nx_end (by omega)]; exact Nat.le_refl _
theorem pl_le {tx : List Nat} : ∀ j, pl tx j ≤ tx.length
  | 0 => skp_le (Nat.zero_le _)
  | j + 1 => Nx_le (pl_le j)
/-- a name's number; 4: none -/
def nm (k : Nat) : Nat := if k = 112 then 0 else if k = 97 then 1 else if k = 98 then 2 else if k = 114 then 3 else 4
theorem nm_le {k : Nat} : nm k ≤ 4 := by
  unfold nm
  split
  · omega
  · split
    · omega
    · split
      · omega
      · split <;> omega
def rVal (tx : List Nat) (m x p : Nat) : Except Nat (Ln × Nat) :=
  if kd tx p = 71 then .ok ((5, x, 0, 0), Nx tx p)
  else if kd tx p = 128 then .ok ((0, x, 0, 0), Nx tx p)
  else if 48 + m < kd tx p ∧ kd tx p < 52 then
    if kd tx (Nx tx p) = 40 then
      if nm (kd tx (Nx tx (Nx tx p))) < 4 then
        if kd tx (Nx tx (Nx tx (Nx tx p))) = 41 then .ok ((7, x, nm (kd tx (Nx tx (Nx tx p))), kd tx p - 48), Nx tx (Nx tx (Nx tx (Nx tx p))))
        else .error (Nx tx (Nx tx (Nx tx p)))
      else .error (Nx tx (Nx tx p))
    else .error (Nx tx p)
  else if nm (kd tx p) < 4 then
    if kd tx (Nx tx p) = 46 then
      if kd tx (Nx tx (Nx tx p)) = 102 then .ok ((3, x, nm (kd tx p), 0), Nx tx (Nx tx (Nx tx p)))
      else .error (Nx tx (Nx tx p))
    else .ok ((1, x, nm (kd tx p), 0), Nx tx p)
  else .error p
def rLine (tx : List Nat) (m p : Nat) : Except Nat (Ln × Nat) :=
  if kd tx p = 71 then
    if kd tx (Nx tx p) = 61 then
      if nm (kd tx (Nx tx (Nx tx p))) < 4 then .ok ((4, nm (kd tx (Nx tx (Nx tx p))), 0, 0), Nx tx (Nx tx (Nx tx p)))
      else .error (Nx tx (Nx tx p))
    else .error (Nx tx p)
  else if kd tx p = 129 then
    if nm (kd tx (Nx tx p)) < 4 then .ok ((6, nm (kd tx (Nx tx p)), 0, 0), Nx tx (Nx tx p))
    else .error (Nx tx p)
  else if nm (kd tx p) < 4 then
    if kd tx (Nx tx p) = 46 then
      if kd tx (Nx tx (Nx tx p)) = 102 then
        if kd tx (Nx tx (Nx tx (Nx tx p))) = 61 then
          if nm (kd tx (Nx tx (Nx tx (Nx tx (Nx tx p))))) < 4 then .ok ((2, nm (kd tx p), nm (kd tx (Nx tx (Nx tx (Nx tx (Nx tx p))))), 0), Nx tx (Nx tx (Nx tx (Nx tx (Nx tx p)))))
          else .error (Nx tx (Nx tx (Nx tx (Nx tx p))))
        else .error (Nx tx (Nx tx (Nx tx p)))
      else .error (Nx tx (Nx tx p))
    else if kd tx (Nx tx p) = 61 then rVal tx m (nm (kd tx p)) (Nx tx (Nx tx p))
    else .error (Nx tx p)
  else .error p
def rSemi (tx : List Nat) (r : Except Nat (Ln × Nat)) : Except Nat (Ln × Nat) := match r with
  | .error e => .error e
  | .ok z => if kd tx z.2 = 59 then .ok (z.1, Nx tx z.2) else .error z.2
abbrev Cls : Type := List (Nat × Nat)
def addC (tx : List Nat) (l : Ln) (p : Nat) (C : Cls) : Cls := if l.1 = 7 then C ++ [(l.2.2.2, Nx tx (Nx tx p))] else C
def rBody (tx : List Nat) (m : Nat) : Nat → Nat → List Ln → Cls → Except Nat (List Ln × Cls × Nat)
  | 0, p, L, C => if kd tx p = 125 then .ok (L, C, Nx tx p) else .error p
  | f + 1, p, L, C => if kd tx p = 125 then .ok (L, C, Nx tx p) else
    match rSemi tx (rLine tx m p) with
    | .error e => .error e
    | .ok z => rBody tx m f z.2 (L ++ [z.1]) (addC tx z.1 p C)
def rMeth (tx : List Nat) (m p : Nat) (C : Cls) : Except Nat (List Ln × Cls × Nat) := if kd tx p = 123 then rBody tx m 8 (Nx tx p) [] C else .error p
def rProg (tx : List Nat) : Nat → Nat → Prog → Cls → Except Nat (Prog × Cls)
  | 0, p, P, C => if kd tx p = 131 then .ok (P, C) else .error p
  | f + 1, p, P, C => if kd tx p = 131 then .ok (P, C) else
    match rMeth tx P.length p C with
    | .error e => .error e
    | .ok z => rProg tx f z.2.2 (P ++ [z.1]) z.2.1
def miss (n : Nat) : Cls → Option Nat
  | [] => none
  | c :: C => if n ≤ c.1 then some c.2 else miss n C
def rdA (tx : List Nat) : Except Nat Prog := match rProg tx 4 (skp tx 0) [] [] with
  | .error e => .error e
  | .ok z => match miss z.1.length z.2 with
    | some q => .error q
    | none => .ok z.1
def rAns (r : Except Nat Prog) : Int32 := match r with
  | .error e => nI e
  | .ok _ => -1
/-! what a good line is -/
theorem rVal_ok {tx : List Nat} {m x p q : Nat} {l : Ln} (hx : x < 4) (hm : m < 4) (h : rVal tx m x p = .ok (l, q)) : okL l ∧ (l.1 = 7 → m < l.2.2.2) := by
  unfold rVal at h
  unfold okL
  repeat' split at h
  all_goals first
    | (injection h with h; injection h with h1 h2; subst h1; simp only; refine ⟨⟨?_, ?_, ?_, ?_⟩, ?_⟩ <;> omega)
    | exact absurd h (by intro q; cases q)
theorem rLine_ok {tx : List Nat} {m p q : Nat} {l : Ln} (hm : m < 4) (h : rLine tx m p = .ok (l, q)) : okL l ∧ (l.1 = 7 → m < l.2.2.2) := by
  unfold rLine at h
  repeat' split at h
  all_goals first
    | (injection h with h; injection h with h1 h2; subst h1; unfold okL; simp only; refine ⟨⟨?_, ?_, ?_, ?_⟩, ?_⟩ <;> omega)
    | exact rVal_ok (by assumption) hm h
    | exact absurd h (by intro q; cases q)
