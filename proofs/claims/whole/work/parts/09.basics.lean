/-! ===== numbers, answers, programs ===== -/
theorem nI_z_eq {n : Nat} (h : n < 2 ^ 31) : nI n = 0 ↔ n = 0 := by rw [← nI_0, nI_eq h (by decide)]
theorem nI_z_lt {n : Nat} (h : n < 2 ^ 31) : nI n < 0 ↔ False := ⟨fun q => nI_pos h q, fun q => q.elim⟩
theorem nI_z_ge {n : Nat} (h : n < 2 ^ 31) : 0 ≤ nI n ↔ True := ⟨fun _ => trivial, fun _ => nI_pos' h⟩
theorem nI_z_gt {n : Nat} (h : n < 2 ^ 31) : 0 < nI n ↔ 0 < n := by rw [← nI_0, nI_ltI (by decide) h]
theorem nI_z_le {n : Nat} (h : n < 2 ^ 31) : nI n ≤ 0 ↔ n = 0 := by rw [← nI_0, nI_leI h (by decide)]; omega
/-- the answer is x, and nothing has changed -/
abbrev Rt (x : Int32) (S : St) (h : Hp) : Option Value → St → Hp → Prop := fun v S' h' => v = some (.int x) ∧ S = S' ∧ h = h'
/-- no answer, the heap is now h2 -/
abbrev Rv (S : St) (h2 : Hp) : Option Value → St → Hp → Prop := fun v S' h' => v = none ∧ S = S' ∧ h2 = h'
/-- a number that is no place of n -/
def outN (x : Int32) (n : Nat) : Prop := x < 0 ∨ nI n ≤ x
theorem in_or (x : Int32) {n : Nat} (hn : n < 2 ^ 31) : outN x n ∨ ∃ j, j < n ∧ x = nI j := by
  rcases pk_ix x hn with h | h | h
  · exact Or.inl (Or.inl h)
  · exact Or.inl (Or.inr h)
  · exact Or.inr h
abbrev Ln : Type := Nat × Nat × Nat × Nat
abbrev Prog : Type := List (List Ln)
def enc (l : Ln) : Nat := l.1 + 8 * l.2.1 + 32 * l.2.2.1 + 128 * l.2.2.2
def lnN (P : Prog) (m : Nat) : Nat := (P.getD m []).length
def gt (P : Prog) (m i : Nat) : Ln := (P.getD m []).getD i (0, 0, 0, 0)
def okL (l : Ln) : Prop := l.1 < 8 ∧ l.2.1 < 4 ∧ l.2.2.1 < 4 ∧ l.2.2.2 < 4
/-- a program's lines are as they may be -/
def VB (P : Prog) : Prop := P.length ≤ 4 ∧ (∀ m, lnN P m ≤ 8) ∧ ∀ m i, i < lnN P m → okL (gt P m i)
def VC (P : Prog) : Prop := ∀ m i, i < lnN P m → (gt P m i).1 = 7 → m < (gt P m i).2.2.2 ∧ (gt P m i).2.2.2 < P.length
def VP (P : Prog) : Prop := VB P ∧ VC P
/-- an object of the class Methods: its cells -/
def MO (S : St) (o : Nat) : Prop := S.1[o]? = some (5, 3) ∧ S.1[o + 1]? = some (0, 4) ∧ S.1[o + 2]? = some (0, 32) ∧ S.2 o 1 = some (o + 1) ∧ S.2 o 2 = some (o + 2)
/-- .. and what it holds -/
def MP (h : Hp) (o : Nat) (P : Prog) : Prop := h o 0 = nI P.length ∧ (∀ m, m < P.length → h (o + 1) m = nI (lnN P m)) ∧ ∀ m i, m < P.length → i < lnN P m → h (o + 2) (m * 8 + i) = nI (enc (gt P m i))
theorem lnN_lt {P : Prog} {m i : Nat} (h : i < lnN P m) : m < P.length := by
  unfold lnN at h
  rcases Nat.lt_or_ge m P.length with q | q
  · exact q
  · simp [List.getD_eq_getElem?_getD, List.getElem?_eq_none q] at h
theorem enc_lt {l : Ln} (h : okL l) : enc l < 512 := by
  obtain ⟨h1, h2, h3, h4⟩ := h
  unfold enc
  omega
theorem enc_sort {l : Ln} (h : okL l) : nI (enc l) &&& nI 7 = nI l.1 := by
  have h0 := enc_lt h
  obtain ⟨h1, h2, h3, h4⟩ := h
  rw [pk_andN (by omega) 3 (by decide)]
  congr 1
  unfold enc
  omega
theorem enc_name {l : Ln} (h : okL l) : nI (enc l) >>> (nI 3 &&& 31) &&& nI 3 = nI l.2.1 := by
  have h0 := enc_lt h
  obtain ⟨h1, h2, h3, h4⟩ := h
  rw [pk_shrN (by omega) _ 3 (by decide), pk_andN (by omega) 2 (by decide)]
  congr 1
  unfold enc
  omega
theorem enc_other {l : Ln} (h : okL l) : nI (enc l) >>> (nI 5 &&& 31) &&& nI 3 = nI l.2.2.1 := by
  have h0 := enc_lt h
  obtain ⟨h1, h2, h3, h4⟩ := h
  rw [pk_shrN (by omega) _ 5 (by decide), pk_andN (by omega) 2 (by decide)]
  congr 1
  unfold enc
  omega
theorem enc_callee {l : Ln} (h : okL l) : nI (enc l) >>> (nI 7 &&& 31) &&& nI 3 = nI l.2.2.2 := by
  have h0 := enc_lt h
  obtain ⟨h1, h2, h3, h4⟩ := h
  rw [pk_shrN (by omega) _ 7 (by decide), pk_andN (by omega) 2 (by decide)]
  congr 1
  unfold enc
  omega
theorem nI_or (a b : Nat) : nI a ||| nI b = nI (a ||| b) := by
  apply Int32.toBitVec_inj.mp
  show BitVec.ofNat 32 a ||| BitVec.ofNat 32 b = BitVec.ofNat 32 (a ||| b)
  apply BitVec.eq_of_toNat_eq
  simp [BitVec.toNat_or, Nat.or_mod_two_pow]
theorem nI_orS {a b k : Nat} (h : a < 2 ^ k) : nI a ||| nI (b * 2 ^ k) = nI (a + b * 2 ^ k) := by
  rw [nI_or, Nat.or_comm, Nat.mul_comm b, ← Nat.two_pow_add_eq_or_of_lt h, Nat.add_comm]
/-- the code of a line, as addLine makes it -/
theorem enc_make {l : Ln} (h : okL l) : nI l.1 ||| (nI l.2.1 <<< (nI 3 &&& 31)) ||| (nI l.2.2.1 <<< (nI 5 &&& 31)) ||| (nI l.2.2.2 <<< (nI 7 &&& 31)) = nI (enc l) := by
  obtain ⟨h1, h2, h3, h4⟩ := h
  rw [pk_shlN _ 3 (by decide) (by omega), pk_shlN _ 5 (by decide) (by omega), pk_shlN _ 7 (by decide) (by omega), nI_orS (by omega), nI_orS (by omega), nI_orS (by omega)]
  congr 1
  unfold enc
  omega
/-- all cells but those of L are as they were -/
def Fr (L : List Nat) (h h' : Hp) : Prop := ∀ o, o ∉ L → h' o = h o
theorem Fr.rf {L : List Nat} {h : Hp} : Fr L h h := fun _ _ => rfl
theorem Fr.hs {L : List Nat} {h h' : Hp} {o : Nat} {f : Nat → Int32} (k : Fr L h h') (ho : o ∈ L) : Fr L h (hs h' o f) := fun j hj => by
  rw [hs_ne (fun q => hj (by rw [q]; exact ho))]
  exact k j hj
theorem Fr.trans {L : List Nat} {h h1 h2 : Hp} (k1 : Fr L h h1) (k2 : Fr L h1 h2) : Fr L h h2 := fun j hj => (k2 j hj).trans (k1 j hj)
theorem Fr.mono {L L' : List Nat} {h h' : Hp} (k : Fr L h h') (hL : ∀ o ∈ L, o ∈ L') : Fr L' h h' := fun j hj => k j (fun q => hj (hL j q))
theorem MP.fr {L : List Nat} {h h' : Hp} {o : Nat} {P : Prog} (hM : MP h o P) (k : Fr L h h') (h0 : o ∉ L) (h1 : o + 1 ∉ L) (h2 : o + 2 ∉ L) : MP h' o P := by
  unfold MP
  rw [k o h0, k (o + 1) h1, k (o + 2) h2]
  exact hM
theorem gtD (L : List Ln) (i : Nat) : L.getD i (0, 0, 0, 0) = (L[i]?).getD (0, 0, 0, 0) := List.getD_eq_getElem?_getD
theorem pD (P : Prog) (m : Nat) : P.getD m [] = (P[m]?).getD [] := List.getD_eq_getElem?_getD
theorem set_D {P : Prog} {m k : Nat} {L : List Ln} (hm : m < P.length) : (P.set m L).getD k [] = if k = m then L else P.getD k [] := by
  rw [pD, pD, List.getElem?_set]
  by_cases q : m = k
  · subst q; simp [hm]
  · rw [if_neg q, if_neg (fun z => q z.symm)]
theorem lnN_set {P : Prog} {m k : Nat} {L : List Ln} (hm : m < P.length) : lnN (P.set m L) k = if k = m then L.length else lnN P k := by
  unfold lnN
  rw [set_D hm]
  split <;> rfl
theorem gt_set {P : Prog} {m k i : Nat} {L : List Ln} (hm : m < P.length) : gt (P.set m L) k i = if k = m then L.getD i (0, 0, 0, 0) else gt P k i := by
  unfold gt
  rw [set_D hm]
  split <;> rfl
theorem lnN_new {P : Prog} (k : Nat) : lnN (P ++ [[]]) k = lnN P k := by
  unfold lnN
  rw [pD, pD, List.getElem?_append]
  split
  · rfl
  · rename_i q
    rw [List.getElem?_eq_none (l := P) (by omega)]
    cases hk : k - P.length with
    | zero => simp
    | succ n => simp
theorem gt_new {P : Prog} (k i : Nat) : gt (P ++ [[]]) k i = gt P k i := by
  unfold gt
  rw [pD, pD, List.getElem?_append]
  split
  · rfl
  · rename_i q
    rw [List.getElem?_eq_none (l := P) (by omega)]
    cases hk : k - P.length with
    | zero => simp
    | succ n => simp
/-- a line more, in the last method -/
def addL (P : Prog) (l : Ln) : Prog := P.set (P.length - 1) (P.getD (P.length - 1) [] ++ [l])
def dropL (P : Prog) (m i : Nat) : Prog := P.set m ((P.getD m []).eraseIdx i)
def swapL (P : Prog) (m i : Nat) : Prog := P.set m (((P.getD m []).set i (gt P m (i + 1))).set (i + 1) (gt P m i))
theorem lnN_add {P : Prog} {l : Ln} {k : Nat} (h : 0 < P.length) : lnN (addL P l) k = if k = P.length - 1 then lnN P k + 1 else lnN P k := by
  unfold addL
  rw [lnN_set (by omega)]
  split
  · rename_i q; subst q; simp [lnN]
  · rfl
theorem gt_add {P : Prog} {l : Ln} {k i : Nat} (h : 0 < P.length) : gt (addL P l) k i = if k = P.length - 1 ∧ i = lnN P k then l else gt P k i := by
  unfold addL
  rw [gt_set (by omega)]
  by_cases q : k = P.length - 1
  · subst q
    rw [if_pos rfl, gtD, List.getElem?_append]
    by_cases q2 : i < (P.getD (P.length - 1) []).length
    · rw [if_pos q2, if_neg (by unfold lnN; omega)]
      unfold gt; rw [gtD]
    · rw [if_neg q2]
      by_cases q3 : i = lnN P (P.length - 1)
      · rw [if_pos ⟨rfl, q3⟩]
        unfold lnN at q3
        simp [q3]
      · rw [if_neg (by omega)]
        unfold lnN at q3
        have e : i - (P.getD (P.length - 1) []).length = (i - (P.getD (P.length - 1) []).length - 1) + 1 := by omega
        unfold gt
        rw [e, gtD, List.getElem?_eq_none (l := P.getD (P.length - 1) []) (by omega)]
        simp
  · rw [if_neg q, if_neg (fun z => q z.1)]
theorem len_add {P : Prog} {l : Ln} : (addL P l).length = P.length := by simp [addL]
theorem len_drop {P : Prog} {m i : Nat} : (dropL P m i).length = P.length := by simp [dropL]
theorem len_swap {P : Prog} {m i : Nat} : (swapL P m i).length = P.length := by simp [swapL]
theorem lnN_drop {P : Prog} {m i k : Nat} (hi : i < lnN P m) : lnN (dropL P m i) k = if k = m then lnN P k - 1 else lnN P k := by
  unfold dropL
  rw [lnN_set (lnN_lt hi)]
  split
  · rename_i q; subst q
    unfold lnN at hi ⊢
    rw [List.length_eraseIdx_of_lt hi]
  · rfl
theorem gt_drop {P : Prog} {m i k j : Nat} (hi : i < lnN P m) : gt (dropL P m i) k j = if k = m ∧ i ≤ j then gt P k (j + 1) else gt P k j := by
  unfold dropL
  rw [gt_set (lnN_lt hi)]
  by_cases q : k = m
  · subst q
    rw [if_pos rfl, gtD, List.getElem?_eraseIdx]
    by_cases q2 : j < i
    · rw [if_pos q2, if_neg (by omega)]; unfold gt; rw [gtD]
    · rw [if_neg q2, if_pos (by omega)]; unfold gt; rw [gtD]
  · rw [if_neg q, if_neg (fun z => q z.1)]
theorem lnN_swap {P : Prog} {m i k : Nat} (hi : i + 1 < lnN P m) : lnN (swapL P m i) k = lnN P k := by
  unfold swapL
  rw [lnN_set (lnN_lt hi)]
  split
  · rename_i q; subst q
    simp [lnN]
  · rfl
theorem gt_swap {P : Prog} {m i k j : Nat} (hi : i + 1 < lnN P m) : gt (swapL P m i) k j = if k = m ∧ j = i then gt P m (i + 1) else if k = m ∧ j = i + 1 then gt P m i else gt P k j := by
  unfold swapL
  rw [gt_set (lnN_lt hi)]
  have hl : i + 1 < (P.getD m []).length := hi
  by_cases q : k = m
  · subst q
    rw [if_pos rfl, gtD, List.getElem?_set, List.getElem?_set]
    by_cases q1 : j = i
    · subst q1
      rw [if_neg (by omega), if_pos rfl, if_pos (by omega)]
      simp
    · by_cases q2 : j = i + 1
      · subst q2
        rw [if_pos rfl, if_pos (by simp; exact hl)]
        simp
      · rw [if_neg (by omega), if_neg (by omega), if_neg (by omega), if_neg (by omega)]
        unfold gt; rw [gtD]
  · rw [if_neg q, if_neg (fun z => q z.1), if_neg (fun z => q z.1)]
