/-! ===== what a text read well is ===== -/
def srt (C : Cls) : Prop := C.Pairwise (fun x y => x.2 < y.2)
/-- a program read so far, its calls, and where the reader is -/
def INV (tx : List Nat) (P : Prog) (C : Cls) (p : Nat) : Prop := p ≤ tx.length ∧ srt C ∧ (∀ z ∈ C, z.2 < p ∧ z.1 < 4) ∧ VB P ∧ ∀ m i, i < lnN P m → (gt P m i).1 = 7 → m < (gt P m i).2.2.2 ∧ ∃ z ∈ C, z.1 = (gt P m i).2.2.2
theorem rVal_pos {tx : List Nat} {m x p q : Nat} {l : Ln} (hp : p ≤ tx.length) (h : rVal tx m x p = .ok (l, q)) : q ≤ tx.length ∧ p ≤ q ∧ (l.1 = 7 → p < q) := by
  have a1 := Nx_ge hp
  have b1 := Nx_le hp
  have a2 := Nx_ge b1
  have b2 := Nx_le b1
  have a3 := Nx_ge b2
  have b3 := Nx_le b2
  have a4 := Nx_ge b3
  have b4 := Nx_le b3
  unfold rVal at h
  split at h
  · injection h with h; injection h with h1 h2; subst h1; subst h2; exact ⟨b1, a1, fun z => absurd z (by simp)⟩
  split at h
  · injection h with h; injection h with h1 h2; subst h1; subst h2; exact ⟨b1, a1, fun z => absurd z (by simp)⟩
  split at h
  · rename_i hk
    have g := Nx_gt (tx := tx) (p := p) (kd_lt (by omega))
    split at h
    · split at h
      · split at h
        · injection h with h; injection h with h1 h2; subst h1; subst h2; exact ⟨b4, by omega, fun _ => by omega⟩
        · cases h
      · cases h
    · cases h
  split at h
  · split at h
    · split at h
      · injection h with h; injection h with h1 h2; subst h1; subst h2; exact ⟨b3, by omega, fun z => absurd z (by simp)⟩
      · cases h
    · injection h with h; injection h with h1 h2; subst h1; subst h2; exact ⟨b1, a1, fun z => absurd z (by simp)⟩
  · cases h
theorem rLine_pos {tx : List Nat} {m p q : Nat} {l : Ln} (hp : p ≤ tx.length) (h : rLine tx m p = .ok (l, q)) : q ≤ tx.length ∧ p ≤ q ∧ (l.1 = 7 → Nx tx (Nx tx p) < q) ∧ p ≤ Nx tx (Nx tx p) := by
  have a1 := Nx_ge hp
  have b1 := Nx_le hp
  have a2 := Nx_ge b1
  have b2 := Nx_le b1
  have a3 := Nx_ge b2
  have b3 := Nx_le b2
  have a4 := Nx_ge b3
  have b4 := Nx_le b3
  have a5 := Nx_ge b4
  have b5 := Nx_le b4
  unfold rLine at h
  split at h
  · split at h
    · split at h
      · injection h with h; injection h with h1 h2; subst h1; subst h2; exact ⟨b3, by omega, fun z => absurd z (by simp), by omega⟩
      · cases h
    · cases h
  split at h
  · split at h
    · injection h with h; injection h with h1 h2; subst h1; subst h2; exact ⟨b2, by omega, fun z => absurd z (by simp), by omega⟩
    · cases h
  split at h
  · split at h
    · split at h
      · split at h
        · split at h
          · injection h with h; injection h with h1 h2; subst h1; subst h2; exact ⟨b5, by omega, fun z => absurd z (by simp), by omega⟩
          · cases h
        · cases h
      · cases h
    · split at h
      · have k := rVal_pos b2 h
        exact ⟨k.1, by omega, k.2.2, by omega⟩
      · cases h
  · cases h
theorem app_D {P : Prog} {L : List Ln} {m : Nat} : (P ++ [L]).getD m [] = if m = P.length then L else P.getD m [] := by
  rw [List.getD_eq_getElem?_getD, List.getD_eq_getElem?_getD, List.getElem?_append]
  by_cases h : m < P.length
  · rw [if_pos h, if_neg (by omega)]
  · rw [if_neg h]
    by_cases e : m = P.length
    · rw [if_pos e, e, Nat.sub_self]; rfl
    · rw [if_neg e, List.getElem?_eq_none (by simp; omega), List.getElem?_eq_none (by omega)]
theorem lnN_app {P : Prog} {L : List Ln} {m : Nat} : lnN (P ++ [L]) m = if m = P.length then L.length else lnN P m := by
  unfold lnN
  rw [app_D]
  split <;> rfl
theorem gt_app {P : Prog} {L : List Ln} {m i : Nat} : gt (P ++ [L]) m i = if m = P.length then L.getD i (0, 0, 0, 0) else gt P m i := by
  unfold gt
  rw [app_D]
  split <;> rfl
theorem getD_snoc {L : List Ln} {l : Ln} {i : Nat} (h : i < (L ++ [l]).length) : (L ++ [l]).getD i (0, 0, 0, 0) = if i = L.length then l else L.getD i (0, 0, 0, 0) := by
  simp at h
  rw [List.getD_eq_getElem?_getD, List.getD_eq_getElem?_getD, List.getElem?_append]
  by_cases e : i = L.length
  · rw [if_neg (by omega), if_pos e, e, Nat.sub_self]; rfl
  · rw [if_pos (by omega), if_neg e]
theorem vb_new {P : Prog} (hV : VB P) (h : P.length < 4) : VB (P ++ [[]]) := by
  obtain ⟨v1, v2, v3⟩ := hV
  refine ⟨by simp; omega, fun m => ?_, fun m i hi => ?_⟩
  · rw [lnN_new]; exact v2 m
  · rw [lnN_new] at hi; rw [gt_new]; exact v3 m i hi
theorem vb_line {P : Prog} {L : List Ln} {l : Ln} (hV : VB (P ++ [L])) (hl : okL l) (h8 : L.length < 8) : VB (P ++ [L ++ [l]]) := by
  obtain ⟨v1, v2, v3⟩ := hV
  refine ⟨by simp at v1 ⊢; omega, fun m => ?_, fun m i hi => ?_⟩
  · have := v2 m
    rw [lnN_app] at this ⊢
    split
    · simp; omega
    · rename_i e; rw [if_neg e] at this; exact this
  · rw [lnN_app] at hi
    rw [gt_app]
    have h3 := v3 m i
    rw [lnN_app, gt_app] at h3
    by_cases e : m = P.length
    · rw [if_pos e] at hi h3 ⊢
      rw [getD_snoc hi]
      split
      · exact hl
      · rename_i e2
        rw [if_pos e] at h3
        exact h3 (by simp at hi; omega)
    · rw [if_neg e] at hi h3 ⊢
      rw [if_neg e] at h3
      exact h3 hi
theorem inv_line {tx : List Nat} {P : Prog} {L : List Ln} {C : Cls} {p q : Nat} {l : Ln} (hI : INV tx (P ++ [L]) C p) (hP : P.length < 4) (h8 : L.length < 8) (hl : rLine tx P.length p = .ok (l, q)) : INV tx (P ++ [L ++ [l]]) (addC tx l p C) (Nx tx q) := by
  obtain ⟨i1, i2, i3, i4, i5⟩ := hI
  have k1 := rLine_ok hP hl
  obtain ⟨k2, k3, k4, k5⟩ := rLine_pos i1 hl
  have k6 := Nx_ge k2
  have hmem : ∀ z ∈ C, z ∈ addC tx l p C := by
    intro z hz
    unfold addC
    split
    · exact List.mem_append_left _ hz
    · exact hz
  refine ⟨Nx_le k2, ?_, ?_, vb_line i4 k1.1 h8, fun m i hi h7 => ?_⟩
  · unfold addC
    split
    · refine List.pairwise_append.2 ⟨i2, by simp, fun x hx y hy => ?_⟩
      simp at hy
      rw [hy]
      have := (i3 x hx).1
      show x.2 < Nx tx (Nx tx p)
      omega
    · exact i2
  · intro z hz
    unfold addC at hz
    split at hz
    · rename_i e
      rcases List.mem_append.1 hz with w | w
      · have := i3 z w; exact ⟨by omega, this.2⟩
      · simp at w
        rw [w]
        have := k4 e
        exact ⟨by show Nx tx (Nx tx p) < _; omega, k1.1.2.2.2⟩
    · have := i3 z hz; exact ⟨by omega, this.2⟩
  · rw [lnN_app] at hi
    rw [gt_app] at h7 ⊢
    have h5 := i5 m i
    rw [lnN_app, gt_app] at h5
    by_cases e : m = P.length
    · rw [if_pos e] at hi h7 h5 ⊢
      rw [getD_snoc hi] at h7 ⊢
      by_cases e2 : i = L.length
      · rw [if_pos e2] at h7 ⊢
        refine ⟨by rw [e]; exact k1.2 h7, (l.2.2.2, Nx tx (Nx tx p)), ?_, rfl⟩
        unfold addC
        rw [if_pos h7]
        simp
      · rw [if_neg e2] at h7 ⊢
        rw [if_pos e] at h5
        have := h5 (by simp at hi; omega) h7
        obtain ⟨w1, z, w2, w3⟩ := this
        exact ⟨w1, z, hmem z w2, w3⟩
    · rw [if_neg e] at hi h7 h5 ⊢
      rw [if_neg e] at h5
      obtain ⟨w1, z, w2, w3⟩ := h5 hi h7
      exact ⟨w1, z, hmem z w2, w3⟩
theorem inv_nx {tx : List Nat} {P : Prog} {C : Cls} {p : Nat} (hI : INV tx P C p) : INV tx P C (Nx tx p) := by
  obtain ⟨i1, i2, i3, i4, i5⟩ := hI
  have := Nx_ge i1
  exact ⟨Nx_le i1, i2, fun z hz => ⟨by have := (i3 z hz).1; omega, (i3 z hz).2⟩, i4, i5⟩
theorem inv_new {tx : List Nat} {P : Prog} {C : Cls} {p : Nat} (hI : INV tx P C p) (hP : P.length < 4) : INV tx (P ++ [[]]) C (Nx tx p) := by
  obtain ⟨i1, i2, i3, i4, i5⟩ := inv_nx hI
  refine ⟨i1, i2, i3, vb_new i4 hP, fun m i hi h7 => ?_⟩
  rw [lnN_new] at hi
  rw [gt_new] at h7 ⊢
  exact i5 m i hi h7
theorem rBody_inv {tx : List Nat} {P : Prog} (hP : P.length < 4) : ∀ (f q : Nat) (L : List Ln) (C : Cls) (z : List Ln × Cls × Nat), INV tx (P ++ [L]) C q → L.length + f ≤ 8 → rBody tx P.length f q L C = .ok z → INV tx (P ++ [z.1]) z.2.1 z.2.2 := by
  intro f
  induction f with
  | zero =>
    intro q L C z hI _ h
    have h : (if kd tx q = 125 then Except.ok (L, C, Nx tx q) else Except.error q) = Except.ok z := h
    split at h
    · injection h with h; rw [← h]; exact inv_nx hI
    · cases h
  | succ f ih =>
    intro q L C z hI h8 h
    have h : (if kd tx q = 125 then Except.ok (L, C, Nx tx q) else match rSemi tx (rLine tx P.length q) with | .error e => .error e | .ok z => rBody tx P.length f z.2 (L ++ [z.1]) (addC tx z.1 q C)) = Except.ok z := h
    split at h
    · injection h with h; rw [← h]; exact inv_nx hI
    · cases hr : rLine tx P.length q with
      | error e => rw [hr] at h; cases h
      | ok w =>
        obtain ⟨l, q2⟩ := w
        rw [hr] at h
        unfold rSemi at h
        by_cases hk : kd tx q2 = 59
        · simp only [hk, if_true] at h
          exact ih _ _ _ _ (inv_line hI hP (by omega) hr) (by simp; omega) h
        · simp only [hk, if_false] at h
          cases h
theorem rProg_inv {tx : List Nat} : ∀ (f p : Nat) (P : Prog) (C : Cls) (z : Prog × Cls), INV tx P C p → P.length + f ≤ 4 → rProg tx f p P C = .ok z → ∃ q, INV tx z.1 z.2 q := by
  intro f
  induction f with
  | zero =>
    intro p P C z hI _ h
    have h : (if kd tx p = 131 then Except.ok (P, C) else Except.error p) = Except.ok z := h
    split at h
    · injection h with h; rw [← h]; exact ⟨p, hI⟩
    · cases h
  | succ f ih =>
    intro p P C z hI h4 h
    have h : (if kd tx p = 131 then Except.ok (P, C) else match rMeth tx P.length p C with | .error e => .error e | .ok z => rProg tx f z.2.2 (P ++ [z.1]) z.2.1) = Except.ok z := h
    split at h
    · injection h with h; rw [← h]; exact ⟨p, hI⟩
    · cases hr : rMeth tx P.length p C with
      | error e => rw [hr] at h; cases h
      | ok w =>
        rw [hr] at h
        unfold rMeth at hr
        split at hr
        · exact ih _ _ _ _ (rBody_inv (by omega) 8 _ [] C w (inv_new hI (by omega)) (by simp) hr) (by simp; omega) h
        · cases hr
theorem inv_0 {tx : List Nat} : INV tx [] [] (skp tx 0) := by
  refine ⟨skp_le (Nat.zero_le _), List.Pairwise.nil, fun z hz => absurd hz (by simp), ⟨by simp, fun m => ?_, fun m i hi => ?_⟩, fun m i hi => ?_⟩
  · show ([].getD m [] : List Ln).length ≤ 8
    simp
  · exact absurd hi (by show ¬ i < ([].getD m [] : List Ln).length; simp)
  · exact absurd hi (by show ¬ i < ([].getD m [] : List Ln).length; simp)
theorem miss_none {n : Nat} : ∀ {C : Cls}, miss n C = none → ∀ z ∈ C, z.1 < n := by
  intro C
  induction C with
  | nil => intro _ z hz; exact absurd hz (by simp)
  | cons c C ih =>
    intro h z hz
    have h : (if n ≤ c.1 then some c.2 else miss n C) = none := h
    split at h
    · cases h
    · rcases List.mem_cons.1 hz with w | w
      · rw [w]; omega
      · exact ih h z w
theorem rdA_vp {tx : List Nat} {P : Prog} (h : rdA tx = .ok P) : VP P := by
  unfold rdA at h
  cases hr : rProg tx 4 (skp tx 0) [] [] with
  | error e => rw [hr] at h; cases h
  | ok z =>
    rw [hr] at h
    obtain ⟨q, i1, i2, i3, i4, i5⟩ := rProg_inv _ _ _ _ _ inv_0 (by simp) hr
    cases hm : miss z.1.length z.2 with
    | some q => simp only [hm] at h; cases h
    | none =>
      simp only [hm] at h
      injection h with h
      rw [← h]
      refine ⟨i4, fun m i hi h7 => ?_⟩
      obtain ⟨w1, y, w2, w3⟩ := i5 m i hi h7
      exact ⟨w1, by rw [← w3]; exact miss_none hm y w2⟩
/-! the first missing call -/
def missR (a b : Nat) : Cls → Option Nat
  | [] => none
  | c :: C => if a ≤ c.1 ∧ c.1 < b then some c.2 else missR a b C
theorem missR_mem {a b r : Nat} : ∀ {C : Cls}, missR a b C = some r → ∃ z ∈ C, z.2 = r := by
  intro C
  induction C with
  | nil => intro h; cases h
  | cons c C ih =>
    intro h
    have h : (if a ≤ c.1 ∧ c.1 < b then some c.2 else missR a b C) = some r := h
    split at h
    · injection h with h; exact ⟨c, by simp, h⟩
    · obtain ⟨z, hz, e⟩ := ih h; exact ⟨z, by simp [hz], e⟩
theorem fo_mem {c r : Nat} : ∀ {C : Cls}, fo c C = some r → ∃ z ∈ C, z.2 = r := by
  intro C
  induction C with
  | nil => intro h; cases h
  | cons z C ih =>
    intro h
    have h : (if z.1 = c then some z.2 else fo c C) = some r := h
    split at h
    · injection h with h; exact ⟨z, by simp, h⟩
    · obtain ⟨y, hz, e⟩ := ih h; exact ⟨y, by simp [hz], e⟩
theorem missR_0 {a : Nat} : ∀ {C : Cls}, missR a a C = none := by
  intro C
  induction C with
  | nil => rfl
  | cons c C ih =>
    show (if a ≤ c.1 ∧ c.1 < a then some c.2 else missR a a C) = none
    rw [if_neg (by omega)]; exact ih
theorem missR_all {a : Nat} : ∀ {C : Cls}, (∀ z ∈ C, z.1 < 4) → missR a 4 C = miss a C := by
  intro C
  induction C with
  | nil => intro _; rfl
  | cons c C ih =>
    intro h
    have h1 := h c (by simp)
    show (if a ≤ c.1 ∧ c.1 < 4 then some c.2 else missR a 4 C) = if a ≤ c.1 then some c.2 else miss a C
    by_cases e : a ≤ c.1
    · rw [if_pos ⟨e, h1⟩, if_pos e]
    · rw [if_neg (by omega), if_neg e]; exact ih (fun z hz => h z (by simp [hz]))
/-- the less of two, none being no one -/
def oMin (x y : Option Nat) : Option Nat := match x, y with
  | none, y => y
  | some r, none => some r
  | some r, some q => if q < r then some q else some r
theorem missR_s {a m : Nat} (ham : a ≤ m) : ∀ {C : Cls}, srt C → missR a (m + 1) C = oMin (missR a m C) (fo m C) := by
  intro C
  induction C with
  | nil => intro _; rfl
  | cons c C ih =>
    intro hs
    have hs' := List.pairwise_cons.1 hs
    show (if a ≤ c.1 ∧ c.1 < m + 1 then some c.2 else missR a (m + 1) C) = oMin (if a ≤ c.1 ∧ c.1 < m then some c.2 else missR a m C) (if c.1 = m then some c.2 else fo m C)
    by_cases e : c.1 = m
    · rw [if_pos (by omega), if_neg (by omega), if_pos e]
      cases hm : missR a m C with
      | none => rfl
      | some r =>
        obtain ⟨z, hz, ez⟩ := missR_mem hm
        have := hs'.1 z hz
        show some c.2 = if c.2 < r then some c.2 else some r
        rw [if_pos (by omega)]
    · rw [if_neg e]
      by_cases e2 : a ≤ c.1 ∧ c.1 < m
      · rw [if_pos (by omega), if_pos e2]
        cases hm : fo m C with
        | none => rfl
        | some r =>
          obtain ⟨z, hz, ez⟩ := fo_mem hm
          have := hs'.1 z hz
          show some c.2 = if r < c.2 then some r else some c.2
          rw [if_neg (by omega)]
      · rw [if_neg (by omega), if_neg e2]
        exact ih hs'.2
set_option maxHeartbeats 4000000 in
set_option maxRecDepth 100000 in
theorem c_firstMissing {a : Am} {S : St} {h : Hp} (hS : IsSt S) {P : Prog} (hM : MP h 6 P) (hV : VB P) {C : Cls} (hC : FCl h C) (hs : srt C) (h4 : ∀ z ∈ C, z.1 < 4) : CT a 1 mX3_firstMissingCall [rv a 9] S h (Rt (oI (miss P.length C)) S h) := by
  have hV1 := hV.1
  refine met_of (by decide +kernel) (Nat.le_of_ble_eq_true rfl) ?_
  show T a 1 mX3_firstMissingCall 0 [(0, rv a 9)] [] S h _
  refine tr_iconst (pc := 0) (v := -1) dX3_firstMissingCall_0 (by decide) ?_
  refine tr_istore_n (pc := 1) (lv' := [(1, .int (-1)), (0, rv a 9)]) dX3_firstMissingCall_1 rfl (by decide) rfl ?_
  refine tr_aload_n (pc := 2) 1 dX3_firstMissingCall_2 rfl rfl ?_
  refine tr_getR (pc := 3) (q := 6) dX3_firstMissingCall_3 (hS.1 9 (6, 9) rfl) fi_X3_26 rfl (hS.2 9 1 6 rfl) ?_
  refine tr_callV (pc := 6) (rest := []) (ci := 2) dX3_firstMissingCall_6 ml_X3_63 cv_X2_count rfl rfl (Nat.le_of_ble_eq_true rfl) (hS.1 6 (5, 3) rfl) rfl (by decide) (c_count (mo_6 hS) hM hV) ?_
  rintro _ _ _ ⟨rfl, rfl, rfl⟩
  show T a 1 mX3_firstMissingCall 9 [(1, .int (-1)), (0, rv a 9)] [.int (nI P.length)] S h _
  refine tr_istore_n (pc := 9) (lv' := [(2, .int (nI P.length)), (1, .int (-1)), (0, rv a 9)]) dX3_firstMissingCall_9 rfl (by decide) rfl ?_
  refine tr_sub (pc := 10) (lv' := [(0, rv a 9), (1, .int (-1)), (2, .int (nI P.length))]) [2, 1, 0] rfl ?_
  rw [show (-1 : Int32) = oI (missR P.length P.length C) by rw [missR_0]; rfl]
  have L10 : ∀ (fu : Nat) (k : Nat), 4 - k < fu → k ≤ 4 → P.length ≤ k → T a 1 mX3_firstMissingCall 10 [(0, rv a 9), (1, .int (oI (missR P.length k C))), (2, .int (nI k))] [] S h (Rt (oI (miss P.length C)) S h) := by
    intro fu
    induction fu with
    | zero => intro k hu hk hpk; omega
    | succ fu ih =>
      intro k hu hk hpk
      have hfk : k < 4 → h 13 k = oI (fo k C) := hC.2 k
      have hml : ∀ q, missR P.length k C = some q → q ≤ 200 := fun q hq => by
        obtain ⟨z, hz, e⟩ := missR_mem hq
        rw [← e]; exact hC.1 z hz
      have hfl : ∀ q, fo k C = some q → q ≤ 200 := fun q hq => fo_le hC.1 hq
      have hst := missR_s (a := P.length) (m := k) hpk hs
      refine tr_iload_n (pc := 10) 2 dX3_firstMissingCall_10 rfl rfl ?_
      refine tr_iconst (pc := 11) (v := nI 4) dX3_firstMissingCall_11 (by decide) ?_
      refine tr_icmp_ge (pc := 12) (tgt := 53) dX3_firstMissingCall_12 (by decide) (nI_leI (by omega) (by omega)) (fun hb12 => ?_) (fun hb12 => ?_)
      · skip
        refine tr_iload_n (pc := 53) 1 dX3_firstMissingCall_53 rfl rfl ?_
        exact tr_iret (pc := 54) dX3_firstMissingCall_54 rfl rfl (⟨by rw [show k = 4 by omega, missR_all h4], rfl, rfl⟩)
      · skip
        refine tr_aload_n (pc := 15) 0 dX3_firstMissingCall_15 rfl rfl ?_
        refine tr_getR (pc := 16) (q := 13) dX3_firstMissingCall_16 (hS.1 9 (6, 9) rfl) fi_X3_18 rfl (hS.2 9 4 13 rfl) ?_
        refine tr_iload_n (pc := 19) 2 dX3_firstMissingCall_19 rfl rfl ?_
        refine tr_iald (pc := 20) (v := oI (fo k C)) k dX3_firstMissingCall_20 (hS.1 13 (0, 4) rfl) rfl (by omega) (by decide) (hfk (by omega)) ?_
        refine tr_iconst (pc := 21) (v := -1) dX3_firstMissingCall_21 (by decide) ?_
        refine tr_icmp_eq (pc := 22) (tgt := 47) dX3_firstMissingCall_22 (by decide) Iff.rfl (fun hb22 => ?_) (fun hb22 => ?_)
        · skip
          have hfin : oI (missR P.length k C) = oI (missR P.length (k + 1) C) := by
            rw [hst, (oI_none hfl).1 hb22]
            cases missR P.length k C <;> rfl
          refine tr_iinc (pc := 47) (v := nI (k + 1)) (lv' := [(2, .int (nI (k + 1))), (0, rv a 9), (1, .int (oI (missR P.length k C)))]) 2 dX3_firstMissingCall_47 rfl (by rw [show Int32.ofInt 1 = nI 1 from by decide, nI_add]) (by decide) rfl ?_
          refine tr_goto (pc := 50) (tgt := 10) dX3_firstMissingCall_50 (by decide) ?_
          refine tr_sub (pc := 10) (lv' := [(0, rv a 9), (1, .int (oI (missR P.length k C))), (2, .int (nI (k + 1)))]) [1, 2, 0] rfl ?_
          rw [hfin]
          exact ih (k + 1) (by omega) (by omega) (by omega)
        · skip
          refine tr_iload_n (pc := 25) 1 dX3_firstMissingCall_25 rfl rfl ?_
          refine tr_iconst (pc := 26) (v := -1) dX3_firstMissingCall_26 (by decide) ?_
          refine tr_icmp_eq (pc := 27) (tgt := 40) dX3_firstMissingCall_27 (by decide) Iff.rfl (fun hb27 => ?_) (fun hb27 => ?_)
          · skip
            have hfin : oI (fo k C) = oI (missR P.length (k + 1) C) := by
              rw [hst, (oI_none hml).1 hb27]
              rfl
            refine tr_aload_n (pc := 40) 0 dX3_firstMissingCall_40 rfl rfl ?_
            refine tr_getR (pc := 41) (q := 13) dX3_firstMissingCall_41 (hS.1 9 (6, 9) rfl) fi_X3_18 rfl (hS.2 9 4 13 rfl) ?_
            refine tr_iload_n (pc := 44) 2 dX3_firstMissingCall_44 rfl rfl ?_
            refine tr_iald (pc := 45) (v := oI (fo k C)) k dX3_firstMissingCall_45 (hS.1 13 (0, 4) rfl) rfl (by omega) (by decide) (hfk (by omega)) ?_
            refine tr_istore_n (pc := 46) (lv' := [(1, .int (oI (fo k C))), (0, rv a 9), (2, .int (nI k))]) dX3_firstMissingCall_46 rfl (by decide) rfl ?_
            refine tr_iinc (pc := 47) (v := nI (k + 1)) (lv' := [(2, .int (nI (k + 1))), (1, .int (oI (fo k C))), (0, rv a 9)]) 2 dX3_firstMissingCall_47 rfl (by rw [show Int32.ofInt 1 = nI 1 from by decide, nI_add]) (by decide) rfl ?_
            refine tr_goto (pc := 50) (tgt := 10) dX3_firstMissingCall_50 (by decide) ?_
            refine tr_sub (pc := 10) (lv' := [(0, rv a 9), (1, .int (oI (fo k C))), (2, .int (nI (k + 1)))]) [2, 1, 0] rfl ?_
            rw [hfin]
            exact ih (k + 1) (by omega) (by omega) (by omega)
          · skip
            refine tr_aload_n (pc := 30) 0 dX3_firstMissingCall_30 rfl rfl ?_
            refine tr_getR (pc := 31) (q := 13) dX3_firstMissingCall_31 (hS.1 9 (6, 9) rfl) fi_X3_18 rfl (hS.2 9 4 13 rfl) ?_
            refine tr_iload_n (pc := 34) 2 dX3_firstMissingCall_34 rfl rfl ?_
            refine tr_iald (pc := 35) (v := oI (fo k C)) k dX3_firstMissingCall_35 (hS.1 13 (0, 4) rfl) rfl (by omega) (by decide) (hfk (by omega)) ?_
            refine tr_iload_n (pc := 36) 1 dX3_firstMissingCall_36 rfl rfl ?_
            refine tr_icmp_ge (pc := 37) (tgt := 47) dX3_firstMissingCall_37 (by decide) Iff.rfl (fun hb37 => ?_) (fun hb37 => ?_)
            · skip
              have hfin : oI (missR P.length k C) = oI (missR P.length (k + 1) C) := by
                rw [hst]
                cases hx : missR P.length k C with
                | none => exact absurd (by rw [hx]; rfl) hb27
                | some r =>
                  cases hy : fo k C with
                  | none => rfl
                  | some q =>
                    rw [hx, hy] at hb37
                    have := (nI_leI (by have := hml r hx; omega) (by have := hfl q hy; omega)).1 hb37
                    show nI r = oI (if q < r then some q else some r)
                    rw [if_neg (by omega)]
                    rfl
              refine tr_iinc (pc := 47) (v := nI (k + 1)) (lv' := [(2, .int (nI (k + 1))), (0, rv a 9), (1, .int (oI (missR P.length k C)))]) 2 dX3_firstMissingCall_47 rfl (by rw [show Int32.ofInt 1 = nI 1 from by decide, nI_add]) (by decide) rfl ?_
              refine tr_goto (pc := 50) (tgt := 10) dX3_firstMissingCall_50 (by decide) ?_
              refine tr_sub (pc := 10) (lv' := [(0, rv a 9), (1, .int (oI (missR P.length k C))), (2, .int (nI (k + 1)))]) [1, 2, 0] rfl ?_
              rw [hfin]
              exact ih (k + 1) (by omega) (by omega) (by omega)
            · skip
              have hfin : oI (fo k C) = oI (missR P.length (k + 1) C) := by
                rw [hst]
                cases hx : missR P.length k C with
                | none => exact absurd (by rw [hx]; rfl) hb27
                | some r =>
                  cases hy : fo k C with
                  | none => exact absurd (by rw [hy]; rfl) hb22
                  | some q =>
                    rw [hx, hy] at hb37
                    have : ¬ r ≤ q := fun z => hb37 ((nI_leI (by have := hml r hx; omega) (by have := hfl q hy; omega)).2 z)
                    show nI q = oI (if q < r then some q else some r)
                    rw [if_pos (by omega)]
                    rfl
              refine tr_aload_n (pc := 40) 0 dX3_firstMissingCall_40 rfl rfl ?_
              refine tr_getR (pc := 41) (q := 13) dX3_firstMissingCall_41 (hS.1 9 (6, 9) rfl) fi_X3_18 rfl (hS.2 9 4 13 rfl) ?_
              refine tr_iload_n (pc := 44) 2 dX3_firstMissingCall_44 rfl rfl ?_
              refine tr_iald (pc := 45) (v := oI (fo k C)) k dX3_firstMissingCall_45 (hS.1 13 (0, 4) rfl) rfl (by omega) (by decide) (hfk (by omega)) ?_
              refine tr_istore_n (pc := 46) (lv' := [(1, .int (oI (fo k C))), (0, rv a 9), (2, .int (nI k))]) dX3_firstMissingCall_46 rfl (by decide) rfl ?_
              refine tr_iinc (pc := 47) (v := nI (k + 1)) (lv' := [(2, .int (nI (k + 1))), (1, .int (oI (fo k C))), (0, rv a 9)]) 2 dX3_firstMissingCall_47 rfl (by rw [show Int32.ofInt 1 = nI 1 from by decide, nI_add]) (by decide) rfl ?_
              refine tr_goto (pc := 50) (tgt := 10) dX3_firstMissingCall_50 (by decide) ?_
              refine tr_sub (pc := 10) (lv' := [(0, rv a 9), (1, .int (oI (fo k C))), (2, .int (nI (k + 1)))]) [2, 1, 0] rfl ?_
              rw [hfin]
              exact ih (k + 1) (by omega) (by omega) (by omega)
  exact L10 5 P.length (by omega) hV.1 (Nat.le_refl _)
