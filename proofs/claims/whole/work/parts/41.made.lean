/-! ===== the constructors ===== -/
abbrev RF : Type := Nat → Nat → Option Nat
abbrev al (g : RF) (k : Nat) : RF := gs g k (fun _ => none)
abbrev pt (g : RF) (o j q : Nat) : RF := gs g o (va_up (g o) j (some q))
abbrev zH : Hp := fun _ _ => 0
theorem len_k {k : Nat} {g : RF} (hk : k ≤ 76) : ((shp.take k, g) : St).1.length = k := by
  show (shp.take k).length = k
  rw [List.length_take]
  exact Nat.min_eq_left hk
theorem nS_k {k : Nat} {g : RF} {kn : Nat × Nat} (hk : shp[k]? = some kn) (hk2 : k ≤ 76) : nS (shp.take k, g) kn = (shp.take (k + 1), al g k) := by
  show (shp.take k ++ [kn], gs g (shp.take k).length (fun _ => none)) = _
  rw [List.take_add_one, hk, List.length_take, show min k shp.length = k from Nat.min_eq_left hk2]
  rfl
theorem tk_get {m j : Nat} {kn : Nat × Nat} (h : shp[j]? = some kn) (hj : j < m) : (shp.take m)[j]? = some kn := by
  rw [List.getElem?_take, if_pos hj]
  exact h
theorem nH_k {k : Nat} {g : RF} {h : Hp} (hk : k ≤ 76) (hz : h k = fun _ => 0) : nH (shp.take k, g) h = h := by
  show hs h ((shp.take k, g) : St).1.length (fun _ => 0) = h
  rw [len_k hk, ← hz]
  exact hs_self
section INIT
variable {a : Am} {d : Nat} {M : Mt} {pc : Nat} {lv : List (Nat × Value)} {st : List Value} {h : Hp} {post : Option Value → St → Hp → Prop}
theorem tr_newIk {k n : Nat} {g : RF} {x : Int32} (hd : decode M.2.1 pc = .ok (.newarray .int, 2)) (hx : x = nI n) (hn : n ≤ 1000000) (hk : shp[k]? = some (0, n)) (hk2 : k ≤ 76) (hz : h k = fun _ => 0) (kk : T a d M (pc + 2) lv (rv a k :: st) (shp.take (k + 1), al g k) h post) : T a d M pc lv (.int x :: st) (shp.take k, g) h post := by
  refine tr_newI hd hx hn ?_
  rw [nS_k hk hk2, nH_k hk2 hz, len_k hk2]
  exact kk
theorem tr_newBk {k n : Nat} {g : RF} {x : Int32} (hd : decode M.2.1 pc = .ok (.newarray .byte, 2)) (hx : x = nI n) (hn : n ≤ 1000000) (hk : shp[k]? = some (1, n)) (hk2 : k ≤ 76) (hz : h k = fun _ => 0) (kk : T a d M (pc + 2) lv (rv a k :: st) (shp.take (k + 1), al g k) h post) : T a d M pc lv (.int x :: st) (shp.take k, g) h post := by
  refine tr_newB hd hx hn ?_
  rw [nS_k hk hk2, nH_k hk2 hz, len_k hk2]
  exact kk
theorem tr_newQk {k n idx : Nat} {g : RF} {x : Int32} (hd : decode M.2.1 pc = .ok (.anewarray idx, 3)) (hw : Cond.classLink M.1.cls idx RX2 ∈ gtbl) (hx : x = nI n) (hn : n ≤ 1000000) (hk : shp[k]? = some (2, n)) (hk2 : k ≤ 76) (hz : h k = fun _ => 0) (kk : T a d M (pc + 3) lv (rv a k :: st) (shp.take (k + 1), al g k) h post) : T a d M pc lv (.int x :: st) (shp.take k, g) h post := by
  refine tr_newQ hd hw hx hn ?_
  rw [nS_k hk hk2, nH_k hk2 hz, len_k hk2]
  exact kk
theorem tr_newk {ci N idx k : Nat} {g : RF} {C : String} {T0 : u_T} (hd : decode M.2.1 pc = .ok (.new idx, 3)) (hc : vwC[ci]? = some (C, T0, N)) (hw : Cond.classLink M.1.cls idx C ∈ gtbl) (hw2 : Cond.instantiable C N ∈ gtbl) (hw3 : Cond.initialized C ∈ gtbl) (hk : shp[k]? = some (ci + 3, N)) (hk2 : k ≤ 76) (hz : h k = fun _ => 0) (kk : T a d M (pc + 3) lv (rv a k :: st) (shp.take (k + 1), al g k) h post) : T a d M pc lv st (shp.take k, g) h post := by
  refine tr_new hd hc hw hw2 hw3 ?_
  rw [nS_k hk hk2, nH_k hk2 hz, len_k hk2]
  exact kk
end INIT
def iX2 (g : RF) (k : Nat) : RF := pt (al (pt (al g (k + 1)) k 1 (k + 1)) (k + 2)) k 2 (k + 2)
set_option maxHeartbeats 4000000 in
set_option maxRecDepth 100000 in
theorem c_iX2 {a : Am} {g : RF} {k : Nat} (h0 : shp[k]? = some (5, 3)) (h1 : shp[k + 1]? = some (0, 4)) (h2 : shp[k + 2]? = some (0, 32)) (hk : k + 3 ≤ 76) {h : Hp} (hz : ∀ j, k < j → h j = fun _ => 0) : CT a 1 mX2_init [rv a k] (shp.take (k + 1), g) h (fun v S' h' => v = none ∧ S' = (shp.take (k + 3), iX2 g k) ∧ h' = h) := by
  refine met_of (by decide +kernel) (Nat.le_of_ble_eq_true rfl) ?_
  show T a 1 mX2_init 0 [(0, rv a k)] [] (shp.take (k + 1), g) h _
  refine tr_aload_n (pc := 0) 0 dX2_init_0 rfl rfl ?_
  refine tr_objInit (pc := 1) dX2_init_1 ml_X2_3 (Nat.le_of_ble_eq_true rfl) (by omega) ?_
  refine tr_aload_n (pc := 4) 0 dX2_init_4 rfl rfl ?_
  refine tr_iconst (pc := 5) (v := nI 4) dX2_init_5 (by decide) ?_
  refine tr_newIk (pc := 6) (k := k + 1) (n := 4) dX2_init_6 rfl (by decide) h1 (by omega) (hz _ (by omega)) ?_
  refine tr_putR (pc := 8) dX2_init_8 (tk_get h0 (by omega)) fi_X2_9 rfl (Or.inr rfl) (fun _ => rfl) (fun _ => rfl) ?_
  show T a 1 mX2_init 11 [(0, rv a k)] [] (shp.take (k + 2), (pt (al g (k + 1)) k 1 (k + 1))) h _
  refine tr_aload_n (pc := 11) 0 dX2_init_11 rfl rfl ?_
  refine tr_bipush (pc := 12) (v := nI 32) dX2_init_12 (by decide) ?_
  refine tr_newIk (pc := 14) (k := k + 2) (n := 32) dX2_init_14 rfl (by decide) h2 (by omega) (hz _ (by omega)) ?_
  refine tr_putR (pc := 16) dX2_init_16 (tk_get h0 (by omega)) fi_X2_15 rfl (Or.inr rfl) (fun _ => rfl) (fun _ => rfl) ?_
  show T a 1 mX2_init 19 [(0, rv a k)] [] (shp.take (k + 3), (pt (al (pt (al g (k + 1)) k 1 (k + 1)) (k + 2)) k 2 (k + 2))) h _
  exact tr_vret (pc := 19) dX2_init_19 rfl (⟨rfl, rfl, rfl⟩)

def iX6 (g : RF) : RF := pt (al g 2) 1 0 2
set_option maxHeartbeats 4000000 in
set_option maxRecDepth 100000 in
theorem c_iX6 {a : Am} {g : RF} : CT a 1 mX6_init [rv a 1] (shp.take 2, g) zH (fun v S' h' => v = none ∧ S' = (shp.take 3, iX6 g) ∧ h' = zH) := by
  refine met_of (by decide +kernel) (Nat.le_of_ble_eq_true rfl) ?_
  show T a 1 mX6_init 0 [(0, rv a 1)] [] (shp.take 2, g) zH _
  refine tr_aload_n (pc := 0) 0 dX6_init_0 rfl rfl ?_
  refine tr_objInit (pc := 1) dX6_init_1 ml_X6_3 (Nat.le_of_ble_eq_true rfl) (by omega) ?_
  refine tr_aload_n (pc := 4) 0 dX6_init_4 rfl rfl ?_
  refine tr_sipush (pc := 5) (v := nI 200) dX6_init_5 (by decide) ?_
  refine tr_newBk (pc := 8) (k := 2) (n := 200) dX6_init_8 rfl (by decide) rfl (by decide) rfl ?_
  refine tr_putR (pc := 10) dX6_init_10 (tk_get (j := 1) (kn := (9, 2)) rfl (by decide)) fi_X6_9 rfl (Or.inr rfl) (fun _ => rfl) (fun _ => rfl) ?_
  show T a 1 mX6_init 13 [(0, rv a 1)] [] (shp.take 3, (pt (al g 2) 1 0 2)) zH _
  exact tr_vret (pc := 13) dX6_init_13 rfl (⟨rfl, rfl, rfl⟩)

def iX7 (g : RF) : RF := pt (al (pt (al g 11) 10 0 11) 12) 10 1 12
set_option maxHeartbeats 4000000 in
set_option maxRecDepth 100000 in
theorem c_iX7 {a : Am} {g : RF} : CT a 1 mX7_init [rv a 10] (shp.take 11, g) zH (fun v S' h' => v = none ∧ S' = (shp.take 13, iX7 g) ∧ h' = zH) := by
  refine met_of (by decide +kernel) (Nat.le_of_ble_eq_true rfl) ?_
  show T a 1 mX7_init 0 [(0, rv a 10)] [] (shp.take 11, g) zH _
  refine tr_aload_n (pc := 0) 0 dX7_init_0 rfl rfl ?_
  refine tr_objInit (pc := 1) dX7_init_1 ml_X7_3 (Nat.le_of_ble_eq_true rfl) (by omega) ?_
  refine tr_aload_n (pc := 4) 0 dX7_init_4 rfl rfl ?_
  refine tr_sipush (pc := 5) (v := nI 200) dX7_init_5 (by decide) ?_
  refine tr_newIk (pc := 8) (k := 11) (n := 200) dX7_init_8 rfl (by decide) rfl (by decide) rfl ?_
  refine tr_putR (pc := 10) dX7_init_10 (tk_get (j := 10) (kn := (10, 5)) rfl (by decide)) fi_X7_9 rfl (Or.inr rfl) (fun _ => rfl) (fun _ => rfl) ?_
  show T a 1 mX7_init 13 [(0, rv a 10)] [] (shp.take 12, (pt (al g 11) 10 0 11)) zH _
  refine tr_aload_n (pc := 13) 0 dX7_init_13 rfl rfl ?_
  refine tr_sipush (pc := 14) (v := nI 200) dX7_init_14 (by decide) ?_
  refine tr_newIk (pc := 17) (k := 12) (n := 200) dX7_init_17 rfl (by decide) rfl (by decide) rfl ?_
  refine tr_putR (pc := 19) dX7_init_19 (tk_get (j := 10) (kn := (10, 5)) rfl (by decide)) fi_X7_15 rfl (Or.inr rfl) (fun _ => rfl) (fun _ => rfl) ?_
  show T a 1 mX7_init 22 [(0, rv a 10)] [] (shp.take 13, (pt (al (pt (al g 11) 10 0 11) 12) 10 1 12)) zH _
  exact tr_vret (pc := 22) dX7_init_22 rfl (⟨rfl, rfl, rfl⟩)

def iX3 (g : RF) : RF := pt (pt (pt (al (pt (iX7 (al g 10)) 9 2 10) 13) 9 4 13) 9 0 1) 9 1 6
set_option maxHeartbeats 4000000 in
set_option maxRecDepth 100000 in
theorem c_iX3 {a : Am} {g : RF} : CT a 2 mX3_init [rv a 9, rv a 1, rv a 6] (shp.take 10, g) zH (fun v S' h' => v = none ∧ S' = (shp.take 14, iX3 g) ∧ h' = zH) := by
  refine met_of (by decide +kernel) (Nat.le_of_ble_eq_true rfl) ?_
  show T a 2 mX3_init 0 [(0, rv a 9), (1, rv a 1), (2, rv a 6)] [] (shp.take 10, g) zH _
  refine tr_aload_n (pc := 0) 0 dX3_init_0 rfl rfl ?_
  refine tr_objInit (pc := 1) dX3_init_1 ml_X3_3 (Nat.le_of_ble_eq_true rfl) (by omega) ?_
  refine tr_aload_n (pc := 4) 0 dX3_init_4 rfl rfl ?_
  refine tr_newk (pc := 5) (k := 10) (ci := 7) dX3_init_5 rfl cl_X3_9 in_X7 ini_X7 rfl (by decide) rfl ?_
  refine tr_dup (pc := 8) dX3_init_8 rfl ?_
  refine tr_callIN (pc := 9) (rest := [rv a 10, rv a 9]) dX3_init_9 nl_X3_11 ci_X7_init rfl rfl (Nat.le_of_ble_eq_true rfl) (by decide) (c_iX7) ?_
  rintro _ _ _ ⟨rfl, rfl, rfl⟩
  show T a 2 mX3_init 12 [(0, rv a 9), (1, rv a 1), (2, rv a 6)] [rv a 10, rv a 9] (shp.take 13, (iX7 (al g 10))) zH _
  refine tr_putR (pc := 12) dX3_init_12 (tk_get (j := 9) (kn := (6, 9)) rfl (by decide)) fi_X3_12 rfl (Or.inr rfl) (fun _ => rfl) (fun _ => rfl) ?_
  show T a 2 mX3_init 15 [(0, rv a 9), (1, rv a 1), (2, rv a 6)] [] (shp.take 13, (pt (iX7 (al g 10)) 9 2 10)) zH _
  refine tr_aload_n (pc := 15) 0 dX3_init_15 rfl rfl ?_
  refine tr_iconst (pc := 16) (v := nI 4) dX3_init_16 (by decide) ?_
  refine tr_newIk (pc := 17) (k := 13) (n := 4) dX3_init_17 rfl (by decide) rfl (by decide) rfl ?_
  refine tr_putR (pc := 19) dX3_init_19 (tk_get (j := 9) (kn := (6, 9)) rfl (by decide)) fi_X3_18 rfl (Or.inr rfl) (fun _ => rfl) (fun _ => rfl) ?_
  show T a 2 mX3_init 22 [(0, rv a 9), (1, rv a 1), (2, rv a 6)] [] (shp.take 14, (pt (al (pt (iX7 (al g 10)) 9 2 10) 13) 9 4 13)) zH _
  refine tr_aload_n (pc := 22) 0 dX3_init_22 rfl rfl ?_
  refine tr_aload_n (pc := 23) 1 dX3_init_23 rfl rfl ?_
  refine tr_putR (pc := 24) dX3_init_24 (tk_get (j := 9) (kn := (6, 9)) rfl (by decide)) fi_X3_22 rfl (Or.inr rfl) (fun _ => rfl) (fun _ => rfl) ?_
  show T a 2 mX3_init 27 [(0, rv a 9), (1, rv a 1), (2, rv a 6)] [] (shp.take 14, (pt (pt (al (pt (iX7 (al g 10)) 9 2 10) 13) 9 4 13) 9 0 1)) zH _
  refine tr_aload_n (pc := 27) 0 dX3_init_27 rfl rfl ?_
  refine tr_aload_n (pc := 28) 2 dX3_init_28 rfl rfl ?_
  refine tr_putR (pc := 29) dX3_init_29 (tk_get (j := 9) (kn := (6, 9)) rfl (by decide)) fi_X3_26 rfl (Or.inr rfl) (fun _ => rfl) (fun _ => rfl) ?_
  show T a 2 mX3_init 32 [(0, rv a 9), (1, rv a 1), (2, rv a 6)] [] (shp.take 14, (pt (pt (pt (al (pt (iX7 (al g 10)) 9 2 10) 13) 9 4 13) 9 0 1) 9 1 6)) zH _
  exact tr_vret (pc := 32) dX3_init_32 rfl (⟨rfl, rfl, rfl⟩)

def iX4 (g : RF) : RF := pt (al (pt (al (pt (al g 32) 31 1 32) 33) 31 2 33) 34) 31 3 34
set_option maxHeartbeats 4000000 in
set_option maxRecDepth 100000 in
theorem c_iX4 {a : Am} {g : RF} : CT a 1 mX4_init [rv a 31] (shp.take 32, g) zH (fun v S' h' => v = none ∧ S' = (shp.take 35, iX4 g) ∧ h' = zH) := by
  refine met_of (by decide +kernel) (Nat.le_of_ble_eq_true rfl) ?_
  show T a 1 mX4_init 0 [(0, rv a 31)] [] (shp.take 32, g) zH _
  refine tr_aload_n (pc := 0) 0 dX4_init_0 rfl rfl ?_
  refine tr_objInit (pc := 1) dX4_init_1 ml_X4_3 (Nat.le_of_ble_eq_true rfl) (by omega) ?_
  refine tr_aload_n (pc := 4) 0 dX4_init_4 rfl rfl ?_
  refine tr_bipush (pc := 5) (v := nI 32) dX4_init_5 (by decide) ?_
  refine tr_newIk (pc := 7) (k := 32) (n := 32) dX4_init_7 rfl (by decide) rfl (by decide) rfl ?_
  refine tr_putR (pc := 9) dX4_init_9 (tk_get (j := 31) (kn := (7, 4)) rfl (by decide)) fi_X4_9 rfl (Or.inr rfl) (fun _ => rfl) (fun _ => rfl) ?_
  show T a 1 mX4_init 12 [(0, rv a 31)] [] (shp.take 33, (pt (al g 32) 31 1 32)) zH _
  refine tr_aload_n (pc := 12) 0 dX4_init_12 rfl rfl ?_
  refine tr_bipush (pc := 13) (v := nI 32) dX4_init_13 (by decide) ?_
  refine tr_newIk (pc := 15) (k := 33) (n := 32) dX4_init_15 rfl (by decide) rfl (by decide) rfl ?_
  refine tr_putR (pc := 17) dX4_init_17 (tk_get (j := 31) (kn := (7, 4)) rfl (by decide)) fi_X4_15 rfl (Or.inr rfl) (fun _ => rfl) (fun _ => rfl) ?_
  show T a 1 mX4_init 20 [(0, rv a 31)] [] (shp.take 34, (pt (al (pt (al g 32) 31 1 32) 33) 31 2 33)) zH _
  refine tr_aload_n (pc := 20) 0 dX4_init_20 rfl rfl ?_
  refine tr_iconst (pc := 21) (v := nI 4) dX4_init_21 (by decide) ?_
  refine tr_newIk (pc := 22) (k := 34) (n := 4) dX4_init_22 rfl (by decide) rfl (by decide) rfl ?_
  refine tr_putR (pc := 24) dX4_init_24 (tk_get (j := 31) (kn := (7, 4)) rfl (by decide)) fi_X4_18 rfl (Or.inr rfl) (fun _ => rfl) (fun _ => rfl) ?_
  show T a 1 mX4_init 27 [(0, rv a 31)] [] (shp.take 35, (pt (al (pt (al (pt (al g 32) 31 1 32) 33) 31 2 33) 34) 31 3 34)) zH _
  exact tr_vret (pc := 27) dX4_init_27 rfl (⟨rfl, rfl, rfl⟩)

def iX1 (g : RF) : RF := pt (pt (pt (al (pt (al g 36) 35 2 36) 37) 35 3 37) 35 0 3) 35 1 31
set_option maxHeartbeats 4000000 in
set_option maxRecDepth 100000 in
theorem c_iX1 {a : Am} {g : RF} : CT a 1 mX1_init [rv a 35, rv a 3, rv a 31] (shp.take 36, g) zH (fun v S' h' => v = none ∧ S' = (shp.take 38, iX1 g) ∧ h' = zH) := by
  refine met_of (by decide +kernel) (Nat.le_of_ble_eq_true rfl) ?_
  show T a 1 mX1_init 0 [(0, rv a 35), (1, rv a 3), (2, rv a 31)] [] (shp.take 36, g) zH _
  refine tr_aload_n (pc := 0) 0 dX1_init_0 rfl rfl ?_
  refine tr_objInit (pc := 1) dX1_init_1 ml_X1_3 (Nat.le_of_ble_eq_true rfl) (by omega) ?_
  refine tr_aload_n (pc := 4) 0 dX1_init_4 rfl rfl ?_
  refine tr_bipush (pc := 5) (v := nI 16) dX1_init_5 (by decide) ?_
  refine tr_newIk (pc := 7) (k := 36) (n := 16) dX1_init_7 rfl (by decide) rfl (by decide) rfl ?_
  refine tr_putR (pc := 9) dX1_init_9 (tk_get (j := 35) (kn := (4, 6)) rfl (by decide)) fi_X1_9 rfl (Or.inr rfl) (fun _ => rfl) (fun _ => rfl) ?_
  show T a 1 mX1_init 12 [(0, rv a 35), (1, rv a 3), (2, rv a 31)] [] (shp.take 37, (pt (al g 36) 35 2 36)) zH _
  refine tr_aload_n (pc := 12) 0 dX1_init_12 rfl rfl ?_
  refine tr_bipush (pc := 13) (v := nI 32) dX1_init_13 (by decide) ?_
  refine tr_newIk (pc := 15) (k := 37) (n := 32) dX1_init_15 rfl (by decide) rfl (by decide) rfl ?_
  refine tr_putR (pc := 17) dX1_init_17 (tk_get (j := 35) (kn := (4, 6)) rfl (by decide)) fi_X1_15 rfl (Or.inr rfl) (fun _ => rfl) (fun _ => rfl) ?_
  show T a 1 mX1_init 20 [(0, rv a 35), (1, rv a 3), (2, rv a 31)] [] (shp.take 38, (pt (al (pt (al g 36) 35 2 36) 37) 35 3 37)) zH _
  refine tr_aload_n (pc := 20) 0 dX1_init_20 rfl rfl ?_
  refine tr_aload_n (pc := 21) 1 dX1_init_21 rfl rfl ?_
  refine tr_putR (pc := 22) dX1_init_22 (tk_get (j := 35) (kn := (4, 6)) rfl (by decide)) fi_X1_18 rfl (Or.inr rfl) (fun _ => rfl) (fun _ => rfl) ?_
  show T a 1 mX1_init 25 [(0, rv a 35), (1, rv a 3), (2, rv a 31)] [] (shp.take 38, (pt (pt (al (pt (al g 36) 35 2 36) 37) 35 3 37) 35 0 3)) zH _
  refine tr_aload_n (pc := 25) 0 dX1_init_25 rfl rfl ?_
  refine tr_aload_n (pc := 26) 2 dX1_init_26 rfl rfl ?_
  refine tr_putR (pc := 27) dX1_init_27 (tk_get (j := 35) (kn := (4, 6)) rfl (by decide)) fi_X1_22 rfl (Or.inr rfl) (fun _ => rfl) (fun _ => rfl) ?_
  show T a 1 mX1_init 30 [(0, rv a 35), (1, rv a 3), (2, rv a 31)] [] (shp.take 38, (pt (pt (pt (al (pt (al g 36) 35 2 36) 37) 35 3 37) 35 0 3) 35 1 31)) zH _
  exact tr_vret (pc := 30) dX1_init_30 rfl (⟨rfl, rfl, rfl⟩)

def iX0 (g : RF) : RF := pt (pt (pt (pt (al (pt (al g 39) 38 3 39) 40) 38 4 40) 38 0 3) 38 1 31) 38 2 35
set_option maxHeartbeats 4000000 in
set_option maxRecDepth 100000 in
theorem c_iX0 {a : Am} {g : RF} : CT a 1 mX0_init [rv a 38, rv a 3, rv a 31, rv a 35] (shp.take 39, g) zH (fun v S' h' => v = none ∧ S' = (shp.take 41, iX0 g) ∧ h' = zH) := by
  refine met_of (by decide +kernel) (Nat.le_of_ble_eq_true rfl) ?_
  show T a 1 mX0_init 0 [(0, rv a 38), (1, rv a 3), (2, rv a 31), (3, rv a 35)] [] (shp.take 39, g) zH _
  refine tr_aload_n (pc := 0) 0 dX0_init_0 rfl rfl ?_
  refine tr_objInit (pc := 1) dX0_init_1 ml_X0_3 (Nat.le_of_ble_eq_true rfl) (by omega) ?_
  refine tr_aload_n (pc := 4) 0 dX0_init_4 rfl rfl ?_
  refine tr_bipush (pc := 5) (v := nI 32) dX0_init_5 (by decide) ?_
  refine tr_newIk (pc := 7) (k := 39) (n := 32) dX0_init_7 rfl (by decide) rfl (by decide) rfl ?_
  refine tr_putR (pc := 9) dX0_init_9 (tk_get (j := 38) (kn := (3, 5)) rfl (by decide)) fi_X0_9 rfl (Or.inr rfl) (fun _ => rfl) (fun _ => rfl) ?_
  show T a 1 mX0_init 12 [(0, rv a 38), (1, rv a 3), (2, rv a 31), (3, rv a 35)] [] (shp.take 40, (pt (al g 39) 38 3 39)) zH _
  refine tr_aload_n (pc := 12) 0 dX0_init_12 rfl rfl ?_
  refine tr_iconst (pc := 13) (v := nI 4) dX0_init_13 (by decide) ?_
  refine tr_newIk (pc := 14) (k := 40) (n := 4) dX0_init_14 rfl (by decide) rfl (by decide) rfl ?_
  refine tr_putR (pc := 16) dX0_init_16 (tk_get (j := 38) (kn := (3, 5)) rfl (by decide)) fi_X0_15 rfl (Or.inr rfl) (fun _ => rfl) (fun _ => rfl) ?_
  show T a 1 mX0_init 19 [(0, rv a 38), (1, rv a 3), (2, rv a 31), (3, rv a 35)] [] (shp.take 41, (pt (al (pt (al g 39) 38 3 39) 40) 38 4 40)) zH _
  refine tr_aload_n (pc := 19) 0 dX0_init_19 rfl rfl ?_
  refine tr_aload_n (pc := 20) 1 dX0_init_20 rfl rfl ?_
  refine tr_putR (pc := 21) dX0_init_21 (tk_get (j := 38) (kn := (3, 5)) rfl (by decide)) fi_X0_18 rfl (Or.inr rfl) (fun _ => rfl) (fun _ => rfl) ?_
  show T a 1 mX0_init 24 [(0, rv a 38), (1, rv a 3), (2, rv a 31), (3, rv a 35)] [] (shp.take 41, (pt (pt (al (pt (al g 39) 38 3 39) 40) 38 4 40) 38 0 3)) zH _
  refine tr_aload_n (pc := 24) 0 dX0_init_24 rfl rfl ?_
  refine tr_aload_n (pc := 25) 2 dX0_init_25 rfl rfl ?_
  refine tr_putR (pc := 26) dX0_init_26 (tk_get (j := 38) (kn := (3, 5)) rfl (by decide)) fi_X0_22 rfl (Or.inr rfl) (fun _ => rfl) (fun _ => rfl) ?_
  show T a 1 mX0_init 29 [(0, rv a 38), (1, rv a 3), (2, rv a 31), (3, rv a 35)] [] (shp.take 41, (pt (pt (pt (al (pt (al g 39) 38 3 39) 40) 38 4 40) 38 0 3) 38 1 31)) zH _
  refine tr_aload_n (pc := 29) 0 dX0_init_29 rfl rfl ?_
  refine tr_aload_n (pc := 30) 3 dX0_init_30 rfl rfl ?_
  refine tr_putR (pc := 31) dX0_init_31 (tk_get (j := 38) (kn := (3, 5)) rfl (by decide)) fi_X0_26 rfl (Or.inr rfl) (fun _ => rfl) (fun _ => rfl) ?_
  show T a 1 mX0_init 34 [(0, rv a 38), (1, rv a 3), (2, rv a 31), (3, rv a 35)] [] (shp.take 41, (pt (pt (pt (pt (al (pt (al g 39) 38 3 39) 40) 38 4 40) 38 0 3) 38 1 31) 38 2 35)) zH _
  exact tr_vret (pc := 34) dX0_init_34 rfl (⟨rfl, rfl, rfl⟩)

def iX5 (g : RF) : RF := pt (iX2 (al (pt (iX2 (al (pt (iX2 (al (pt (iX2 (al (pt (iX2 (al (pt (al g 15) 14 0 15) 16) 16) 15 0 16) 19) 19) 15 1 19) 22) 22) 15 2 22) 25) 25) 15 3 25) 28) 28) 15 4 28
set_option maxHeartbeats 4000000 in
set_option maxRecDepth 100000 in
theorem c_iX5 {a : Am} {g : RF} : CT a 2 mX5_init [rv a 14] (shp.take 15, g) zH (fun v S' h' => v = none ∧ S' = (shp.take 31, iX5 g) ∧ h' = zH) := by
  refine met_of (by decide +kernel) (Nat.le_of_ble_eq_true rfl) ?_
  show T a 2 mX5_init 0 [(0, rv a 14)] [] (shp.take 15, g) zH _
  refine tr_aload_n (pc := 0) 0 dX5_init_0 rfl rfl ?_
  refine tr_objInit (pc := 1) dX5_init_1 ml_X5_3 (Nat.le_of_ble_eq_true rfl) (by omega) ?_
  refine tr_aload_n (pc := 4) 0 dX5_init_4 rfl rfl ?_
  refine tr_iconst (pc := 5) (v := nI 5) dX5_init_5 (by decide) ?_
  refine tr_newQk (pc := 6) (k := 15) (n := 5) dX5_init_6 cl_X5_9 rfl (by decide) rfl (by decide) rfl ?_
  refine tr_putR (pc := 9) dX5_init_9 (tk_get (j := 14) (kn := (8, 2)) rfl (by decide)) fi_X5_11 rfl (Or.inr rfl) (fun _ => rfl) (fun _ => rfl) ?_
  show T a 2 mX5_init 12 [(0, rv a 14)] [] (shp.take 16, (pt (al g 15) 14 0 15)) zH _
  refine tr_iconst (pc := 12) (v := nI 0) dX5_init_12 (by decide) ?_
  refine tr_istore_n (pc := 13) (lv' := [(1, .int (nI 0)), (0, rv a 14)]) dX5_init_13 rfl (by decide) rfl ?_
  refine tr_iload_n (pc := 14) 0 dX5_init_14 rfl rfl ?_
  refine tr_iconst (pc := 15) (v := nI 5) dX5_init_15 (by decide) ?_
  refine tr_icmp_ge (pc := 16) (tgt := 38) dX5_init_16 (by decide) (nI_leI (by omega) (by omega)) (fun hcc => absurd hcc (by decide)) (fun _ => ?_)
  refine tr_aload_n (pc := 19) 1 dX5_init_19 rfl rfl ?_
  refine tr_getR (pc := 20) (q := 15) dX5_init_20 (tk_get (j := 14) (kn := (8, 2)) rfl (by decide)) fi_X5_11 rfl rfl ?_
  refine tr_iload_n (pc := 23) 0 dX5_init_23 rfl rfl ?_
  refine tr_newk (pc := 24) (k := 16) (ci := 2) dX5_init_24 rfl cl_X5_9 in_X2 ini_X2 rfl (by decide) rfl ?_
  refine tr_dup (pc := 27) dX5_init_27 rfl ?_
  refine tr_callIN (pc := 28) (rest := [rv a 16, .int (nI 0), rv a 15]) dX5_init_28 nl_X5_17 ci_X2_init rfl rfl (Nat.le_of_ble_eq_true rfl) (by decide) (c_iX2 (k := 16) rfl rfl rfl (by decide) (fun _ _ => rfl)) ?_
  rintro _ _ _ ⟨rfl, rfl, rfl⟩
  show T a 2 mX5_init 31 [(1, .int (nI 0)), (0, rv a 14)] [rv a 16, .int (nI 0), rv a 15] (shp.take 19, (iX2 (al (pt (al g 15) 14 0 15) 16) 16)) zH _
  refine tr_aast (pc := 31) 0 dX5_init_31 (tk_get (j := 15) (kn := (2, 5)) rfl (by decide)) rfl (by decide) (by decide) (tk_get (j := 16) (kn := (5, 3)) rfl (by decide)) ?_
  show T a 2 mX5_init 32 [(1, .int (nI 0)), (0, rv a 14)] [] (shp.take 19, (pt (iX2 (al (pt (al g 15) 14 0 15) 16) 16) 15 0 16)) zH _
  refine tr_iinc (pc := 32) (v := nI 1) (lv' := [(1, .int (nI 1)), (0, rv a 14)]) 0 dX5_init_32 rfl (by rw [show Int32.ofInt 1 = nI 1 from by decide, nI_add]) (by decide) rfl ?_
  refine tr_goto (pc := 35) (tgt := 14) dX5_init_35 (by decide) ?_
  refine tr_iload_n (pc := 14) 0 dX5_init_14 rfl rfl ?_
  refine tr_iconst (pc := 15) (v := nI 5) dX5_init_15 (by decide) ?_
  refine tr_icmp_ge (pc := 16) (tgt := 38) dX5_init_16 (by decide) (nI_leI (by omega) (by omega)) (fun hcc => absurd hcc (by decide)) (fun _ => ?_)
  refine tr_aload_n (pc := 19) 1 dX5_init_19 rfl rfl ?_
  refine tr_getR (pc := 20) (q := 15) dX5_init_20 (tk_get (j := 14) (kn := (8, 2)) rfl (by decide)) fi_X5_11 rfl rfl ?_
  refine tr_iload_n (pc := 23) 0 dX5_init_23 rfl rfl ?_
  refine tr_newk (pc := 24) (k := 19) (ci := 2) dX5_init_24 rfl cl_X5_9 in_X2 ini_X2 rfl (by decide) rfl ?_
  refine tr_dup (pc := 27) dX5_init_27 rfl ?_
  refine tr_callIN (pc := 28) (rest := [rv a 19, .int (nI 1), rv a 15]) dX5_init_28 nl_X5_17 ci_X2_init rfl rfl (Nat.le_of_ble_eq_true rfl) (by decide) (c_iX2 (k := 19) rfl rfl rfl (by decide) (fun _ _ => rfl)) ?_
  rintro _ _ _ ⟨rfl, rfl, rfl⟩
  show T a 2 mX5_init 31 [(1, .int (nI 1)), (0, rv a 14)] [rv a 19, .int (nI 1), rv a 15] (shp.take 22, (iX2 (al (pt (iX2 (al (pt (al g 15) 14 0 15) 16) 16) 15 0 16) 19) 19)) zH _
  refine tr_aast (pc := 31) 1 dX5_init_31 (tk_get (j := 15) (kn := (2, 5)) rfl (by decide)) rfl (by decide) (by decide) (tk_get (j := 19) (kn := (5, 3)) rfl (by decide)) ?_
  show T a 2 mX5_init 32 [(1, .int (nI 1)), (0, rv a 14)] [] (shp.take 22, (pt (iX2 (al (pt (iX2 (al (pt (al g 15) 14 0 15) 16) 16) 15 0 16) 19) 19) 15 1 19)) zH _
  refine tr_iinc (pc := 32) (v := nI 2) (lv' := [(1, .int (nI 2)), (0, rv a 14)]) 0 dX5_init_32 rfl (by rw [show Int32.ofInt 1 = nI 1 from by decide, nI_add]) (by decide) rfl ?_
  refine tr_goto (pc := 35) (tgt := 14) dX5_init_35 (by decide) ?_
  refine tr_iload_n (pc := 14) 0 dX5_init_14 rfl rfl ?_
  refine tr_iconst (pc := 15) (v := nI 5) dX5_init_15 (by decide) ?_
  refine tr_icmp_ge (pc := 16) (tgt := 38) dX5_init_16 (by decide) (nI_leI (by omega) (by omega)) (fun hcc => absurd hcc (by decide)) (fun _ => ?_)
  refine tr_aload_n (pc := 19) 1 dX5_init_19 rfl rfl ?_
  refine tr_getR (pc := 20) (q := 15) dX5_init_20 (tk_get (j := 14) (kn := (8, 2)) rfl (by decide)) fi_X5_11 rfl rfl ?_
  refine tr_iload_n (pc := 23) 0 dX5_init_23 rfl rfl ?_
  refine tr_newk (pc := 24) (k := 22) (ci := 2) dX5_init_24 rfl cl_X5_9 in_X2 ini_X2 rfl (by decide) rfl ?_
  refine tr_dup (pc := 27) dX5_init_27 rfl ?_
  refine tr_callIN (pc := 28) (rest := [rv a 22, .int (nI 2), rv a 15]) dX5_init_28 nl_X5_17 ci_X2_init rfl rfl (Nat.le_of_ble_eq_true rfl) (by decide) (c_iX2 (k := 22) rfl rfl rfl (by decide) (fun _ _ => rfl)) ?_
  rintro _ _ _ ⟨rfl, rfl, rfl⟩
  show T a 2 mX5_init 31 [(1, .int (nI 2)), (0, rv a 14)] [rv a 22, .int (nI 2), rv a 15] (shp.take 25, (iX2 (al (pt (iX2 (al (pt (iX2 (al (pt (al g 15) 14 0 15) 16) 16) 15 0 16) 19) 19) 15 1 19) 22) 22)) zH _
  refine tr_aast (pc := 31) 2 dX5_init_31 (tk_get (j := 15) (kn := (2, 5)) rfl (by decide)) rfl (by decide) (by decide) (tk_get (j := 22) (kn := (5, 3)) rfl (by decide)) ?_
  show T a 2 mX5_init 32 [(1, .int (nI 2)), (0, rv a 14)] [] (shp.take 25, (pt (iX2 (al (pt (iX2 (al (pt (iX2 (al (pt (al g 15) 14 0 15) 16) 16) 15 0 16) 19) 19) 15 1 19) 22) 22) 15 2 22)) zH _
  refine tr_iinc (pc := 32) (v := nI 3) (lv' := [(1, .int (nI 3)), (0, rv a 14)]) 0 dX5_init_32 rfl (by rw [show Int32.ofInt 1 = nI 1 from by decide, nI_add]) (by decide) rfl ?_
  refine tr_goto (pc := 35) (tgt := 14) dX5_init_35 (by decide) ?_
  refine tr_iload_n (pc := 14) 0 dX5_init_14 rfl rfl ?_
  refine tr_iconst (pc := 15) (v := nI 5) dX5_init_15 (by decide) ?_
  refine tr_icmp_ge (pc := 16) (tgt := 38) dX5_init_16 (by decide) (nI_leI (by omega) (by omega)) (fun hcc => absurd hcc (by decide)) (fun _ => ?_)
  refine tr_aload_n (pc := 19) 1 dX5_init_19 rfl rfl ?_
  refine tr_getR (pc := 20) (q := 15) dX5_init_20 (tk_get (j := 14) (kn := (8, 2)) rfl (by decide)) fi_X5_11 rfl rfl ?_
  refine tr_iload_n (pc := 23) 0 dX5_init_23 rfl rfl ?_
  refine tr_newk (pc := 24) (k := 25) (ci := 2) dX5_init_24 rfl cl_X5_9 in_X2 ini_X2 rfl (by decide) rfl ?_
  refine tr_dup (pc := 27) dX5_init_27 rfl ?_
  refine tr_callIN (pc := 28) (rest := [rv a 25, .int (nI 3), rv a 15]) dX5_init_28 nl_X5_17 ci_X2_init rfl rfl (Nat.le_of_ble_eq_true rfl) (by decide) (c_iX2 (k := 25) rfl rfl rfl (by decide) (fun _ _ => rfl)) ?_
  rintro _ _ _ ⟨rfl, rfl, rfl⟩
  show T a 2 mX5_init 31 [(1, .int (nI 3)), (0, rv a 14)] [rv a 25, .int (nI 3), rv a 15] (shp.take 28, (iX2 (al (pt (iX2 (al (pt (iX2 (al (pt (iX2 (al (pt (al g 15) 14 0 15) 16) 16) 15 0 16) 19) 19) 15 1 19) 22) 22) 15 2 22) 25) 25)) zH _
  refine tr_aast (pc := 31) 3 dX5_init_31 (tk_get (j := 15) (kn := (2, 5)) rfl (by decide)) rfl (by decide) (by decide) (tk_get (j := 25) (kn := (5, 3)) rfl (by decide)) ?_
  show T a 2 mX5_init 32 [(1, .int (nI 3)), (0, rv a 14)] [] (shp.take 28, (pt (iX2 (al (pt (iX2 (al (pt (iX2 (al (pt (iX2 (al (pt (al g 15) 14 0 15) 16) 16) 15 0 16) 19) 19) 15 1 19) 22) 22) 15 2 22) 25) 25) 15 3 25)) zH _
  refine tr_iinc (pc := 32) (v := nI 4) (lv' := [(1, .int (nI 4)), (0, rv a 14)]) 0 dX5_init_32 rfl (by rw [show Int32.ofInt 1 = nI 1 from by decide, nI_add]) (by decide) rfl ?_
  refine tr_goto (pc := 35) (tgt := 14) dX5_init_35 (by decide) ?_
  refine tr_iload_n (pc := 14) 0 dX5_init_14 rfl rfl ?_
  refine tr_iconst (pc := 15) (v := nI 5) dX5_init_15 (by decide) ?_
  refine tr_icmp_ge (pc := 16) (tgt := 38) dX5_init_16 (by decide) (nI_leI (by omega) (by omega)) (fun hcc => absurd hcc (by decide)) (fun _ => ?_)
  refine tr_aload_n (pc := 19) 1 dX5_init_19 rfl rfl ?_
  refine tr_getR (pc := 20) (q := 15) dX5_init_20 (tk_get (j := 14) (kn := (8, 2)) rfl (by decide)) fi_X5_11 rfl rfl ?_
  refine tr_iload_n (pc := 23) 0 dX5_init_23 rfl rfl ?_
  refine tr_newk (pc := 24) (k := 28) (ci := 2) dX5_init_24 rfl cl_X5_9 in_X2 ini_X2 rfl (by decide) rfl ?_
  refine tr_dup (pc := 27) dX5_init_27 rfl ?_
  refine tr_callIN (pc := 28) (rest := [rv a 28, .int (nI 4), rv a 15]) dX5_init_28 nl_X5_17 ci_X2_init rfl rfl (Nat.le_of_ble_eq_true rfl) (by decide) (c_iX2 (k := 28) rfl rfl rfl (by decide) (fun _ _ => rfl)) ?_
  rintro _ _ _ ⟨rfl, rfl, rfl⟩
  show T a 2 mX5_init 31 [(1, .int (nI 4)), (0, rv a 14)] [rv a 28, .int (nI 4), rv a 15] (shp.take 31, (iX2 (al (pt (iX2 (al (pt (iX2 (al (pt (iX2 (al (pt (iX2 (al (pt (al g 15) 14 0 15) 16) 16) 15 0 16) 19) 19) 15 1 19) 22) 22) 15 2 22) 25) 25) 15 3 25) 28) 28)) zH _
  refine tr_aast (pc := 31) 4 dX5_init_31 (tk_get (j := 15) (kn := (2, 5)) rfl (by decide)) rfl (by decide) (by decide) (tk_get (j := 28) (kn := (5, 3)) rfl (by decide)) ?_
  show T a 2 mX5_init 32 [(1, .int (nI 4)), (0, rv a 14)] [] (shp.take 31, (pt (iX2 (al (pt (iX2 (al (pt (iX2 (al (pt (iX2 (al (pt (iX2 (al (pt (al g 15) 14 0 15) 16) 16) 15 0 16) 19) 19) 15 1 19) 22) 22) 15 2 22) 25) 25) 15 3 25) 28) 28) 15 4 28)) zH _
  refine tr_iinc (pc := 32) (v := nI 5) (lv' := [(1, .int (nI 5)), (0, rv a 14)]) 0 dX5_init_32 rfl (by rw [show Int32.ofInt 1 = nI 1 from by decide, nI_add]) (by decide) rfl ?_
  refine tr_goto (pc := 35) (tgt := 14) dX5_init_35 (by decide) ?_
  refine tr_iload_n (pc := 14) 0 dX5_init_14 rfl rfl ?_
  refine tr_iconst (pc := 15) (v := nI 5) dX5_init_15 (by decide) ?_
  refine tr_icmp_ge (pc := 16) (tgt := 38) dX5_init_16 (by decide) (nI_leI (by omega) (by omega)) (fun _ => ?_) (fun hcc => absurd (by decide) hcc)
  exact tr_vret (pc := 38) dX5_init_38 rfl (⟨rfl, rfl, rfl⟩)

def iX8 (g : RF) : RF := pt (pt (pt (pt (al (pt (al (pt (al (pt (al (pt (al (pt (al (pt (al (pt (al g 42) 41 3 42) 43) 41 5 43) 44) 41 6 44) 45) 41 7 45) 46) 41 8 46) 47) 41 15 47) 48) 41 16 48) 49) 41 17 49) 41 0 3) 41 1 31) 41 2 38
set_option maxHeartbeats 4000000 in
set_option maxRecDepth 100000 in
theorem c_iX8 {a : Am} {g : RF} : CT a 1 mX8_init [rv a 41, rv a 3, rv a 31, rv a 38] (shp.take 42, g) zH (fun v S' h' => v = none ∧ S' = (shp.take 50, iX8 g) ∧ h' = (hs zH 41 (upd (zH 41) 4 (-1)))) := by
  refine met_of (by decide +kernel) (Nat.le_of_ble_eq_true rfl) ?_
  show T a 1 mX8_init 0 [(0, rv a 41), (1, rv a 3), (2, rv a 31), (3, rv a 38)] [] (shp.take 42, g) zH _
  refine tr_aload_n (pc := 0) 0 dX8_init_0 rfl rfl ?_
  refine tr_objInit (pc := 1) dX8_init_1 ml_X8_3 (Nat.le_of_ble_eq_true rfl) (by omega) ?_
  refine tr_aload_n (pc := 4) 0 dX8_init_4 rfl rfl ?_
  refine tr_bipush (pc := 5) (v := nI 16) dX8_init_5 (by decide) ?_
  refine tr_newIk (pc := 7) (k := 42) (n := 16) dX8_init_7 rfl (by decide) rfl (by decide) rfl ?_
  refine tr_putR (pc := 9) dX8_init_9 (tk_get (j := 41) (kn := (11, 18)) rfl (by decide)) fi_X8_9 rfl (Or.inr rfl) (fun _ => rfl) (fun _ => rfl) ?_
  show T a 1 mX8_init 12 [(0, rv a 41), (1, rv a 3), (2, rv a 31), (3, rv a 38)] [] (shp.take 43, (pt (al g 42) 41 3 42)) zH _
  refine tr_aload_n (pc := 12) 0 dX8_init_12 rfl rfl ?_
  refine tr_iconst (pc := 13) (v := -1) dX8_init_13 (by decide) ?_
  refine tr_putI (pc := 14) (x := -1) dX8_init_14 (tk_get (j := 41) (kn := (11, 18)) rfl (by decide)) fi_X8_15 rfl rfl rfl ?_
  refine tr_aload_n (pc := 17) 0 dX8_init_17 rfl rfl ?_
  refine tr_bipush (pc := 18) (v := nI 32) dX8_init_18 (by decide) ?_
  refine tr_newIk (pc := 20) (k := 43) (n := 32) dX8_init_20 rfl (by decide) rfl (by decide) (by rw [hs_ne (by decide)]) ?_
  refine tr_putR (pc := 22) dX8_init_22 (tk_get (j := 41) (kn := (11, 18)) rfl (by decide)) fi_X8_19 rfl (Or.inl rfl) (fun _ => rfl) (fun _ => rfl) ?_
  show T a 1 mX8_init 25 [(0, rv a 41), (1, rv a 3), (2, rv a 31), (3, rv a 38)] [] (shp.take 44, (pt (al (pt (al g 42) 41 3 42) 43) 41 5 43)) (hs zH 41 (upd (zH 41) 4 (-1))) _
  refine tr_aload_n (pc := 25) 0 dX8_init_25 rfl rfl ?_
  refine tr_bipush (pc := 26) (v := nI 32) dX8_init_26 (by decide) ?_
  refine tr_newIk (pc := 28) (k := 44) (n := 32) dX8_init_28 rfl (by decide) rfl (by decide) (by rw [hs_ne (by decide)]) ?_
  refine tr_putR (pc := 30) dX8_init_30 (tk_get (j := 41) (kn := (11, 18)) rfl (by decide)) fi_X8_22 rfl (Or.inl rfl) (fun _ => rfl) (fun _ => rfl) ?_
  show T a 1 mX8_init 33 [(0, rv a 41), (1, rv a 3), (2, rv a 31), (3, rv a 38)] [] (shp.take 45, (pt (al (pt (al (pt (al g 42) 41 3 42) 43) 41 5 43) 44) 41 6 44)) (hs zH 41 (upd (zH 41) 4 (-1))) _
  refine tr_aload_n (pc := 33) 0 dX8_init_33 rfl rfl ?_
  refine tr_bipush (pc := 34) (v := nI 32) dX8_init_34 (by decide) ?_
  refine tr_newIk (pc := 36) (k := 45) (n := 32) dX8_init_36 rfl (by decide) rfl (by decide) (by rw [hs_ne (by decide)]) ?_
  refine tr_putR (pc := 38) dX8_init_38 (tk_get (j := 41) (kn := (11, 18)) rfl (by decide)) fi_X8_25 rfl (Or.inl rfl) (fun _ => rfl) (fun _ => rfl) ?_
  show T a 1 mX8_init 41 [(0, rv a 41), (1, rv a 3), (2, rv a 31), (3, rv a 38)] [] (shp.take 46, (pt (al (pt (al (pt (al (pt (al g 42) 41 3 42) 43) 41 5 43) 44) 41 6 44) 45) 41 7 45)) (hs zH 41 (upd (zH 41) 4 (-1))) _
  refine tr_aload_n (pc := 41) 0 dX8_init_41 rfl rfl ?_
  refine tr_bipush (pc := 42) (v := nI 32) dX8_init_42 (by decide) ?_
  refine tr_newIk (pc := 44) (k := 46) (n := 32) dX8_init_44 rfl (by decide) rfl (by decide) (by rw [hs_ne (by decide)]) ?_
  refine tr_putR (pc := 46) dX8_init_46 (tk_get (j := 41) (kn := (11, 18)) rfl (by decide)) fi_X8_28 rfl (Or.inl rfl) (fun _ => rfl) (fun _ => rfl) ?_
  show T a 1 mX8_init 49 [(0, rv a 41), (1, rv a 3), (2, rv a 31), (3, rv a 38)] [] (shp.take 47, (pt (al (pt (al (pt (al (pt (al (pt (al g 42) 41 3 42) 43) 41 5 43) 44) 41 6 44) 45) 41 7 45) 46) 41 8 46)) (hs zH 41 (upd (zH 41) 4 (-1))) _
  refine tr_aload_n (pc := 49) 0 dX8_init_49 rfl rfl ?_
  refine tr_bipush (pc := 50) (v := nI 32) dX8_init_50 (by decide) ?_
  refine tr_newIk (pc := 52) (k := 47) (n := 32) dX8_init_52 rfl (by decide) rfl (by decide) (by rw [hs_ne (by decide)]) ?_
  refine tr_putR (pc := 54) dX8_init_54 (tk_get (j := 41) (kn := (11, 18)) rfl (by decide)) fi_X8_31 rfl (Or.inr rfl) (fun _ => rfl) (fun _ => rfl) ?_
  show T a 1 mX8_init 57 [(0, rv a 41), (1, rv a 3), (2, rv a 31), (3, rv a 38)] [] (shp.take 48, (pt (al (pt (al (pt (al (pt (al (pt (al (pt (al g 42) 41 3 42) 43) 41 5 43) 44) 41 6 44) 45) 41 7 45) 46) 41 8 46) 47) 41 15 47)) (hs zH 41 (upd (zH 41) 4 (-1))) _
  refine tr_aload_n (pc := 57) 0 dX8_init_57 rfl rfl ?_
  refine tr_bipush (pc := 58) (v := nI 32) dX8_init_58 (by decide) ?_
  refine tr_newIk (pc := 60) (k := 48) (n := 32) dX8_init_60 rfl (by decide) rfl (by decide) (by rw [hs_ne (by decide)]) ?_
  refine tr_putR (pc := 62) dX8_init_62 (tk_get (j := 41) (kn := (11, 18)) rfl (by decide)) fi_X8_34 rfl (Or.inr rfl) (fun _ => rfl) (fun _ => rfl) ?_
  show T a 1 mX8_init 65 [(0, rv a 41), (1, rv a 3), (2, rv a 31), (3, rv a 38)] [] (shp.take 49, (pt (al (pt (al (pt (al (pt (al (pt (al (pt (al (pt (al g 42) 41 3 42) 43) 41 5 43) 44) 41 6 44) 45) 41 7 45) 46) 41 8 46) 47) 41 15 47) 48) 41 16 48)) (hs zH 41 (upd (zH 41) 4 (-1))) _
  refine tr_aload_n (pc := 65) 0 dX8_init_65 rfl rfl ?_
  refine tr_bipush (pc := 66) (v := nI 32) dX8_init_66 (by decide) ?_
  refine tr_newIk (pc := 68) (k := 49) (n := 32) dX8_init_68 rfl (by decide) rfl (by decide) (by rw [hs_ne (by decide)]) ?_
  refine tr_putR (pc := 70) dX8_init_70 (tk_get (j := 41) (kn := (11, 18)) rfl (by decide)) fi_X8_37 rfl (Or.inr rfl) (fun _ => rfl) (fun _ => rfl) ?_
  show T a 1 mX8_init 73 [(0, rv a 41), (1, rv a 3), (2, rv a 31), (3, rv a 38)] [] (shp.take 50, (pt (al (pt (al (pt (al (pt (al (pt (al (pt (al (pt (al (pt (al g 42) 41 3 42) 43) 41 5 43) 44) 41 6 44) 45) 41 7 45) 46) 41 8 46) 47) 41 15 47) 48) 41 16 48) 49) 41 17 49)) (hs zH 41 (upd (zH 41) 4 (-1))) _
  refine tr_aload_n (pc := 73) 0 dX8_init_73 rfl rfl ?_
  refine tr_aload_n (pc := 74) 1 dX8_init_74 rfl rfl ?_
  refine tr_putR (pc := 75) dX8_init_75 (tk_get (j := 41) (kn := (11, 18)) rfl (by decide)) fi_X8_40 rfl (Or.inr rfl) (fun _ => rfl) (fun _ => rfl) ?_
  show T a 1 mX8_init 78 [(0, rv a 41), (1, rv a 3), (2, rv a 31), (3, rv a 38)] [] (shp.take 50, (pt (pt (al (pt (al (pt (al (pt (al (pt (al (pt (al (pt (al (pt (al g 42) 41 3 42) 43) 41 5 43) 44) 41 6 44) 45) 41 7 45) 46) 41 8 46) 47) 41 15 47) 48) 41 16 48) 49) 41 17 49) 41 0 3)) (hs zH 41 (upd (zH 41) 4 (-1))) _
  refine tr_aload_n (pc := 78) 0 dX8_init_78 rfl rfl ?_
  refine tr_aload_n (pc := 79) 2 dX8_init_79 rfl rfl ?_
  refine tr_putR (pc := 80) dX8_init_80 (tk_get (j := 41) (kn := (11, 18)) rfl (by decide)) fi_X8_44 rfl (Or.inr rfl) (fun _ => rfl) (fun _ => rfl) ?_
  show T a 1 mX8_init 83 [(0, rv a 41), (1, rv a 3), (2, rv a 31), (3, rv a 38)] [] (shp.take 50, (pt (pt (pt (al (pt (al (pt (al (pt (al (pt (al (pt (al (pt (al (pt (al g 42) 41 3 42) 43) 41 5 43) 44) 41 6 44) 45) 41 7 45) 46) 41 8 46) 47) 41 15 47) 48) 41 16 48) 49) 41 17 49) 41 0 3) 41 1 31)) (hs zH 41 (upd (zH 41) 4 (-1))) _
  refine tr_aload_n (pc := 83) 0 dX8_init_83 rfl rfl ?_
  refine tr_aload_n (pc := 84) 3 dX8_init_84 rfl rfl ?_
  refine tr_putR (pc := 85) dX8_init_85 (tk_get (j := 41) (kn := (11, 18)) rfl (by decide)) fi_X8_48 rfl (Or.inr rfl) (fun _ => rfl) (fun _ => rfl) ?_
  show T a 1 mX8_init 88 [(0, rv a 41), (1, rv a 3), (2, rv a 31), (3, rv a 38)] [] (shp.take 50, (pt (pt (pt (pt (al (pt (al (pt (al (pt (al (pt (al (pt (al (pt (al (pt (al g 42) 41 3 42) 43) 41 5 43) 44) 41 6 44) 45) 41 7 45) 46) 41 8 46) 47) 41 15 47) 48) 41 16 48) 49) 41 17 49) 41 0 3) 41 1 31) 41 2 38)) (hs zH 41 (upd (zH 41) 4 (-1))) _
  exact tr_vret (pc := 88) dX8_init_88 rfl (⟨rfl, rfl, rfl⟩)

def iX9 (g : RF) : RF := pt (iX8 (al (pt (iX0 (al (pt (iX1 (al (pt (iX4 (al (pt (iX5 (al (pt (iX3 (al (pt (iX2 (al (pt (iX2 (al (pt (iX6 (al g 1)) 0 0 1) 3) 3) 0 1 3) 6) 6) 0 2 6) 9)) 0 3 9) 14)) 0 4 14) 31)) 0 5 31) 35)) 0 6 35) 38)) 0 7 38) 41)) 0 8 41
set_option maxHeartbeats 4000000 in
set_option maxRecDepth 100000 in
theorem c_iX9 {a : Am} {g : RF} : CT a 3 mX9_init [rv a 0] (shp.take 1, g) zH (fun v S' h' => v = none ∧ S' = (shp.take 50, iX9 g) ∧ h' = (hs zH 41 (upd (zH 41) 4 (-1)))) := by
  refine met_of (by decide +kernel) (Nat.le_of_ble_eq_true rfl) ?_
  show T a 3 mX9_init 0 [(0, rv a 0)] [] (shp.take 1, g) zH _
  refine tr_aload_n (pc := 0) 0 dX9_init_0 rfl rfl ?_
  refine tr_objInit (pc := 1) dX9_init_1 ml_X9_3 (Nat.le_of_ble_eq_true rfl) (by omega) ?_
  refine tr_aload_n (pc := 4) 0 dX9_init_4 rfl rfl ?_
  refine tr_newk (pc := 5) (k := 1) (ci := 6) dX9_init_5 rfl cl_X9_9 in_X6 ini_X6 rfl (by decide) rfl ?_
  refine tr_dup (pc := 8) dX9_init_8 rfl ?_
  refine tr_callIN (pc := 9) (rest := [rv a 1, rv a 0]) dX9_init_9 nl_X9_11 ci_X6_init rfl rfl (Nat.le_of_ble_eq_true rfl) (by decide) (c_iX6) ?_
  rintro _ _ _ ⟨rfl, rfl, rfl⟩
  show T a 3 mX9_init 12 [(0, rv a 0)] [rv a 1, rv a 0] (shp.take 3, (iX6 (al g 1))) zH _
  refine tr_putR (pc := 12) dX9_init_12 (tk_get (j := 0) (kn := (12, 14)) rfl (by decide)) fi_X9_12 rfl (Or.inr rfl) (fun _ => rfl) (fun _ => rfl) ?_
  show T a 3 mX9_init 15 [(0, rv a 0)] [] (shp.take 3, (pt (iX6 (al g 1)) 0 0 1)) zH _
  refine tr_aload_n (pc := 15) 0 dX9_init_15 rfl rfl ?_
  refine tr_newk (pc := 16) (k := 3) (ci := 2) dX9_init_16 rfl cl_X9_16 in_X2 ini_X2 rfl (by decide) rfl ?_
  refine tr_dup (pc := 19) dX9_init_19 rfl ?_
  refine tr_callIN (pc := 20) (rest := [rv a 3, rv a 0]) dX9_init_20 nl_X9_18 ci_X2_init rfl rfl (Nat.le_of_ble_eq_true rfl) (by decide) (c_iX2 (k := 3) rfl rfl rfl (by decide) (fun _ _ => rfl)) ?_
  rintro _ _ _ ⟨rfl, rfl, rfl⟩
  show T a 3 mX9_init 23 [(0, rv a 0)] [rv a 3, rv a 0] (shp.take 6, (iX2 (al (pt (iX6 (al g 1)) 0 0 1) 3) 3)) zH _
  refine tr_putR (pc := 23) dX9_init_23 (tk_get (j := 0) (kn := (12, 14)) rfl (by decide)) fi_X9_19 rfl (Or.inr rfl) (fun _ => rfl) (fun _ => rfl) ?_
  show T a 3 mX9_init 26 [(0, rv a 0)] [] (shp.take 6, (pt (iX2 (al (pt (iX6 (al g 1)) 0 0 1) 3) 3) 0 1 3)) zH _
  refine tr_aload_n (pc := 26) 0 dX9_init_26 rfl rfl ?_
  refine tr_newk (pc := 27) (k := 6) (ci := 2) dX9_init_27 rfl cl_X9_16 in_X2 ini_X2 rfl (by decide) rfl ?_
  refine tr_dup (pc := 30) dX9_init_30 rfl ?_
  refine tr_callIN (pc := 31) (rest := [rv a 6, rv a 0]) dX9_init_31 nl_X9_18 ci_X2_init rfl rfl (Nat.le_of_ble_eq_true rfl) (by decide) (c_iX2 (k := 6) rfl rfl rfl (by decide) (fun _ _ => rfl)) ?_
  rintro _ _ _ ⟨rfl, rfl, rfl⟩
  show T a 3 mX9_init 34 [(0, rv a 0)] [rv a 6, rv a 0] (shp.take 9, (iX2 (al (pt (iX2 (al (pt (iX6 (al g 1)) 0 0 1) 3) 3) 0 1 3) 6) 6)) zH _
  refine tr_putR (pc := 34) dX9_init_34 (tk_get (j := 0) (kn := (12, 14)) rfl (by decide)) fi_X9_23 rfl (Or.inr rfl) (fun _ => rfl) (fun _ => rfl) ?_
  show T a 3 mX9_init 37 [(0, rv a 0)] [] (shp.take 9, (pt (iX2 (al (pt (iX2 (al (pt (iX6 (al g 1)) 0 0 1) 3) 3) 0 1 3) 6) 6) 0 2 6)) zH _
  refine tr_aload_n (pc := 37) 0 dX9_init_37 rfl rfl ?_
  refine tr_newk (pc := 38) (k := 9) (ci := 3) dX9_init_38 rfl cl_X9_26 in_X3 ini_X3 rfl (by decide) rfl ?_
  refine tr_dup (pc := 41) dX9_init_41 rfl ?_
  refine tr_aload_n (pc := 42) 0 dX9_init_42 rfl rfl ?_
  refine tr_getR (pc := 43) (q := 1) dX9_init_43 (tk_get (j := 0) (kn := (12, 14)) rfl (by decide)) fi_X9_12 rfl rfl ?_
  refine tr_aload_n (pc := 46) 0 dX9_init_46 rfl rfl ?_
  refine tr_getR (pc := 47) (q := 6) dX9_init_47 (tk_get (j := 0) (kn := (12, 14)) rfl (by decide)) fi_X9_23 rfl rfl ?_
  refine tr_callI (pc := 50) (rest := [rv a 9, rv a 0]) dX9_init_50 ml_X9_28 ci_X3_init rfl rfl (Nat.le_of_ble_eq_true rfl) (by decide) (c_iX3) ?_
  rintro _ _ _ ⟨rfl, rfl, rfl⟩
  show T a 3 mX9_init 53 [(0, rv a 0)] [rv a 9, rv a 0] (shp.take 14, (iX3 (al (pt (iX2 (al (pt (iX2 (al (pt (iX6 (al g 1)) 0 0 1) 3) 3) 0 1 3) 6) 6) 0 2 6) 9))) zH _
  refine tr_putR (pc := 53) dX9_init_53 (tk_get (j := 0) (kn := (12, 14)) rfl (by decide)) fi_X9_31 rfl (Or.inr rfl) (fun _ => rfl) (fun _ => rfl) ?_
  show T a 3 mX9_init 56 [(0, rv a 0)] [] (shp.take 14, (pt (iX3 (al (pt (iX2 (al (pt (iX2 (al (pt (iX6 (al g 1)) 0 0 1) 3) 3) 0 1 3) 6) 6) 0 2 6) 9)) 0 3 9)) zH _
  refine tr_aload_n (pc := 56) 0 dX9_init_56 rfl rfl ?_
  refine tr_newk (pc := 57) (k := 14) (ci := 5) dX9_init_57 rfl cl_X9_35 in_X5 ini_X5 rfl (by decide) rfl ?_
  refine tr_dup (pc := 60) dX9_init_60 rfl ?_
  refine tr_callI (pc := 61) (rest := [rv a 14, rv a 0]) dX9_init_61 ml_X9_37 ci_X5_init rfl rfl (Nat.le_of_ble_eq_true rfl) (by decide) (c_iX5) ?_
  rintro _ _ _ ⟨rfl, rfl, rfl⟩
  show T a 3 mX9_init 64 [(0, rv a 0)] [rv a 14, rv a 0] (shp.take 31, (iX5 (al (pt (iX3 (al (pt (iX2 (al (pt (iX2 (al (pt (iX6 (al g 1)) 0 0 1) 3) 3) 0 1 3) 6) 6) 0 2 6) 9)) 0 3 9) 14))) zH _
  refine tr_putR (pc := 64) dX9_init_64 (tk_get (j := 0) (kn := (12, 14)) rfl (by decide)) fi_X9_38 rfl (Or.inr rfl) (fun _ => rfl) (fun _ => rfl) ?_
  show T a 3 mX9_init 67 [(0, rv a 0)] [] (shp.take 31, (pt (iX5 (al (pt (iX3 (al (pt (iX2 (al (pt (iX2 (al (pt (iX6 (al g 1)) 0 0 1) 3) 3) 0 1 3) 6) 6) 0 2 6) 9)) 0 3 9) 14)) 0 4 14)) zH _
  refine tr_aload_n (pc := 67) 0 dX9_init_67 rfl rfl ?_
  refine tr_newk (pc := 68) (k := 31) (ci := 4) dX9_init_68 rfl cl_X9_42 in_X4 ini_X4 rfl (by decide) rfl ?_
  refine tr_dup (pc := 71) dX9_init_71 rfl ?_
  refine tr_callIN (pc := 72) (rest := [rv a 31, rv a 0]) dX9_init_72 nl_X9_44 ci_X4_init rfl rfl (Nat.le_of_ble_eq_true rfl) (by decide) (c_iX4) ?_
  rintro _ _ _ ⟨rfl, rfl, rfl⟩
  show T a 3 mX9_init 75 [(0, rv a 0)] [rv a 31, rv a 0] (shp.take 35, (iX4 (al (pt (iX5 (al (pt (iX3 (al (pt (iX2 (al (pt (iX2 (al (pt (iX6 (al g 1)) 0 0 1) 3) 3) 0 1 3) 6) 6) 0 2 6) 9)) 0 3 9) 14)) 0 4 14) 31))) zH _
  refine tr_putR (pc := 75) dX9_init_75 (tk_get (j := 0) (kn := (12, 14)) rfl (by decide)) fi_X9_45 rfl (Or.inr rfl) (fun _ => rfl) (fun _ => rfl) ?_
  show T a 3 mX9_init 78 [(0, rv a 0)] [] (shp.take 35, (pt (iX4 (al (pt (iX5 (al (pt (iX3 (al (pt (iX2 (al (pt (iX2 (al (pt (iX6 (al g 1)) 0 0 1) 3) 3) 0 1 3) 6) 6) 0 2 6) 9)) 0 3 9) 14)) 0 4 14) 31)) 0 5 31)) zH _
  refine tr_aload_n (pc := 78) 0 dX9_init_78 rfl rfl ?_
  refine tr_newk (pc := 79) (k := 35) (ci := 1) dX9_init_79 rfl cl_X9_49 in_X1 ini_X1 rfl (by decide) rfl ?_
  refine tr_dup (pc := 82) dX9_init_82 rfl ?_
  refine tr_aload_n (pc := 83) 0 dX9_init_83 rfl rfl ?_
  refine tr_getR (pc := 84) (q := 3) dX9_init_84 (tk_get (j := 0) (kn := (12, 14)) rfl (by decide)) fi_X9_19 rfl rfl ?_
  refine tr_aload_n (pc := 87) 0 dX9_init_87 rfl rfl ?_
  refine tr_getR (pc := 88) (q := 31) dX9_init_88 (tk_get (j := 0) (kn := (12, 14)) rfl (by decide)) fi_X9_45 rfl rfl ?_
  refine tr_callI (pc := 91) (rest := [rv a 35, rv a 0]) dX9_init_91 ml_X9_51 ci_X1_init rfl rfl (Nat.le_of_ble_eq_true rfl) (by decide) (c_iX1) ?_
  rintro _ _ _ ⟨rfl, rfl, rfl⟩
  show T a 3 mX9_init 94 [(0, rv a 0)] [rv a 35, rv a 0] (shp.take 38, (iX1 (al (pt (iX4 (al (pt (iX5 (al (pt (iX3 (al (pt (iX2 (al (pt (iX2 (al (pt (iX6 (al g 1)) 0 0 1) 3) 3) 0 1 3) 6) 6) 0 2 6) 9)) 0 3 9) 14)) 0 4 14) 31)) 0 5 31) 35))) zH _
  refine tr_putR (pc := 94) dX9_init_94 (tk_get (j := 0) (kn := (12, 14)) rfl (by decide)) fi_X9_54 rfl (Or.inr rfl) (fun _ => rfl) (fun _ => rfl) ?_
  show T a 3 mX9_init 97 [(0, rv a 0)] [] (shp.take 38, (pt (iX1 (al (pt (iX4 (al (pt (iX5 (al (pt (iX3 (al (pt (iX2 (al (pt (iX2 (al (pt (iX6 (al g 1)) 0 0 1) 3) 3) 0 1 3) 6) 6) 0 2 6) 9)) 0 3 9) 14)) 0 4 14) 31)) 0 5 31) 35)) 0 6 35)) zH _
  refine tr_aload_n (pc := 97) 0 dX9_init_97 rfl rfl ?_
  refine tr_newk (pc := 98) (k := 38) (ci := 0) dX9_init_98 rfl cl_X9_58 in_X0 ini_X0 rfl (by decide) rfl ?_
  refine tr_dup (pc := 101) dX9_init_101 rfl ?_
  refine tr_aload_n (pc := 102) 0 dX9_init_102 rfl rfl ?_
  refine tr_getR (pc := 103) (q := 3) dX9_init_103 (tk_get (j := 0) (kn := (12, 14)) rfl (by decide)) fi_X9_19 rfl rfl ?_
  refine tr_aload_n (pc := 106) 0 dX9_init_106 rfl rfl ?_
  refine tr_getR (pc := 107) (q := 31) dX9_init_107 (tk_get (j := 0) (kn := (12, 14)) rfl (by decide)) fi_X9_45 rfl rfl ?_
  refine tr_aload_n (pc := 110) 0 dX9_init_110 rfl rfl ?_
  refine tr_getR (pc := 111) (q := 35) dX9_init_111 (tk_get (j := 0) (kn := (12, 14)) rfl (by decide)) fi_X9_54 rfl rfl ?_
  refine tr_callI (pc := 114) (rest := [rv a 38, rv a 0]) dX9_init_114 ml_X9_60 ci_X0_init rfl rfl (Nat.le_of_ble_eq_true rfl) (by decide) (c_iX0) ?_
  rintro _ _ _ ⟨rfl, rfl, rfl⟩
  show T a 3 mX9_init 117 [(0, rv a 0)] [rv a 38, rv a 0] (shp.take 41, (iX0 (al (pt (iX1 (al (pt (iX4 (al (pt (iX5 (al (pt (iX3 (al (pt (iX2 (al (pt (iX2 (al (pt (iX6 (al g 1)) 0 0 1) 3) 3) 0 1 3) 6) 6) 0 2 6) 9)) 0 3 9) 14)) 0 4 14) 31)) 0 5 31) 35)) 0 6 35) 38))) zH _
  refine tr_putR (pc := 117) dX9_init_117 (tk_get (j := 0) (kn := (12, 14)) rfl (by decide)) fi_X9_63 rfl (Or.inr rfl) (fun _ => rfl) (fun _ => rfl) ?_
  show T a 3 mX9_init 120 [(0, rv a 0)] [] (shp.take 41, (pt (iX0 (al (pt (iX1 (al (pt (iX4 (al (pt (iX5 (al (pt (iX3 (al (pt (iX2 (al (pt (iX2 (al (pt (iX6 (al g 1)) 0 0 1) 3) 3) 0 1 3) 6) 6) 0 2 6) 9)) 0 3 9) 14)) 0 4 14) 31)) 0 5 31) 35)) 0 6 35) 38)) 0 7 38)) zH _
  refine tr_aload_n (pc := 120) 0 dX9_init_120 rfl rfl ?_
  refine tr_newk (pc := 121) (k := 41) (ci := 8) dX9_init_121 rfl cl_X9_67 in_X8 ini_X8 rfl (by decide) rfl ?_
  refine tr_dup (pc := 124) dX9_init_124 rfl ?_
  refine tr_aload_n (pc := 125) 0 dX9_init_125 rfl rfl ?_
  refine tr_getR (pc := 126) (q := 3) dX9_init_126 (tk_get (j := 0) (kn := (12, 14)) rfl (by decide)) fi_X9_19 rfl rfl ?_
  refine tr_aload_n (pc := 129) 0 dX9_init_129 rfl rfl ?_
  refine tr_getR (pc := 130) (q := 31) dX9_init_130 (tk_get (j := 0) (kn := (12, 14)) rfl (by decide)) fi_X9_45 rfl rfl ?_
  refine tr_aload_n (pc := 133) 0 dX9_init_133 rfl rfl ?_
  refine tr_getR (pc := 134) (q := 38) dX9_init_134 (tk_get (j := 0) (kn := (12, 14)) rfl (by decide)) fi_X9_63 rfl rfl ?_
  refine tr_callI (pc := 137) (rest := [rv a 41, rv a 0]) dX9_init_137 ml_X9_69 ci_X8_init rfl rfl (Nat.le_of_ble_eq_true rfl) (by decide) (c_iX8) ?_
  rintro _ _ _ ⟨rfl, rfl, rfl⟩
  show T a 3 mX9_init 140 [(0, rv a 0)] [rv a 41, rv a 0] (shp.take 50, (iX8 (al (pt (iX0 (al (pt (iX1 (al (pt (iX4 (al (pt (iX5 (al (pt (iX3 (al (pt (iX2 (al (pt (iX2 (al (pt (iX6 (al g 1)) 0 0 1) 3) 3) 0 1 3) 6) 6) 0 2 6) 9)) 0 3 9) 14)) 0 4 14) 31)) 0 5 31) 35)) 0 6 35) 38)) 0 7 38) 41))) (hs zH 41 (upd (zH 41) 4 (-1))) _
  refine tr_putR (pc := 140) dX9_init_140 (tk_get (j := 0) (kn := (12, 14)) rfl (by decide)) fi_X9_72 rfl (Or.inr rfl) (fun _ => rfl) (fun _ => rfl) ?_
  show T a 3 mX9_init 143 [(0, rv a 0)] [] (shp.take 50, (pt (iX8 (al (pt (iX0 (al (pt (iX1 (al (pt (iX4 (al (pt (iX5 (al (pt (iX3 (al (pt (iX2 (al (pt (iX2 (al (pt (iX6 (al g 1)) 0 0 1) 3) 3) 0 1 3) 6) 6) 0 2 6) 9)) 0 3 9) 14)) 0 4 14) 31)) 0 5 31) 35)) 0 6 35) 38)) 0 7 38) 41)) 0 8 41)) (hs zH 41 (upd (zH 41) 4 (-1))) _
  exact tr_vret (pc := 143) dX9_init_143 rfl (⟨rfl, rfl, rfl⟩)

def iX10 (g : RF) : RF := pt (al (pt (al (pt (al (pt (al (pt (al (pt (al (pt (al (pt (al (pt (al (pt (al (pt (al (pt (al (pt (al (pt (al (pt (al (pt (al (pt (al (pt (al (pt (al (pt (al (pt (al (pt (al (pt (al (pt (al (pt (al g 51) 50 0 51) 52) 50 1 52) 53) 50 2 53) 54) 50 4 54) 55) 50 5 55) 56) 50 10 56) 57) 50 11 57) 58) 50 17 58) 59) 50 18 59) 60) 50 19 60) 61) 50 21 61) 62) 50 23 62) 63) 50 24 63) 64) 50 25 64) 65) 50 26 65) 66) 50 29 66) 67) 50 30 67) 68) 50 31 68) 69) 50 32 69) 70) 50 33 70) 71) 50 34 71) 72) 50 41 72) 73) 50 42 73) 74) 50 43 74) 75) 50 44 75
set_option maxHeartbeats 4000000 in
set_option maxRecDepth 100000 in
theorem c_iX10 {a : Am} {g : RF} : CT a 1 mX10_init [rv a 50] (shp.take 51, g) ((hs zH 41 (upd (zH 41) 4 (-1)))) (fun v S' h' => v = none ∧ S' = (shp.take 76, iX10 g) ∧ h' = (hs zH 41 (upd (zH 41) 4 (-1)))) := by
  refine met_of (by decide +kernel) (Nat.le_of_ble_eq_true rfl) ?_
  show T a 1 mX10_init 0 [(0, rv a 50)] [] (shp.take 51, g) (hs zH 41 (upd (zH 41) 4 (-1))) _
  refine tr_aload_n (pc := 0) 0 dX10_init_0 rfl rfl ?_
  refine tr_objInit (pc := 1) dX10_init_1 ml_X10_1 (Nat.le_of_ble_eq_true rfl) (by omega) ?_
  refine tr_aload_n (pc := 4) 0 dX10_init_4 rfl rfl ?_
  refine tr_sipush (pc := 5) (v := nI 133) dX10_init_5 (by decide) ?_
  refine tr_newIk (pc := 8) (k := 51) (n := 133) dX10_init_8 rfl (by decide) rfl (by decide) (by rw [hs_ne (by decide)]) ?_
  refine tr_putR (pc := 10) dX10_init_10 (tk_get (j := 50) (kn := (13, 45)) rfl (by decide)) fi_X10_7 rfl (Or.inr rfl) (fun _ => rfl) (fun _ => rfl) ?_
  show T a 1 mX10_init 13 [(0, rv a 50)] [] (shp.take 52, (pt (al g 51) 50 0 51)) (hs zH 41 (upd (zH 41) 4 (-1))) _
  refine tr_aload_n (pc := 13) 0 dX10_init_13 rfl rfl ?_
  refine tr_sipush (pc := 14) (v := nI 133) dX10_init_14 (by decide) ?_
  refine tr_newIk (pc := 17) (k := 52) (n := 133) dX10_init_17 rfl (by decide) rfl (by decide) (by rw [hs_ne (by decide)]) ?_
  refine tr_putR (pc := 19) dX10_init_19 (tk_get (j := 50) (kn := (13, 45)) rfl (by decide)) fi_X10_13 rfl (Or.inr rfl) (fun _ => rfl) (fun _ => rfl) ?_
  show T a 1 mX10_init 22 [(0, rv a 50)] [] (shp.take 53, (pt (al (pt (al g 51) 50 0 51) 52) 50 1 52)) (hs zH 41 (upd (zH 41) 4 (-1))) _
  refine tr_aload_n (pc := 22) 0 dX10_init_22 rfl rfl ?_
  refine tr_sipush (pc := 23) (v := nI 665) dX10_init_23 (by decide) ?_
  refine tr_newIk (pc := 26) (k := 53) (n := 665) dX10_init_26 rfl (by decide) rfl (by decide) (by rw [hs_ne (by decide)]) ?_
  refine tr_putR (pc := 28) dX10_init_28 (tk_get (j := 50) (kn := (13, 45)) rfl (by decide)) fi_X10_16 rfl (Or.inr rfl) (fun _ => rfl) (fun _ => rfl) ?_
  show T a 1 mX10_init 31 [(0, rv a 50)] [] (shp.take 54, (pt (al (pt (al (pt (al g 51) 50 0 51) 52) 50 1 52) 53) 50 2 53)) (hs zH 41 (upd (zH 41) 4 (-1))) _
  refine tr_aload_n (pc := 31) 0 dX10_init_31 rfl rfl ?_
  refine tr_iconst (pc := 32) (v := nI 3) dX10_init_32 (by decide) ?_
  refine tr_newIk (pc := 33) (k := 54) (n := 3) dX10_init_33 rfl (by decide) rfl (by decide) (by rw [hs_ne (by decide)]) ?_
  refine tr_putR (pc := 35) dX10_init_35 (tk_get (j := 50) (kn := (13, 45)) rfl (by decide)) fi_X10_19 rfl (Or.inr rfl) (fun _ => rfl) (fun _ => rfl) ?_
  show T a 1 mX10_init 38 [(0, rv a 50)] [] (shp.take 55, (pt (al (pt (al (pt (al (pt (al g 51) 50 0 51) 52) 50 1 52) 53) 50 2 53) 54) 50 4 54)) (hs zH 41 (upd (zH 41) 4 (-1))) _
  refine tr_aload_n (pc := 38) 0 dX10_init_38 rfl rfl ?_
  refine tr_sipush (pc := 39) (v := nI 200) dX10_init_39 (by decide) ?_
  refine tr_newIk (pc := 42) (k := 55) (n := 200) dX10_init_42 rfl (by decide) rfl (by decide) (by rw [hs_ne (by decide)]) ?_
  refine tr_putR (pc := 44) dX10_init_44 (tk_get (j := 50) (kn := (13, 45)) rfl (by decide)) fi_X10_22 rfl (Or.inr rfl) (fun _ => rfl) (fun _ => rfl) ?_
  show T a 1 mX10_init 47 [(0, rv a 50)] [] (shp.take 56, (pt (al (pt (al (pt (al (pt (al (pt (al g 51) 50 0 51) 52) 50 1 52) 53) 50 2 53) 54) 50 4 54) 55) 50 5 55)) (hs zH 41 (upd (zH 41) 4 (-1))) _
  refine tr_aload_n (pc := 47) 0 dX10_init_47 rfl rfl ?_
  refine tr_bipush (pc := 48) (v := nI 32) dX10_init_48 (by decide) ?_
  refine tr_newIk (pc := 50) (k := 56) (n := 32) dX10_init_50 rfl (by decide) rfl (by decide) (by rw [hs_ne (by decide)]) ?_
  refine tr_putR (pc := 52) dX10_init_52 (tk_get (j := 50) (kn := (13, 45)) rfl (by decide)) fi_X10_25 rfl (Or.inr rfl) (fun _ => rfl) (fun _ => rfl) ?_
  show T a 1 mX10_init 55 [(0, rv a 50)] [] (shp.take 57, (pt (al (pt (al (pt (al (pt (al (pt (al (pt (al g 51) 50 0 51) 52) 50 1 52) 53) 50 2 53) 54) 50 4 54) 55) 50 5 55) 56) 50 10 56)) (hs zH 41 (upd (zH 41) 4 (-1))) _
  refine tr_aload_n (pc := 55) 0 dX10_init_55 rfl rfl ?_
  refine tr_bipush (pc := 56) (v := nI 32) dX10_init_56 (by decide) ?_
  refine tr_newIk (pc := 58) (k := 57) (n := 32) dX10_init_58 rfl (by decide) rfl (by decide) (by rw [hs_ne (by decide)]) ?_
  refine tr_putR (pc := 60) dX10_init_60 (tk_get (j := 50) (kn := (13, 45)) rfl (by decide)) fi_X10_28 rfl (Or.inr rfl) (fun _ => rfl) (fun _ => rfl) ?_
  show T a 1 mX10_init 63 [(0, rv a 50)] [] (shp.take 58, (pt (al (pt (al (pt (al (pt (al (pt (al (pt (al (pt (al g 51) 50 0 51) 52) 50 1 52) 53) 50 2 53) 54) 50 4 54) 55) 50 5 55) 56) 50 10 56) 57) 50 11 57)) (hs zH 41 (upd (zH 41) 4 (-1))) _
  refine tr_aload_n (pc := 63) 0 dX10_init_63 rfl rfl ?_
  refine tr_bipush (pc := 64) (v := nI 32) dX10_init_64 (by decide) ?_
  refine tr_newIk (pc := 66) (k := 58) (n := 32) dX10_init_66 rfl (by decide) rfl (by decide) (by rw [hs_ne (by decide)]) ?_
  refine tr_putR (pc := 68) dX10_init_68 (tk_get (j := 50) (kn := (13, 45)) rfl (by decide)) fi_X10_31 rfl (Or.inr rfl) (fun _ => rfl) (fun _ => rfl) ?_
  show T a 1 mX10_init 71 [(0, rv a 50)] [] (shp.take 59, (pt (al (pt (al (pt (al (pt (al (pt (al (pt (al (pt (al (pt (al g 51) 50 0 51) 52) 50 1 52) 53) 50 2 53) 54) 50 4 54) 55) 50 5 55) 56) 50 10 56) 57) 50 11 57) 58) 50 17 58)) (hs zH 41 (upd (zH 41) 4 (-1))) _
  refine tr_aload_n (pc := 71) 0 dX10_init_71 rfl rfl ?_
  refine tr_bipush (pc := 72) (v := nI 32) dX10_init_72 (by decide) ?_
  refine tr_newIk (pc := 74) (k := 59) (n := 32) dX10_init_74 rfl (by decide) rfl (by decide) (by rw [hs_ne (by decide)]) ?_
  refine tr_putR (pc := 76) dX10_init_76 (tk_get (j := 50) (kn := (13, 45)) rfl (by decide)) fi_X10_34 rfl (Or.inr rfl) (fun _ => rfl) (fun _ => rfl) ?_
  show T a 1 mX10_init 79 [(0, rv a 50)] [] (shp.take 60, (pt (al (pt (al (pt (al (pt (al (pt (al (pt (al (pt (al (pt (al (pt (al g 51) 50 0 51) 52) 50 1 52) 53) 50 2 53) 54) 50 4 54) 55) 50 5 55) 56) 50 10 56) 57) 50 11 57) 58) 50 17 58) 59) 50 18 59)) (hs zH 41 (upd (zH 41) 4 (-1))) _
  refine tr_aload_n (pc := 79) 0 dX10_init_79 rfl rfl ?_
  refine tr_bipush (pc := 80) (v := nI 32) dX10_init_80 (by decide) ?_
  refine tr_newIk (pc := 82) (k := 60) (n := 32) dX10_init_82 rfl (by decide) rfl (by decide) (by rw [hs_ne (by decide)]) ?_
  refine tr_putR (pc := 84) dX10_init_84 (tk_get (j := 50) (kn := (13, 45)) rfl (by decide)) fi_X10_37 rfl (Or.inr rfl) (fun _ => rfl) (fun _ => rfl) ?_
  show T a 1 mX10_init 87 [(0, rv a 50)] [] (shp.take 61, (pt (al (pt (al (pt (al (pt (al (pt (al (pt (al (pt (al (pt (al (pt (al (pt (al g 51) 50 0 51) 52) 50 1 52) 53) 50 2 53) 54) 50 4 54) 55) 50 5 55) 56) 50 10 56) 57) 50 11 57) 58) 50 17 58) 59) 50 18 59) 60) 50 19 60)) (hs zH 41 (upd (zH 41) 4 (-1))) _
  refine tr_aload_n (pc := 87) 0 dX10_init_87 rfl rfl ?_
  refine tr_bipush (pc := 88) (v := nI 49) dX10_init_88 (by decide) ?_
  refine tr_newIk (pc := 90) (k := 61) (n := 49) dX10_init_90 rfl (by decide) rfl (by decide) (by rw [hs_ne (by decide)]) ?_
  refine tr_putR (pc := 92) dX10_init_92 (tk_get (j := 50) (kn := (13, 45)) rfl (by decide)) fi_X10_40 rfl (Or.inr rfl) (fun _ => rfl) (fun _ => rfl) ?_
  show T a 1 mX10_init 95 [(0, rv a 50)] [] (shp.take 62, (pt (al (pt (al (pt (al (pt (al (pt (al (pt (al (pt (al (pt (al (pt (al (pt (al (pt (al g 51) 50 0 51) 52) 50 1 52) 53) 50 2 53) 54) 50 4 54) 55) 50 5 55) 56) 50 10 56) 57) 50 11 57) 58) 50 17 58) 59) 50 18 59) 60) 50 19 60) 61) 50 21 61)) (hs zH 41 (upd (zH 41) 4 (-1))) _
  refine tr_aload_n (pc := 95) 0 dX10_init_95 rfl rfl ?_
  refine tr_sipush (pc := 96) (v := nI 4100) dX10_init_96 (by decide) ?_
  refine tr_newIk (pc := 99) (k := 62) (n := 4100) dX10_init_99 rfl (by decide) rfl (by decide) (by rw [hs_ne (by decide)]) ?_
  refine tr_putR (pc := 101) dX10_init_101 (tk_get (j := 50) (kn := (13, 45)) rfl (by decide)) fi_X10_43 rfl (Or.inr rfl) (fun _ => rfl) (fun _ => rfl) ?_
  show T a 1 mX10_init 104 [(0, rv a 50)] [] (shp.take 63, (pt (al (pt (al (pt (al (pt (al (pt (al (pt (al (pt (al (pt (al (pt (al (pt (al (pt (al (pt (al g 51) 50 0 51) 52) 50 1 52) 53) 50 2 53) 54) 50 4 54) 55) 50 5 55) 56) 50 10 56) 57) 50 11 57) 58) 50 17 58) 59) 50 18 59) 60) 50 19 60) 61) 50 21 61) 62) 50 23 62)) (hs zH 41 (upd (zH 41) 4 (-1))) _
  refine tr_aload_n (pc := 104) 0 dX10_init_104 rfl rfl ?_
  refine tr_sipush (pc := 105) (v := nI 4100) dX10_init_105 (by decide) ?_
  refine tr_newIk (pc := 108) (k := 63) (n := 4100) dX10_init_108 rfl (by decide) rfl (by decide) (by rw [hs_ne (by decide)]) ?_
  refine tr_putR (pc := 110) dX10_init_110 (tk_get (j := 50) (kn := (13, 45)) rfl (by decide)) fi_X10_46 rfl (Or.inr rfl) (fun _ => rfl) (fun _ => rfl) ?_
  show T a 1 mX10_init 113 [(0, rv a 50)] [] (shp.take 64, (pt (al (pt (al (pt (al (pt (al (pt (al (pt (al (pt (al (pt (al (pt (al (pt (al (pt (al (pt (al (pt (al g 51) 50 0 51) 52) 50 1 52) 53) 50 2 53) 54) 50 4 54) 55) 50 5 55) 56) 50 10 56) 57) 50 11 57) 58) 50 17 58) 59) 50 18 59) 60) 50 19 60) 61) 50 21 61) 62) 50 23 62) 63) 50 24 63)) (hs zH 41 (upd (zH 41) 4 (-1))) _
  refine tr_aload_n (pc := 113) 0 dX10_init_113 rfl rfl ?_
  refine tr_sipush (pc := 114) (v := nI 4100) dX10_init_114 (by decide) ?_
  refine tr_newIk (pc := 117) (k := 64) (n := 4100) dX10_init_117 rfl (by decide) rfl (by decide) (by rw [hs_ne (by decide)]) ?_
  refine tr_putR (pc := 119) dX10_init_119 (tk_get (j := 50) (kn := (13, 45)) rfl (by decide)) fi_X10_49 rfl (Or.inr rfl) (fun _ => rfl) (fun _ => rfl) ?_
  show T a 1 mX10_init 122 [(0, rv a 50)] [] (shp.take 65, (pt (al (pt (al (pt (al (pt (al (pt (al (pt (al (pt (al (pt (al (pt (al (pt (al (pt (al (pt (al (pt (al (pt (al g 51) 50 0 51) 52) 50 1 52) 53) 50 2 53) 54) 50 4 54) 55) 50 5 55) 56) 50 10 56) 57) 50 11 57) 58) 50 17 58) 59) 50 18 59) 60) 50 19 60) 61) 50 21 61) 62) 50 23 62) 63) 50 24 63) 64) 50 25 64)) (hs zH 41 (upd (zH 41) 4 (-1))) _
  refine tr_aload_n (pc := 122) 0 dX10_init_122 rfl rfl ?_
  refine tr_sipush (pc := 123) (v := nI 4100) dX10_init_123 (by decide) ?_
  refine tr_newIk (pc := 126) (k := 65) (n := 4100) dX10_init_126 rfl (by decide) rfl (by decide) (by rw [hs_ne (by decide)]) ?_
  refine tr_putR (pc := 128) dX10_init_128 (tk_get (j := 50) (kn := (13, 45)) rfl (by decide)) fi_X10_52 rfl (Or.inr rfl) (fun _ => rfl) (fun _ => rfl) ?_
  show T a 1 mX10_init 131 [(0, rv a 50)] [] (shp.take 66, (pt (al (pt (al (pt (al (pt (al (pt (al (pt (al (pt (al (pt (al (pt (al (pt (al (pt (al (pt (al (pt (al (pt (al (pt (al g 51) 50 0 51) 52) 50 1 52) 53) 50 2 53) 54) 50 4 54) 55) 50 5 55) 56) 50 10 56) 57) 50 11 57) 58) 50 17 58) 59) 50 18 59) 60) 50 19 60) 61) 50 21 61) 62) 50 23 62) 63) 50 24 63) 64) 50 25 64) 65) 50 26 65)) (hs zH 41 (upd (zH 41) 4 (-1))) _
  refine tr_aload_n (pc := 131) 0 dX10_init_131 rfl rfl ?_
  refine tr_bipush (pc := 132) (v := nI 16) dX10_init_132 (by decide) ?_
  refine tr_newIk (pc := 134) (k := 66) (n := 16) dX10_init_134 rfl (by decide) rfl (by decide) (by rw [hs_ne (by decide)]) ?_
  refine tr_putR (pc := 136) dX10_init_136 (tk_get (j := 50) (kn := (13, 45)) rfl (by decide)) fi_X10_55 rfl (Or.inr rfl) (fun _ => rfl) (fun _ => rfl) ?_
  show T a 1 mX10_init 139 [(0, rv a 50)] [] (shp.take 67, (pt (al (pt (al (pt (al (pt (al (pt (al (pt (al (pt (al (pt (al (pt (al (pt (al (pt (al (pt (al (pt (al (pt (al (pt (al (pt (al g 51) 50 0 51) 52) 50 1 52) 53) 50 2 53) 54) 50 4 54) 55) 50 5 55) 56) 50 10 56) 57) 50 11 57) 58) 50 17 58) 59) 50 18 59) 60) 50 19 60) 61) 50 21 61) 62) 50 23 62) 63) 50 24 63) 64) 50 25 64) 65) 50 26 65) 66) 50 29 66)) (hs zH 41 (upd (zH 41) 4 (-1))) _
  refine tr_aload_n (pc := 139) 0 dX10_init_139 rfl rfl ?_
  refine tr_iconst (pc := 140) (v := nI 4) dX10_init_140 (by decide) ?_
  refine tr_newIk (pc := 141) (k := 67) (n := 4) dX10_init_141 rfl (by decide) rfl (by decide) (by rw [hs_ne (by decide)]) ?_
  refine tr_putR (pc := 143) dX10_init_143 (tk_get (j := 50) (kn := (13, 45)) rfl (by decide)) fi_X10_58 rfl (Or.inr rfl) (fun _ => rfl) (fun _ => rfl) ?_
  show T a 1 mX10_init 146 [(0, rv a 50)] [] (shp.take 68, (pt (al (pt (al (pt (al (pt (al (pt (al (pt (al (pt (al (pt (al (pt (al (pt (al (pt (al (pt (al (pt (al (pt (al (pt (al (pt (al (pt (al g 51) 50 0 51) 52) 50 1 52) 53) 50 2 53) 54) 50 4 54) 55) 50 5 55) 56) 50 10 56) 57) 50 11 57) 58) 50 17 58) 59) 50 18 59) 60) 50 19 60) 61) 50 21 61) 62) 50 23 62) 63) 50 24 63) 64) 50 25 64) 65) 50 26 65) 66) 50 29 66) 67) 50 30 67)) (hs zH 41 (upd (zH 41) 4 (-1))) _
  refine tr_aload_n (pc := 146) 0 dX10_init_146 rfl rfl ?_
  refine tr_iconst (pc := 147) (v := nI 4) dX10_init_147 (by decide) ?_
  refine tr_newIk (pc := 148) (k := 68) (n := 4) dX10_init_148 rfl (by decide) rfl (by decide) (by rw [hs_ne (by decide)]) ?_
  refine tr_putR (pc := 150) dX10_init_150 (tk_get (j := 50) (kn := (13, 45)) rfl (by decide)) fi_X10_61 rfl (Or.inr rfl) (fun _ => rfl) (fun _ => rfl) ?_
  show T a 1 mX10_init 153 [(0, rv a 50)] [] (shp.take 69, (pt (al (pt (al (pt (al (pt (al (pt (al (pt (al (pt (al (pt (al (pt (al (pt (al (pt (al (pt (al (pt (al (pt (al (pt (al (pt (al (pt (al (pt (al g 51) 50 0 51) 52) 50 1 52) 53) 50 2 53) 54) 50 4 54) 55) 50 5 55) 56) 50 10 56) 57) 50 11 57) 58) 50 17 58) 59) 50 18 59) 60) 50 19 60) 61) 50 21 61) 62) 50 23 62) 63) 50 24 63) 64) 50 25 64) 65) 50 26 65) 66) 50 29 66) 67) 50 30 67) 68) 50 31 68)) (hs zH 41 (upd (zH 41) 4 (-1))) _
  refine tr_aload_n (pc := 153) 0 dX10_init_153 rfl rfl ?_
  refine tr_iconst (pc := 154) (v := nI 4) dX10_init_154 (by decide) ?_
  refine tr_newIk (pc := 155) (k := 69) (n := 4) dX10_init_155 rfl (by decide) rfl (by decide) (by rw [hs_ne (by decide)]) ?_
  refine tr_putR (pc := 157) dX10_init_157 (tk_get (j := 50) (kn := (13, 45)) rfl (by decide)) fi_X10_64 rfl (Or.inr rfl) (fun _ => rfl) (fun _ => rfl) ?_
  show T a 1 mX10_init 160 [(0, rv a 50)] [] (shp.take 70, (pt (al (pt (al (pt (al (pt (al (pt (al (pt (al (pt (al (pt (al (pt (al (pt (al (pt (al (pt (al (pt (al (pt (al (pt (al (pt (al (pt (al (pt (al (pt (al g 51) 50 0 51) 52) 50 1 52) 53) 50 2 53) 54) 50 4 54) 55) 50 5 55) 56) 50 10 56) 57) 50 11 57) 58) 50 17 58) 59) 50 18 59) 60) 50 19 60) 61) 50 21 61) 62) 50 23 62) 63) 50 24 63) 64) 50 25 64) 65) 50 26 65) 66) 50 29 66) 67) 50 30 67) 68) 50 31 68) 69) 50 32 69)) (hs zH 41 (upd (zH 41) 4 (-1))) _
  refine tr_aload_n (pc := 160) 0 dX10_init_160 rfl rfl ?_
  refine tr_iconst (pc := 161) (v := nI 4) dX10_init_161 (by decide) ?_
  refine tr_newIk (pc := 162) (k := 70) (n := 4) dX10_init_162 rfl (by decide) rfl (by decide) (by rw [hs_ne (by decide)]) ?_
  refine tr_putR (pc := 164) dX10_init_164 (tk_get (j := 50) (kn := (13, 45)) rfl (by decide)) fi_X10_67 rfl (Or.inr rfl) (fun _ => rfl) (fun _ => rfl) ?_
  show T a 1 mX10_init 167 [(0, rv a 50)] [] (shp.take 71, (pt (al (pt (al (pt (al (pt (al (pt (al (pt (al (pt (al (pt (al (pt (al (pt (al (pt (al (pt (al (pt (al (pt (al (pt (al (pt (al (pt (al (pt (al (pt (al (pt (al g 51) 50 0 51) 52) 50 1 52) 53) 50 2 53) 54) 50 4 54) 55) 50 5 55) 56) 50 10 56) 57) 50 11 57) 58) 50 17 58) 59) 50 18 59) 60) 50 19 60) 61) 50 21 61) 62) 50 23 62) 63) 50 24 63) 64) 50 25 64) 65) 50 26 65) 66) 50 29 66) 67) 50 30 67) 68) 50 31 68) 69) 50 32 69) 70) 50 33 70)) (hs zH 41 (upd (zH 41) 4 (-1))) _
  refine tr_aload_n (pc := 167) 0 dX10_init_167 rfl rfl ?_
  refine tr_iconst (pc := 168) (v := nI 4) dX10_init_168 (by decide) ?_
  refine tr_newIk (pc := 169) (k := 71) (n := 4) dX10_init_169 rfl (by decide) rfl (by decide) (by rw [hs_ne (by decide)]) ?_
  refine tr_putR (pc := 171) dX10_init_171 (tk_get (j := 50) (kn := (13, 45)) rfl (by decide)) fi_X10_70 rfl (Or.inr rfl) (fun _ => rfl) (fun _ => rfl) ?_
  show T a 1 mX10_init 174 [(0, rv a 50)] [] (shp.take 72, (pt (al (pt (al (pt (al (pt (al (pt (al (pt (al (pt (al (pt (al (pt (al (pt (al (pt (al (pt (al (pt (al (pt (al (pt (al (pt (al (pt (al (pt (al (pt (al (pt (al (pt (al g 51) 50 0 51) 52) 50 1 52) 53) 50 2 53) 54) 50 4 54) 55) 50 5 55) 56) 50 10 56) 57) 50 11 57) 58) 50 17 58) 59) 50 18 59) 60) 50 19 60) 61) 50 21 61) 62) 50 23 62) 63) 50 24 63) 64) 50 25 64) 65) 50 26 65) 66) 50 29 66) 67) 50 30 67) 68) 50 31 68) 69) 50 32 69) 70) 50 33 70) 71) 50 34 71)) (hs zH 41 (upd (zH 41) 4 (-1))) _
  refine tr_aload_n (pc := 174) 0 dX10_init_174 rfl rfl ?_
  refine tr_iconst (pc := 175) (v := nI 4) dX10_init_175 (by decide) ?_
  refine tr_newIk (pc := 176) (k := 72) (n := 4) dX10_init_176 rfl (by decide) rfl (by decide) (by rw [hs_ne (by decide)]) ?_
  refine tr_putR (pc := 178) dX10_init_178 (tk_get (j := 50) (kn := (13, 45)) rfl (by decide)) fi_X10_73 rfl (Or.inr rfl) (fun _ => rfl) (fun _ => rfl) ?_
  show T a 1 mX10_init 181 [(0, rv a 50)] [] (shp.take 73, (pt (al (pt (al (pt (al (pt (al (pt (al (pt (al (pt (al (pt (al (pt (al (pt (al (pt (al (pt (al (pt (al (pt (al (pt (al (pt (al (pt (al (pt (al (pt (al (pt (al (pt (al (pt (al g 51) 50 0 51) 52) 50 1 52) 53) 50 2 53) 54) 50 4 54) 55) 50 5 55) 56) 50 10 56) 57) 50 11 57) 58) 50 17 58) 59) 50 18 59) 60) 50 19 60) 61) 50 21 61) 62) 50 23 62) 63) 50 24 63) 64) 50 25 64) 65) 50 26 65) 66) 50 29 66) 67) 50 30 67) 68) 50 31 68) 69) 50 32 69) 70) 50 33 70) 71) 50 34 71) 72) 50 41 72)) (hs zH 41 (upd (zH 41) 4 (-1))) _
  refine tr_aload_n (pc := 181) 0 dX10_init_181 rfl rfl ?_
  refine tr_bipush (pc := 182) (v := nI 32) dX10_init_182 (by decide) ?_
  refine tr_newIk (pc := 184) (k := 73) (n := 32) dX10_init_184 rfl (by decide) rfl (by decide) (by rw [hs_ne (by decide)]) ?_
  refine tr_putR (pc := 186) dX10_init_186 (tk_get (j := 50) (kn := (13, 45)) rfl (by decide)) fi_X10_76 rfl (Or.inr rfl) (fun _ => rfl) (fun _ => rfl) ?_
  show T a 1 mX10_init 189 [(0, rv a 50)] [] (shp.take 74, (pt (al (pt (al (pt (al (pt (al (pt (al (pt (al (pt (al (pt (al (pt (al (pt (al (pt (al (pt (al (pt (al (pt (al (pt (al (pt (al (pt (al (pt (al (pt (al (pt (al (pt (al (pt (al (pt (al g 51) 50 0 51) 52) 50 1 52) 53) 50 2 53) 54) 50 4 54) 55) 50 5 55) 56) 50 10 56) 57) 50 11 57) 58) 50 17 58) 59) 50 18 59) 60) 50 19 60) 61) 50 21 61) 62) 50 23 62) 63) 50 24 63) 64) 50 25 64) 65) 50 26 65) 66) 50 29 66) 67) 50 30 67) 68) 50 31 68) 69) 50 32 69) 70) 50 33 70) 71) 50 34 71) 72) 50 41 72) 73) 50 42 73)) (hs zH 41 (upd (zH 41) 4 (-1))) _
  refine tr_aload_n (pc := 189) 0 dX10_init_189 rfl rfl ?_
  refine tr_bipush (pc := 190) (v := nI 32) dX10_init_190 (by decide) ?_
  refine tr_newIk (pc := 192) (k := 74) (n := 32) dX10_init_192 rfl (by decide) rfl (by decide) (by rw [hs_ne (by decide)]) ?_
  refine tr_putR (pc := 194) dX10_init_194 (tk_get (j := 50) (kn := (13, 45)) rfl (by decide)) fi_X10_79 rfl (Or.inr rfl) (fun _ => rfl) (fun _ => rfl) ?_
  show T a 1 mX10_init 197 [(0, rv a 50)] [] (shp.take 75, (pt (al (pt (al (pt (al (pt (al (pt (al (pt (al (pt (al (pt (al (pt (al (pt (al (pt (al (pt (al (pt (al (pt (al (pt (al (pt (al (pt (al (pt (al (pt (al (pt (al (pt (al (pt (al (pt (al (pt (al g 51) 50 0 51) 52) 50 1 52) 53) 50 2 53) 54) 50 4 54) 55) 50 5 55) 56) 50 10 56) 57) 50 11 57) 58) 50 17 58) 59) 50 18 59) 60) 50 19 60) 61) 50 21 61) 62) 50 23 62) 63) 50 24 63) 64) 50 25 64) 65) 50 26 65) 66) 50 29 66) 67) 50 30 67) 68) 50 31 68) 69) 50 32 69) 70) 50 33 70) 71) 50 34 71) 72) 50 41 72) 73) 50 42 73) 74) 50 43 74)) (hs zH 41 (upd (zH 41) 4 (-1))) _
  refine tr_aload_n (pc := 197) 0 dX10_init_197 rfl rfl ?_
  refine tr_bipush (pc := 198) (v := nI 32) dX10_init_198 (by decide) ?_
  refine tr_newIk (pc := 200) (k := 75) (n := 32) dX10_init_200 rfl (by decide) rfl (by decide) (by rw [hs_ne (by decide)]) ?_
  refine tr_putR (pc := 202) dX10_init_202 (tk_get (j := 50) (kn := (13, 45)) rfl (by decide)) fi_X10_82 rfl (Or.inr rfl) (fun _ => rfl) (fun _ => rfl) ?_
  show T a 1 mX10_init 205 [(0, rv a 50)] [] (shp.take 76, (pt (al (pt (al (pt (al (pt (al (pt (al (pt (al (pt (al (pt (al (pt (al (pt (al (pt (al (pt (al (pt (al (pt (al (pt (al (pt (al (pt (al (pt (al (pt (al (pt (al (pt (al (pt (al (pt (al (pt (al (pt (al g 51) 50 0 51) 52) 50 1 52) 53) 50 2 53) 54) 50 4 54) 55) 50 5 55) 56) 50 10 56) 57) 50 11 57) 58) 50 17 58) 59) 50 18 59) 60) 50 19 60) 61) 50 21 61) 62) 50 23 62) 63) 50 24 63) 64) 50 25 64) 65) 50 26 65) 66) 50 29 66) 67) 50 30 67) 68) 50 31 68) 69) 50 32 69) 70) 50 33 70) 71) 50 34 71) 72) 50 41 72) 73) 50 42 73) 74) 50 43 74) 75) 50 44 75)) (hs zH 41 (upd (zH 41) 4 (-1))) _
  exact tr_vret (pc := 205) dX10_init_205 rfl (⟨rfl, rfl, rfl⟩)

abbrev hI : Hp := hs zH 41 (upd (zH 41) 4 (-1))
def gI : RF := iX10 (al (iX9 (al (fun _ _ => none) 0)) 50)
theorem gI_ok : ∀ o, o < 76 → ∀ k, k < 45 → ∀ q, (rfT.getD o []).getD k none = some q → gI o k = some q := by
  have h : ∀ o, o < 76 → ∀ k, k < 45 → ((rfT.getD o []).getD k none = none ∨ gI o k = (rfT.getD o []).getD k none) := by decide +kernel
  intro o ho k hk q hq
  rcases h o ho k hk with z | z
  · rw [z] at hq; cases hq
  · rw [z]; exact hq
theorem rfT_len : ∀ l, l ∈ rfT → l.length ≤ 45 := by decide +kernel
theorem isSt_I : IsSt (shp.take 76, gI) := by
  refine ⟨fun o kn h => ?_, fun o k q h => ?_⟩
  · show (shp.take 76)[o]? = some kn
    rw [show shp.take 76 = shp from rfl]
    exact h
  · have ho : o < 76 := by
      by_cases z : o < 76
      · exact z
      · rw [show rfT.getD o [] = [] from by rw [List.getD_eq_getElem?_getD, List.getElem?_eq_none (by show 76 ≤ o; omega)]; rfl] at h
        simp at h
    have hk : k < 45 := by
      by_cases z : k < 45
      · exact z
      · have hl : (rfT.getD o []).length ≤ 45 := by
          rw [List.getD_eq_getElem?_getD, List.getElem?_eq_getElem (show o < rfT.length from ho)]
          exact rfT_len _ (List.getElem_mem _)
        rw [List.getD_eq_getElem?_getD, List.getElem?_eq_none (by omega)] at h
        cases h
    exact gI_ok o ho k hk q h
theorem tq_I : TQ (shp.take 76, gI) 43 32 := by
  refine ⟨by decide +kernel, by decide +kernel, Or.inl rfl, by decide, by decide, 0, by decide, ?_, ?_⟩
  · show (shp.take 76).length = 76
    decide +kernel
  · decide +kernel
theorem kp_h : ∀ j, j < 5 → gI 15 j = some (kK 0 j) := by decide +kernel
theorem kp_J {L : List (Nat × Nat)} {g : RF} (h : ∀ j, j < 5 → g 15 j = some (kK 0 j)) : KP (L, g) 0 := h
theorem kp_I : KP (shp.take 76, gI) 0 := kp_J kp_h
theorem ks_I : KS (shp.take 76, gI) hI [] [] [] 0 0 0 := by
  refine ⟨isSt_I, ⟨⟨rfl, fun j hj => absurd hj (by simp)⟩, tv_nil⟩, ⟨⟨rfl, fun m hm => absurd hm (by simp), fun m i hm => absurd hm (by simp)⟩, ⟨(inv_0 (tx := [])).2.2.2.1, fun m i hi => absurd hi (by show ¬ i < ([].getD m [] : List Ln).length; simp)⟩⟩, ⟨⟨0, kp_I, by simp, rfl, fun j hj => absurd hj (by simp)⟩, fun Q hQ => absurd hQ (by simp)⟩, ⟨rfl, rfl, rfl⟩, ⟨43, 32, tq_I⟩, Or.inl ⟨rfl, rfl⟩⟩
theorem km_I : KM hI [] [] [] 0 0 0 := ⟨⟨rfl, fun j hj => absurd hj (by simp)⟩, ⟨rfl, fun m hm => absurd hm (by simp), fun m i w hm => absurd hm (by simp)⟩, ⟨rfl, fun j hj => absurd hj (by simp)⟩, rfl, rfl, rfl⟩