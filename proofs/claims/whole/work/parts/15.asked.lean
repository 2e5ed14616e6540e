/-! ===== what is asked ===== -/
def aOf (P : Prog) (m w : Nat) : Int32 := match w with
  | 0 => nI (lnN P m)
  | 1 => nI (sitesM P m (lnN P m)).length
  | 2 => nI (cntG (fun s => decide (sM P s = m ∧ fate P s = 0)) (nSt P))
  | 3 => idl P m
  | _ => cbF P m (lnN P m)
def aLine (P : Prog) (m i w : Nat) : Int32 := match w with
  | 4 => siteAt P m i
  | w => cmp (gt P m i) w
def aSite (P : Prog) (s w : Nat) : Int32 := match w with
  | 0 => nI (sM P s)
  | 1 => nI (sI P s)
  | 2 => nI (fate P s)
  | _ => mayV P (17 + s)
/-- only cells of L and fields Fs of the object c change -/
def Fo (c : Nat) (Fs L : List Nat) (h h' : Hp) : Prop := (∀ o, o ≠ c → o ∉ L → h' o = h o) ∧ ∀ k, k ∉ Fs → h' c k = h c k
theorem Fo.rf {c : Nat} {Fs L : List Nat} {h : Hp} : Fo c Fs L h h := ⟨fun _ _ _ => rfl, fun _ _ => rfl⟩
theorem Fo.set {c : Nat} {Fs L : List Nat} {h h' : Hp} {o : Nat} {f : Nat → Int32} (k : Fo c Fs L h h') (ho : o ∈ L) (h5 : o ≠ c) : Fo c Fs L h (hs h' o f) := by
  refine ⟨fun j h1 h2 => ?_, fun j h1 => ?_⟩
  · rw [hs_ne (fun q => h2 (by rw [q]; exact ho))]; exact k.1 j h1 h2
  · rw [hs_ne (Ne.symm h5)]; exact k.2 j h1
theorem Fo.put {c : Nat} {Fs L : List Nat} {h h' : Hp} {p : Nat} {x : Int32} (k : Fo c Fs L h h') (hp : p ∈ Fs) : Fo c Fs L h (hs h' c (upd (h' c) p x)) := by
  refine ⟨fun j h1 h2 => ?_, fun j h1 => ?_⟩
  · rw [hs_ne h1]; exact k.1 j h1 h2
  · rw [hs_same, upd_n (fun q => h1 (by rw [q]; exact hp))]; exact k.2 j h1
theorem Fo.trans {c : Nat} {Fs L : List Nat} {h h1 h2 : Hp} (k1 : Fo c Fs L h h1) (k2 : Fo c Fs L h1 h2) : Fo c Fs L h h2 := ⟨fun j a b => (k2.1 j a b).trans (k1.1 j a b), fun j a => (k2.2 j a).trans (k1.2 j a)⟩
theorem Fo.mono {c : Nat} {Fs L Fs' L' : List Nat} {h h' : Hp} (k : Fo c Fs L h h') (h1 : ∀ o ∈ Fs, o ∈ Fs') (h2 : ∀ o ∈ L, o ∈ L') : Fo c Fs' L' h h' := ⟨fun j a b => k.1 j a (fun q => b (h2 j q)), fun j a => k.2 j (fun q => a (h1 j q))⟩
theorem Fr.fo {c : Nat} {Fs L : List Nat} {h h' : Hp} (k : Fr L h h') (hc : c ∉ L) : Fo c Fs L h h' := ⟨fun j _ b => k j b, fun j _ => by rw [k c hc]⟩
theorem Fo.fr {c : Nat} {Fs L : List Nat} {h h' : Hp} (k : Fo c Fs L h h') : Fr (c :: L) h h' := fun j hj => k.1 j (fun q => hj (by rw [q]; exact List.mem_cons_self)) (fun q => hj (List.mem_cons_of_mem _ q))
theorem ones_s {x : Int32} {k : Nat} (hk : k < 32) : nI (cntG (fun j => x.toBitVec.getLsbD j) k) + (x >>> (nI k &&& 31) &&& nI 1) = nI (cntG (fun j => x.toBitVec.getLsbD j) (k + 1)) := by
  rw [shr_one x hk]
  simp only [cntG]
  split
  · exact nI_add _ _
  · rw [nI_add]
theorem ones_fat {P : Prog} {f : Nat} (hV : VB P) : cntG (fun j => (fatB P f (nSt P)).toBitVec.getLsbD j) 32 = cntG (fun s => decide (fate P s = f)) (nSt P) := by
  have hns := nSt_le hV
  have e : cntG (fun j => (fatB P f (nSt P)).toBitVec.getLsbD j) 32 = cntG (fun j => (fatB P f (nSt P)).toBitVec.getLsbD j) (nSt P + (32 - nSt P)) := by congr 1; omega
  rw [e, cntG_add]
  have e1 : cntG (fun j => (fatB P f (nSt P)).toBitVec.getLsbD j) (nSt P) = cntG (fun s => decide (fate P s = f)) (nSt P) := cntG_congr (fun s hs => by
    show (fatB P f (nSt P)).toBitVec.getLsbD s = _
    rw [fat_bit _ hns s (by omega)]
    simp [hs])
  have e2 : cntG (fun s => (fatB P f (nSt P)).toBitVec.getLsbD (nSt P + s)) (32 - nSt P) = 0 := cntG_0 (fun s hs => by
    show (fatB P f (nSt P)).toBitVec.getLsbD (nSt P + s) = _
    rw [fat_bit _ hns _ (by omega)]
    simp
    intro q
    omega)
  rw [e1, e2]
  rfl
set_option maxHeartbeats 4000000 in
set_option maxRecDepth 100000 in
theorem c_mones {a : Am} {S : St} {h : Hp} {x : Int32} : CT a 0 mX10_ones [.int x] S h (Rt (nI (cntG (fun j => x.toBitVec.getLsbD j) 32)) S h) := by
  refine met_of (by decide +kernel) (Nat.le_of_ble_eq_true rfl) ?_
  show T a 0 mX10_ones 0 [(0, .int x)] [] S h _
  refine tr_iconst (pc := 0) (v := nI 0) dX10_ones_0 (by decide) ?_
  refine tr_istore_n (pc := 1) (lv' := [(1, .int (nI 0)), (0, .int x)]) dX10_ones_1 rfl (by decide) rfl ?_
  refine tr_iconst (pc := 2) (v := nI 0) dX10_ones_2 (by decide) ?_
  refine tr_istore_n (pc := 3) (lv' := [(2, .int (nI 0)), (1, .int (nI 0)), (0, .int x)]) dX10_ones_3 rfl (by decide) rfl ?_
  refine tr_sub (pc := 4) (lv' := [(0, .int x), (1, .int (nI 0)), (2, .int (nI 0))]) [2, 1, 0] rfl ?_
  have L4 : ∀ (fu : Nat) (k : Nat), 32 - k < fu → k ≤ 32 → T a 0 mX10_ones 4 [(0, .int x), (1, .int (nI (cntG (fun j => x.toBitVec.getLsbD j) k))), (2, .int (nI k))] [] S h (Rt (nI (cntG (fun j => x.toBitVec.getLsbD j) 32)) S h) := by
    intro fu
    induction fu with
    | zero => intro k hu hk; omega
    | succ fu ih =>
      intro k hu hk
      refine tr_iload_n (pc := 4) 2 dX10_ones_4 rfl rfl ?_
      refine tr_bipush (pc := 5) (v := nI 32) dX10_ones_5 (by decide) ?_
      refine tr_icmp_ge (pc := 7) (tgt := 24) dX10_ones_7 (by decide) (nI_leI (by omega) (by omega)) (fun q7 => ?_) (fun q7 => ?_)
      · skip
        refine tr_iload_n (pc := 24) 1 dX10_ones_24 rfl rfl ?_
        exact tr_iret (pc := 25) dX10_ones_25 rfl rfl (by
            rw [show k = 32 by omega]; exact ⟨rfl, rfl, rfl⟩)
      · skip
        refine tr_iload_n (pc := 10) 1 dX10_ones_10 rfl rfl ?_
        refine tr_iload_n (pc := 11) 0 dX10_ones_11 rfl rfl ?_
        refine tr_iload_n (pc := 12) 2 dX10_ones_12 rfl rfl ?_
        refine tr_ishr (pc := 13) (v := x >>> (nI k &&& 31)) dX10_ones_13 rfl ?_
        refine tr_iconst (pc := 14) (v := nI 1) dX10_ones_14 (by decide) ?_
        refine tr_iand (pc := 15) (v := (x >>> (nI k &&& 31)) &&& (nI 1)) dX10_ones_15 rfl ?_
        refine tr_iadd (pc := 16) (v := nI (cntG (fun j => x.toBitVec.getLsbD j) (k + 1))) dX10_ones_16 (ones_s (by omega)) ?_
        refine tr_istore_n (pc := 17) (lv' := [(1, .int (nI (cntG (fun j => x.toBitVec.getLsbD j) (k + 1)))), (0, .int x), (2, .int (nI k))]) dX10_ones_17 rfl (by decide) rfl ?_
        refine tr_iinc (pc := 18) (v := nI (k + 1)) (lv' := [(2, .int (nI (k + 1))), (1, .int (nI (cntG (fun j => x.toBitVec.getLsbD j) (k + 1)))), (0, .int x)]) 2 dX10_ones_18 rfl (by rw [show Int32.ofInt 1 = nI 1 from by decide, nI_add]) (by decide) rfl ?_
        refine tr_goto (pc := 21) (tgt := 4) dX10_ones_21 (by decide) ?_
        refine tr_sub (pc := 4) (lv' := [(0, .int x), (1, .int (nI (cntG (fun j => x.toBitVec.getLsbD j) (k + 1)))), (2, .int (nI (k + 1)))]) [2, 1, 0] rfl ?_
        exact ih (k + 1) (by omega) (by omega)
  exact L4 33 0 (by omega) (by omega)

set_option maxHeartbeats 4000000 in
set_option maxRecDepth 100000 in
theorem c_mof0 {a : Am} {S : St} {h : Hp} (hS : IsSt S) {P : Prog} (hV : VB P) (hN : NP h P) (hSN : SN h P) (hM : MN h (mayV P, false)) {m : Nat} (hm : m < P.length) : CT a 6 mX10_ofMethod [rv a 50, .int (nI m), .int (nI 0)] S h (Rt (aOf P m 0) S h) := by
  obtain ⟨hV1, hV2, hV3⟩ := id hV
  have hns := nSt_le hV
  have h8 := hV2 m
  refine met_of (by decide +kernel) (Nat.le_of_ble_eq_true rfl) ?_
  show T a 6 mX10_ofMethod 0 [(0, rv a 50), (1, .int (nI m)), (2, .int (nI 0))] [] S h _
  refine tr_iload_n (pc := 0) 2 dX10_ofMethod_0 rfl rfl ?_
  refine tr_if_ne (pc := 1) (tgt := 10) dX10_ofMethod_1 (by decide) (nI_z_eq (by omega)) (fun hcc => absurd (by decide) hcc) (fun _ => ?_)
  refine tr_aload_n (pc := 4) 0 dX10_ofMethod_4 rfl rfl ?_
  refine tr_iload_n (pc := 5) 1 dX10_ofMethod_5 rfl rfl ?_
  refine tr_callV (pc := 6) (rest := []) (ci := 10) dX10_ofMethod_6 ml_X10_168 cv_X10_linesOf rfl rfl (Nat.le_of_ble_eq_true rfl) (hS.1 50 (13, 45) rfl) rfl (by decide) (c_mlines hS hV hN hm) ?_
  rintro _ _ _ ⟨rfl, rfl, rfl⟩
  show T a 6 mX10_ofMethod 9 [(0, rv a 50), (1, .int (nI m)), (2, .int (nI 0))] [.int (nI (lnN P m))] S h _
  exact tr_iret (pc := 9) dX10_ofMethod_9 rfl rfl (⟨rfl, rfl, rfl⟩)

set_option maxHeartbeats 4000000 in
set_option maxRecDepth 100000 in
theorem c_mof1 {a : Am} {S : St} {h : Hp} (hS : IsSt S) {P : Prog} (hV : VB P) (hN : NP h P) (hSN : SN h P) (hM : MN h (mayV P, false)) {m : Nat} (hm : m < P.length) : CT a 6 mX10_ofMethod [rv a 50, .int (nI m), .int (nI 1)] S h (Rt (aOf P m 1) S h) := by
  obtain ⟨hV1, hV2, hV3⟩ := id hV
  have hns := nSt_le hV
  have h8 := hV2 m
  refine met_of (by decide +kernel) (Nat.le_of_ble_eq_true rfl) ?_
  show T a 6 mX10_ofMethod 0 [(0, rv a 50), (1, .int (nI m)), (2, .int (nI 1))] [] S h _
  refine tr_iload_n (pc := 0) 2 dX10_ofMethod_0 rfl rfl ?_
  refine tr_if_ne (pc := 1) (tgt := 10) dX10_ofMethod_1 (by decide) (nI_z_eq (by omega)) (fun _ => ?_) (fun hcc => absurd hcc (by decide))
  refine tr_iload_n (pc := 10) 2 dX10_ofMethod_10 rfl rfl ?_
  refine tr_iconst (pc := 11) (v := nI 3) dX10_ofMethod_11 (by decide) ?_
  refine tr_icmp_ne (pc := 12) (tgt := 21) dX10_ofMethod_12 (by decide) (nI_eq (by omega) (by omega)) (fun _ => ?_) (fun hcc => absurd hcc (by decide))
  refine tr_iconst (pc := 21) (v := nI 0) dX10_ofMethod_21 (by decide) ?_
  refine tr_istore_n (pc := 22) (lv' := [(3, .int (nI 0)), (0, rv a 50), (1, .int (nI m)), (2, .int (nI 1))]) dX10_ofMethod_22 rfl (by decide) rfl ?_
  refine tr_iconst (pc := 23) (v := nI 0) dX10_ofMethod_23 (by decide) ?_
  refine tr_istore (pc := 24) (lv' := [(4, .int (nI 0)), (3, .int (nI 0)), (0, rv a 50), (1, .int (nI m)), (2, .int (nI 1))]) dX10_ofMethod_24 (by decide) rfl ?_
  refine tr_iconst (pc := 26) (v := nI 0) dX10_ofMethod_26 (by decide) ?_
  refine tr_istore (pc := 27) (lv' := [(5, .int (nI 0)), (4, .int (nI 0)), (3, .int (nI 0)), (0, rv a 50), (1, .int (nI m)), (2, .int (nI 1))]) dX10_ofMethod_27 (by decide) rfl ?_
  refine tr_sub (pc := 29) (lv' := [(0, rv a 50), (1, .int (nI m)), (2, .int (nI 1)), (3, .int (nI 0)), (4, .int (nI 0)), (5, .int (nI 0))]) [3, 4, 5, 2, 1, 0] rfl ?_
  have L29 : ∀ (fu : Nat) (s : Nat), nSt P - s < fu → s ≤ nSt P → T a 6 mX10_ofMethod 29 [(0, rv a 50), (1, .int (nI m)), (2, .int (nI 1)), (3, .int (nI (cntG (fun s => decide (sM P s = m)) s))), (4, .int (nI 0)), (5, .int (nI s))] [] S h (Rt (aOf P m 1) S h) := by
    intro fu
    induction fu with
    | zero => intro s hu hs; omega
    | succ fu ih =>
      intro s hu hs
      refine tr_iload (pc := 29) 5 dX10_ofMethod_29 rfl ?_
      refine tr_aload_n (pc := 31) 0 dX10_ofMethod_31 rfl rfl ?_
      refine tr_getI (pc := 32) (x := nI (nSt P)) dX10_ofMethod_32 (hS.1 50 (13, 45) rfl) fi_X10_175 rfl hSN.1 ?_
      refine tr_icmp_ge (pc := 35) (tgt := 77) dX10_ofMethod_35 (by decide) (nI_leI (by omega) (by omega)) (fun q35 => ?_) (fun q35 => ?_)
      · skip
        refine tr_iconst (pc := 77) (v := nI 0) dX10_ofMethod_77 (by decide) ?_
        refine tr_istore (pc := 78) (lv' := [(5, .int (nI 0)), (0, rv a 50), (1, .int (nI m)), (2, .int (nI 1)), (3, .int (nI (cntG (fun s => decide (sM P s = m)) s))), (4, .int (nI 0))]) dX10_ofMethod_78 (by decide) rfl ?_
        refine tr_sub (pc := 80) (lv' := [(0, rv a 50), (1, .int (nI m)), (2, .int (nI 1)), (3, .int (nI (cntG (fun s => decide (sM P s = m)) s))), (4, .int (nI 0)), (5, .int (nI 0))]) [1, 2, 3, 4, 5, 0] rfl ?_
        have L80 : ∀ (fu : Nat) (i : Nat), lnN P m - i < fu → i ≤ lnN P m → T a 6 mX10_ofMethod 80 [(0, rv a 50), (1, .int (nI m)), (2, .int (nI 1)), (3, .int (nI (cntG (fun s => decide (sM P s = m)) s))), (4, .int (cbF P m i)), (5, .int (nI i))] [] S h (Rt (aOf P m 1) S h) := by
          intro fu
          induction fu with
          | zero => intro i hu2 hi; omega
          | succ fu ih2 =>
            intro i hu2 hi
            refine tr_iload (pc := 80) 5 dX10_ofMethod_80 rfl ?_
            refine tr_aload_n (pc := 82) 0 dX10_ofMethod_82 rfl rfl ?_
            refine tr_iload_n (pc := 83) 1 dX10_ofMethod_83 rfl rfl ?_
            refine tr_callV (pc := 84) (rest := [.int (nI i)]) (ci := 10) dX10_ofMethod_84 ml_X10_168 cv_X10_linesOf rfl rfl (Nat.le_of_ble_eq_true rfl) (hS.1 50 (13, 45) rfl) rfl (by decide) (c_mlines hS hV hN hm) ?_
            rintro _ _ _ ⟨rfl, rfl, rfl⟩
            show T a 6 mX10_ofMethod 87 [(0, rv a 50), (1, .int (nI m)), (2, .int (nI 1)), (3, .int (nI (cntG (fun s => decide (sM P s = m)) s))), (4, .int (cbF P m i)), (5, .int (nI i))] [.int (nI (lnN P m)), .int (nI i)] S h _
            refine tr_icmp_ge (pc := 87) (tgt := 128) dX10_ofMethod_87 (by decide) (nI_leI (by omega) (by omega)) (fun q87 => ?_) (fun q87 => ?_)
            · skip
              refine tr_iload_n (pc := 128) 2 dX10_ofMethod_128 rfl rfl ?_
              refine tr_iconst (pc := 129) (v := nI 4) dX10_ofMethod_129 (by decide) ?_
              refine tr_icmp_ne (pc := 130) (tgt := 138) dX10_ofMethod_130 (by decide) (nI_eq (by omega) (by omega)) (fun _ => ?_) (fun hcc => absurd hcc (by decide))
              refine tr_iload_n (pc := 138) 3 dX10_ofMethod_138 rfl rfl ?_
              exact tr_iret (pc := 139) dX10_ofMethod_139 rfl rfl (by
                  rw [show s = nSt P by omega, site_cnt hm]; exact ⟨rfl, rfl, rfl⟩)
            · skip
              have hil : i < lnN P m := by omega
              have hok := hV3 m i hil
              obtain ⟨k1, k2, k3, k4⟩ := id hok
              refine tr_iload (pc := 90) 4 dX10_ofMethod_90 rfl ?_
              refine tr_aload_n (pc := 92) 0 dX10_ofMethod_92 rfl rfl ?_
              refine tr_iload_n (pc := 93) 1 dX10_ofMethod_93 rfl rfl ?_
              refine tr_iload (pc := 94) 5 dX10_ofMethod_94 rfl ?_
              refine tr_iconst (pc := 96) (v := nI 0) dX10_ofMethod_96 (by decide) ?_
              refine tr_callV (pc := 97) (rest := [.int (cbF P m i)]) (ci := 10) dX10_ofMethod_97 ml_X10_178 cv_X10_lineAt rfl rfl (Nat.le_of_ble_eq_true rfl) (hS.1 50 (13, 45) rfl) rfl (by decide) (c_mline hS hV hN hil (show 0 < 4 by decide)) ?_
              rintro _ _ _ ⟨rfl, rfl, rfl⟩
              show T a 6 mX10_ofMethod 100 [(0, rv a 50), (1, .int (nI m)), (2, .int (nI 1)), (3, .int (nI (cntG (fun s => decide (sM P s = m)) s))), (4, .int (cbF P m i)), (5, .int (nI i))] [.int (nI ((gt P m i).1)), .int (cbF P m i)] S h _
              refine tr_bipush (pc := 100) (v := nI 7) dX10_ofMethod_100 (by decide) ?_
              refine tr_icmp_ne (pc := 102) (tgt := 118) dX10_ofMethod_102 (by decide) (nI_eq (by omega) (by omega)) (fun q102 => ?_) (fun q102 => ?_)
              · skip
                refine tr_iconst (pc := 118) (v := nI 0) dX10_ofMethod_118 (by decide) ?_
                refine tr_ior (pc := 119) (v := (cbF P m i) ||| (nI 0)) dX10_ofMethod_119 rfl ?_
                refine tr_istore (pc := 120) (lv' := [(4, .int ((cbF P m i) ||| (nI 0))), (0, rv a 50), (1, .int (nI m)), (2, .int (nI 1)), (3, .int (nI (cntG (fun s => decide (sM P s = m)) s))), (5, .int (nI i))]) dX10_ofMethod_120 (by decide) rfl ?_
                refine tr_iinc (pc := 122) (v := nI (i + 1)) (lv' := [(5, .int (nI (i + 1))), (4, .int ((cbF P m i) ||| (nI 0))), (0, rv a 50), (1, .int (nI m)), (2, .int (nI 1)), (3, .int (nI (cntG (fun s => decide (sM P s = m)) s)))]) 5 dX10_ofMethod_122 rfl (by rw [show Int32.ofInt 1 = nI 1 from by decide, nI_add]) (by decide) rfl ?_
                refine tr_goto (pc := 125) (tgt := 80) dX10_ofMethod_125 (by decide) ?_
                refine tr_sub (pc := 80) (lv' := [(0, rv a 50), (1, .int (nI m)), (2, .int (nI 1)), (3, .int (nI (cntG (fun s => decide (sM P s = m)) s))), (4, .int ((cbF P m i) ||| (nI 0))), (5, .int (nI (i + 1)))]) [2, 3, 4, 5, 1, 0] rfl ?_
                have e1 : (cbF P m i) ||| (nI 0) = cbF P m (i + 1) := by simp only [cbF]; simp [q102, or_0]
                rw [e1]
                exact ih2 (i + 1) (by omega) (by omega)
              · skip
                refine tr_iconst (pc := 105) (v := nI 1) dX10_ofMethod_105 (by decide) ?_
                refine tr_aload_n (pc := 106) 0 dX10_ofMethod_106 rfl rfl ?_
                refine tr_iload_n (pc := 107) 1 dX10_ofMethod_107 rfl rfl ?_
                refine tr_iload (pc := 108) 5 dX10_ofMethod_108 rfl ?_
                refine tr_iconst (pc := 110) (v := nI 3) dX10_ofMethod_110 (by decide) ?_
                refine tr_callV (pc := 111) (rest := [.int (nI 1), .int (cbF P m i)]) (ci := 10) dX10_ofMethod_111 ml_X10_178 cv_X10_lineAt rfl rfl (Nat.le_of_ble_eq_true rfl) (hS.1 50 (13, 45) rfl) rfl (by decide) (c_mline hS hV hN hil (show 3 < 4 by decide)) ?_
                rintro _ _ _ ⟨rfl, rfl, rfl⟩
                rw [show cmp (gt P m i) 3 = nI (gt P m i).2.2.2 from if_pos q102]
                show T a 6 mX10_ofMethod 114 [(0, rv a 50), (1, .int (nI m)), (2, .int (nI 1)), (3, .int (nI (cntG (fun s => decide (sM P s = m)) s))), (4, .int (cbF P m i)), (5, .int (nI i))] [.int (nI ((gt P m i).2.2.2)), .int (nI 1), .int (cbF P m i)] S h _
                refine tr_ishl (pc := 114) (v := (nI 1) <<< (nI ((gt P m i).2.2.2) &&& 31)) dX10_ofMethod_114 rfl ?_
                refine tr_goto (pc := 115) (tgt := 119) dX10_ofMethod_115 (by decide) ?_
                refine tr_ior (pc := 119) (v := (cbF P m i) ||| ((nI 1) <<< (nI ((gt P m i).2.2.2) &&& 31))) dX10_ofMethod_119 rfl ?_
                refine tr_istore (pc := 120) (lv' := [(4, .int ((cbF P m i) ||| ((nI 1) <<< (nI ((gt P m i).2.2.2) &&& 31)))), (0, rv a 50), (1, .int (nI m)), (2, .int (nI 1)), (3, .int (nI (cntG (fun s => decide (sM P s = m)) s))), (5, .int (nI i))]) dX10_ofMethod_120 (by decide) rfl ?_
                refine tr_iinc (pc := 122) (v := nI (i + 1)) (lv' := [(5, .int (nI (i + 1))), (4, .int ((cbF P m i) ||| ((nI 1) <<< (nI ((gt P m i).2.2.2) &&& 31)))), (0, rv a 50), (1, .int (nI m)), (2, .int (nI 1)), (3, .int (nI (cntG (fun s => decide (sM P s = m)) s)))]) 5 dX10_ofMethod_122 rfl (by rw [show Int32.ofInt 1 = nI 1 from by decide, nI_add]) (by decide) rfl ?_
                refine tr_goto (pc := 125) (tgt := 80) dX10_ofMethod_125 (by decide) ?_
                refine tr_sub (pc := 80) (lv' := [(0, rv a 50), (1, .int (nI m)), (2, .int (nI 1)), (3, .int (nI (cntG (fun s => decide (sM P s = m)) s))), (4, .int ((cbF P m i) ||| ((nI 1) <<< (nI ((gt P m i).2.2.2) &&& 31)))), (5, .int (nI (i + 1)))]) [2, 3, 4, 5, 1, 0] rfl ?_
                have e1 : (cbF P m i) ||| ((nI 1) <<< (nI ((gt P m i).2.2.2) &&& 31)) = cbF P m (i + 1) := by simp only [cbF]; simp [q102, or_0]
                rw [e1]
                exact ih2 (i + 1) (by omega) (by omega)
        exact L80 (lnN P m + 1) 0 (by omega) (by omega)
      · skip
        have hfl := fate_lt P s
        have hsm := (site_at (show s < nSt P by omega)).1
        refine tr_iload_n (pc := 38) 3 dX10_ofMethod_38 rfl rfl ?_
        refine tr_aload_n (pc := 39) 0 dX10_ofMethod_39 rfl rfl ?_
        refine tr_getR (pc := 40) (q := 58) dX10_ofMethod_40 (hS.1 50 (13, 45) rfl) fi_X10_31 rfl (hS.2 50 17 58 rfl) ?_
        refine tr_iload (pc := 43) 5 dX10_ofMethod_43 rfl ?_
        refine tr_iald (pc := 45) (v := nI (sM P s)) s dX10_ofMethod_45 (hS.1 58 (0, 32) rfl) rfl (by omega) (by decide) (hSN.2.1 s (by omega)).1 ?_
        refine tr_iload_n (pc := 46) 1 dX10_ofMethod_46 rfl rfl ?_
        refine tr_icmp_ne (pc := 47) (tgt := 68) dX10_ofMethod_47 (by decide) (nI_eq (by omega) (by omega)) (fun q47 => ?_) (fun q47 => ?_)
        · skip
          refine tr_iconst (pc := 68) (v := nI 0) dX10_ofMethod_68 (by decide) ?_
          refine tr_iadd (pc := 69) (v := nI (cntG (fun s => decide (sM P s = m)) s + 0)) dX10_ofMethod_69 (nI_add _ _) ?_
          refine tr_istore_n (pc := 70) (lv' := [(3, .int (nI (cntG (fun s => decide (sM P s = m)) s + 0))), (0, rv a 50), (1, .int (nI m)), (2, .int (nI 1)), (4, .int (nI 0)), (5, .int (nI s))]) dX10_ofMethod_70 rfl (by decide) rfl ?_
          refine tr_iinc (pc := 71) (v := nI (s + 1)) (lv' := [(5, .int (nI (s + 1))), (3, .int (nI (cntG (fun s => decide (sM P s = m)) s + 0))), (0, rv a 50), (1, .int (nI m)), (2, .int (nI 1)), (4, .int (nI 0))]) 5 dX10_ofMethod_71 rfl (by rw [show Int32.ofInt 1 = nI 1 from by decide, nI_add]) (by decide) rfl ?_
          refine tr_goto (pc := 74) (tgt := 29) dX10_ofMethod_74 (by decide) ?_
          refine tr_sub (pc := 29) (lv' := [(0, rv a 50), (1, .int (nI m)), (2, .int (nI 1)), (3, .int (nI (cntG (fun s => decide (sM P s = m)) s + 0))), (4, .int (nI 0)), (5, .int (nI (s + 1)))]) [2, 3, 4, 1, 5, 0] rfl ?_
          have e1 : nI (cntG (fun s => decide (sM P s = m)) s + 0) = nI (cntG (fun s => decide (sM P s = m)) (s + 1)) := by simp only [cntG]; simp [q47]
          rw [e1]
          exact ih (s + 1) (by omega) (by omega)
        · skip
          refine tr_iload_n (pc := 50) 2 dX10_ofMethod_50 rfl rfl ?_
          refine tr_iconst (pc := 51) (v := nI 1) dX10_ofMethod_51 (by decide) ?_
          refine tr_icmp_eq (pc := 52) (tgt := 64) dX10_ofMethod_52 (by decide) (nI_eq (by omega) (by omega)) (fun _ => ?_) (fun hcc => absurd (by decide) hcc)
          refine tr_iconst (pc := 64) (v := nI 1) dX10_ofMethod_64 (by decide) ?_
          refine tr_goto (pc := 65) (tgt := 69) dX10_ofMethod_65 (by decide) ?_
          refine tr_iadd (pc := 69) (v := nI (cntG (fun s => decide (sM P s = m)) s + 1)) dX10_ofMethod_69 (nI_add _ _) ?_
          refine tr_istore_n (pc := 70) (lv' := [(3, .int (nI (cntG (fun s => decide (sM P s = m)) s + 1))), (0, rv a 50), (1, .int (nI m)), (2, .int (nI 1)), (4, .int (nI 0)), (5, .int (nI s))]) dX10_ofMethod_70 rfl (by decide) rfl ?_
          refine tr_iinc (pc := 71) (v := nI (s + 1)) (lv' := [(5, .int (nI (s + 1))), (3, .int (nI (cntG (fun s => decide (sM P s = m)) s + 1))), (0, rv a 50), (1, .int (nI m)), (2, .int (nI 1)), (4, .int (nI 0))]) 5 dX10_ofMethod_71 rfl (by rw [show Int32.ofInt 1 = nI 1 from by decide, nI_add]) (by decide) rfl ?_
          refine tr_goto (pc := 74) (tgt := 29) dX10_ofMethod_74 (by decide) ?_
          refine tr_sub (pc := 29) (lv' := [(0, rv a 50), (1, .int (nI m)), (2, .int (nI 1)), (3, .int (nI (cntG (fun s => decide (sM P s = m)) s + 1))), (4, .int (nI 0)), (5, .int (nI (s + 1)))]) [2, 3, 4, 1, 5, 0] rfl ?_
          have e1 : nI (cntG (fun s => decide (sM P s = m)) s + 1) = nI (cntG (fun s => decide (sM P s = m)) (s + 1)) := by simp only [cntG]; simp [q47]
          rw [e1]
          exact ih (s + 1) (by omega) (by omega)
  exact L29 (nSt P + 1) 0 (by omega) (by omega)

set_option maxHeartbeats 4000000 in
set_option maxRecDepth 100000 in
theorem c_mof2 {a : Am} {S : St} {h : Hp} (hS : IsSt S) {P : Prog} (hV : VB P) (hN : NP h P) (hSN : SN h P) (hM : MN h (mayV P, false)) {m : Nat} (hm : m < P.length) : CT a 6 mX10_ofMethod [rv a 50, .int (nI m), .int (nI 2)] S h (Rt (aOf P m 2) S h) := by
  obtain ⟨hV1, hV2, hV3⟩ := id hV
  have hns := nSt_le hV
  have h8 := hV2 m
  refine met_of (by decide +kernel) (Nat.le_of_ble_eq_true rfl) ?_
  show T a 6 mX10_ofMethod 0 [(0, rv a 50), (1, .int (nI m)), (2, .int (nI 2))] [] S h _
  refine tr_iload_n (pc := 0) 2 dX10_ofMethod_0 rfl rfl ?_
  refine tr_if_ne (pc := 1) (tgt := 10) dX10_ofMethod_1 (by decide) (nI_z_eq (by omega)) (fun _ => ?_) (fun hcc => absurd hcc (by decide))
  refine tr_iload_n (pc := 10) 2 dX10_ofMethod_10 rfl rfl ?_
  refine tr_iconst (pc := 11) (v := nI 3) dX10_ofMethod_11 (by decide) ?_
  refine tr_icmp_ne (pc := 12) (tgt := 21) dX10_ofMethod_12 (by decide) (nI_eq (by omega) (by omega)) (fun _ => ?_) (fun hcc => absurd hcc (by decide))
  refine tr_iconst (pc := 21) (v := nI 0) dX10_ofMethod_21 (by decide) ?_
  refine tr_istore_n (pc := 22) (lv' := [(3, .int (nI 0)), (0, rv a 50), (1, .int (nI m)), (2, .int (nI 2))]) dX10_ofMethod_22 rfl (by decide) rfl ?_
  refine tr_iconst (pc := 23) (v := nI 0) dX10_ofMethod_23 (by decide) ?_
  refine tr_istore (pc := 24) (lv' := [(4, .int (nI 0)), (3, .int (nI 0)), (0, rv a 50), (1, .int (nI m)), (2, .int (nI 2))]) dX10_ofMethod_24 (by decide) rfl ?_
  refine tr_iconst (pc := 26) (v := nI 0) dX10_ofMethod_26 (by decide) ?_
  refine tr_istore (pc := 27) (lv' := [(5, .int (nI 0)), (4, .int (nI 0)), (3, .int (nI 0)), (0, rv a 50), (1, .int (nI m)), (2, .int (nI 2))]) dX10_ofMethod_27 (by decide) rfl ?_
  refine tr_sub (pc := 29) (lv' := [(0, rv a 50), (1, .int (nI m)), (2, .int (nI 2)), (3, .int (nI 0)), (4, .int (nI 0)), (5, .int (nI 0))]) [3, 4, 5, 2, 1, 0] rfl ?_
  have L29 : ∀ (fu : Nat) (s : Nat), nSt P - s < fu → s ≤ nSt P → T a 6 mX10_ofMethod 29 [(0, rv a 50), (1, .int (nI m)), (2, .int (nI 2)), (3, .int (nI (cntG (fun s => decide (sM P s = m ∧ fate P s = 0)) s))), (4, .int (nI 0)), (5, .int (nI s))] [] S h (Rt (aOf P m 2) S h) := by
    intro fu
    induction fu with
    | zero => intro s hu hs; omega
    | succ fu ih =>
      intro s hu hs
      refine tr_iload (pc := 29) 5 dX10_ofMethod_29 rfl ?_
      refine tr_aload_n (pc := 31) 0 dX10_ofMethod_31 rfl rfl ?_
      refine tr_getI (pc := 32) (x := nI (nSt P)) dX10_ofMethod_32 (hS.1 50 (13, 45) rfl) fi_X10_175 rfl hSN.1 ?_
      refine tr_icmp_ge (pc := 35) (tgt := 77) dX10_ofMethod_35 (by decide) (nI_leI (by omega) (by omega)) (fun q35 => ?_) (fun q35 => ?_)
      · skip
        refine tr_iconst (pc := 77) (v := nI 0) dX10_ofMethod_77 (by decide) ?_
        refine tr_istore (pc := 78) (lv' := [(5, .int (nI 0)), (0, rv a 50), (1, .int (nI m)), (2, .int (nI 2)), (3, .int (nI (cntG (fun s => decide (sM P s = m ∧ fate P s = 0)) s))), (4, .int (nI 0))]) dX10_ofMethod_78 (by decide) rfl ?_
        refine tr_sub (pc := 80) (lv' := [(0, rv a 50), (1, .int (nI m)), (2, .int (nI 2)), (3, .int (nI (cntG (fun s => decide (sM P s = m ∧ fate P s = 0)) s))), (4, .int (nI 0)), (5, .int (nI 0))]) [1, 2, 3, 4, 5, 0] rfl ?_
        have L80 : ∀ (fu : Nat) (i : Nat), lnN P m - i < fu → i ≤ lnN P m → T a 6 mX10_ofMethod 80 [(0, rv a 50), (1, .int (nI m)), (2, .int (nI 2)), (3, .int (nI (cntG (fun s => decide (sM P s = m ∧ fate P s = 0)) s))), (4, .int (cbF P m i)), (5, .int (nI i))] [] S h (Rt (aOf P m 2) S h) := by
          intro fu
          induction fu with
          | zero => intro i hu2 hi; omega
          | succ fu ih2 =>
            intro i hu2 hi
            refine tr_iload (pc := 80) 5 dX10_ofMethod_80 rfl ?_
            refine tr_aload_n (pc := 82) 0 dX10_ofMethod_82 rfl rfl ?_
            refine tr_iload_n (pc := 83) 1 dX10_ofMethod_83 rfl rfl ?_
            refine tr_callV (pc := 84) (rest := [.int (nI i)]) (ci := 10) dX10_ofMethod_84 ml_X10_168 cv_X10_linesOf rfl rfl (Nat.le_of_ble_eq_true rfl) (hS.1 50 (13, 45) rfl) rfl (by decide) (c_mlines hS hV hN hm) ?_
            rintro _ _ _ ⟨rfl, rfl, rfl⟩
            show T a 6 mX10_ofMethod 87 [(0, rv a 50), (1, .int (nI m)), (2, .int (nI 2)), (3, .int (nI (cntG (fun s => decide (sM P s = m ∧ fate P s = 0)) s))), (4, .int (cbF P m i)), (5, .int (nI i))] [.int (nI (lnN P m)), .int (nI i)] S h _
            refine tr_icmp_ge (pc := 87) (tgt := 128) dX10_ofMethod_87 (by decide) (nI_leI (by omega) (by omega)) (fun q87 => ?_) (fun q87 => ?_)
            · skip
              refine tr_iload_n (pc := 128) 2 dX10_ofMethod_128 rfl rfl ?_
              refine tr_iconst (pc := 129) (v := nI 4) dX10_ofMethod_129 (by decide) ?_
              refine tr_icmp_ne (pc := 130) (tgt := 138) dX10_ofMethod_130 (by decide) (nI_eq (by omega) (by omega)) (fun _ => ?_) (fun hcc => absurd hcc (by decide))
              refine tr_iload_n (pc := 138) 3 dX10_ofMethod_138 rfl rfl ?_
              exact tr_iret (pc := 139) dX10_ofMethod_139 rfl rfl (by
                  rw [show s = nSt P by omega]; exact ⟨rfl, rfl, rfl⟩)
            · skip
              have hil : i < lnN P m := by omega
              have hok := hV3 m i hil
              obtain ⟨k1, k2, k3, k4⟩ := id hok
              refine tr_iload (pc := 90) 4 dX10_ofMethod_90 rfl ?_
              refine tr_aload_n (pc := 92) 0 dX10_ofMethod_92 rfl rfl ?_
              refine tr_iload_n (pc := 93) 1 dX10_ofMethod_93 rfl rfl ?_
              refine tr_iload (pc := 94) 5 dX10_ofMethod_94 rfl ?_
              refine tr_iconst (pc := 96) (v := nI 0) dX10_ofMethod_96 (by decide) ?_
              refine tr_callV (pc := 97) (rest := [.int (cbF P m i)]) (ci := 10) dX10_ofMethod_97 ml_X10_178 cv_X10_lineAt rfl rfl (Nat.le_of_ble_eq_true rfl) (hS.1 50 (13, 45) rfl) rfl (by decide) (c_mline hS hV hN hil (show 0 < 4 by decide)) ?_
              rintro _ _ _ ⟨rfl, rfl, rfl⟩
              show T a 6 mX10_ofMethod 100 [(0, rv a 50), (1, .int (nI m)), (2, .int (nI 2)), (3, .int (nI (cntG (fun s => decide (sM P s = m ∧ fate P s = 0)) s))), (4, .int (cbF P m i)), (5, .int (nI i))] [.int (nI ((gt P m i).1)), .int (cbF P m i)] S h _
              refine tr_bipush (pc := 100) (v := nI 7) dX10_ofMethod_100 (by decide) ?_
              refine tr_icmp_ne (pc := 102) (tgt := 118) dX10_ofMethod_102 (by decide) (nI_eq (by omega) (by omega)) (fun q102 => ?_) (fun q102 => ?_)
              · skip
                refine tr_iconst (pc := 118) (v := nI 0) dX10_ofMethod_118 (by decide) ?_
                refine tr_ior (pc := 119) (v := (cbF P m i) ||| (nI 0)) dX10_ofMethod_119 rfl ?_
                refine tr_istore (pc := 120) (lv' := [(4, .int ((cbF P m i) ||| (nI 0))), (0, rv a 50), (1, .int (nI m)), (2, .int (nI 2)), (3, .int (nI (cntG (fun s => decide (sM P s = m ∧ fate P s = 0)) s))), (5, .int (nI i))]) dX10_ofMethod_120 (by decide) rfl ?_
                refine tr_iinc (pc := 122) (v := nI (i + 1)) (lv' := [(5, .int (nI (i + 1))), (4, .int ((cbF P m i) ||| (nI 0))), (0, rv a 50), (1, .int (nI m)), (2, .int (nI 2)), (3, .int (nI (cntG (fun s => decide (sM P s = m ∧ fate P s = 0)) s)))]) 5 dX10_ofMethod_122 rfl (by rw [show Int32.ofInt 1 = nI 1 from by decide, nI_add]) (by decide) rfl ?_
                refine tr_goto (pc := 125) (tgt := 80) dX10_ofMethod_125 (by decide) ?_
                refine tr_sub (pc := 80) (lv' := [(0, rv a 50), (1, .int (nI m)), (2, .int (nI 2)), (3, .int (nI (cntG (fun s => decide (sM P s = m ∧ fate P s = 0)) s))), (4, .int ((cbF P m i) ||| (nI 0))), (5, .int (nI (i + 1)))]) [2, 3, 4, 5, 1, 0] rfl ?_
                have e1 : (cbF P m i) ||| (nI 0) = cbF P m (i + 1) := by simp only [cbF]; simp [q102, or_0]
                rw [e1]
                exact ih2 (i + 1) (by omega) (by omega)
              · skip
                refine tr_iconst (pc := 105) (v := nI 1) dX10_ofMethod_105 (by decide) ?_
                refine tr_aload_n (pc := 106) 0 dX10_ofMethod_106 rfl rfl ?_
                refine tr_iload_n (pc := 107) 1 dX10_ofMethod_107 rfl rfl ?_
                refine tr_iload (pc := 108) 5 dX10_ofMethod_108 rfl ?_
                refine tr_iconst (pc := 110) (v := nI 3) dX10_ofMethod_110 (by decide) ?_
                refine tr_callV (pc := 111) (rest := [.int (nI 1), .int (cbF P m i)]) (ci := 10) dX10_ofMethod_111 ml_X10_178 cv_X10_lineAt rfl rfl (Nat.le_of_ble_eq_true rfl) (hS.1 50 (13, 45) rfl) rfl (by decide) (c_mline hS hV hN hil (show 3 < 4 by decide)) ?_
                rintro _ _ _ ⟨rfl, rfl, rfl⟩
                rw [show cmp (gt P m i) 3 = nI (gt P m i).2.2.2 from if_pos q102]
                show T a 6 mX10_ofMethod 114 [(0, rv a 50), (1, .int (nI m)), (2, .int (nI 2)), (3, .int (nI (cntG (fun s => decide (sM P s = m ∧ fate P s = 0)) s))), (4, .int (cbF P m i)), (5, .int (nI i))] [.int (nI ((gt P m i).2.2.2)), .int (nI 1), .int (cbF P m i)] S h _
                refine tr_ishl (pc := 114) (v := (nI 1) <<< (nI ((gt P m i).2.2.2) &&& 31)) dX10_ofMethod_114 rfl ?_
                refine tr_goto (pc := 115) (tgt := 119) dX10_ofMethod_115 (by decide) ?_
                refine tr_ior (pc := 119) (v := (cbF P m i) ||| ((nI 1) <<< (nI ((gt P m i).2.2.2) &&& 31))) dX10_ofMethod_119 rfl ?_
                refine tr_istore (pc := 120) (lv' := [(4, .int ((cbF P m i) ||| ((nI 1) <<< (nI ((gt P m i).2.2.2) &&& 31)))), (0, rv a 50), (1, .int (nI m)), (2, .int (nI 2)), (3, .int (nI (cntG (fun s => decide (sM P s = m ∧ fate P s = 0)) s))), (5, .int (nI i))]) dX10_ofMethod_120 (by decide) rfl ?_
                refine tr_iinc (pc := 122) (v := nI (i + 1)) (lv' := [(5, .int (nI (i + 1))), (4, .int ((cbF P m i) ||| ((nI 1) <<< (nI ((gt P m i).2.2.2) &&& 31)))), (0, rv a 50), (1, .int (nI m)), (2, .int (nI 2)), (3, .int (nI (cntG (fun s => decide (sM P s = m ∧ fate P s = 0)) s)))]) 5 dX10_ofMethod_122 rfl (by rw [show Int32.ofInt 1 = nI 1 from by decide, nI_add]) (by decide) rfl ?_
                refine tr_goto (pc := 125) (tgt := 80) dX10_ofMethod_125 (by decide) ?_
                refine tr_sub (pc := 80) (lv' := [(0, rv a 50), (1, .int (nI m)), (2, .int (nI 2)), (3, .int (nI (cntG (fun s => decide (sM P s = m ∧ fate P s = 0)) s))), (4, .int ((cbF P m i) ||| ((nI 1) <<< (nI ((gt P m i).2.2.2) &&& 31)))), (5, .int (nI (i + 1)))]) [2, 3, 4, 5, 1, 0] rfl ?_
                have e1 : (cbF P m i) ||| ((nI 1) <<< (nI ((gt P m i).2.2.2) &&& 31)) = cbF P m (i + 1) := by simp only [cbF]; simp [q102, or_0]
                rw [e1]
                exact ih2 (i + 1) (by omega) (by omega)
        exact L80 (lnN P m + 1) 0 (by omega) (by omega)
      · skip
        have hfl := fate_lt P s
        have hsm := (site_at (show s < nSt P by omega)).1
        refine tr_iload_n (pc := 38) 3 dX10_ofMethod_38 rfl rfl ?_
        refine tr_aload_n (pc := 39) 0 dX10_ofMethod_39 rfl rfl ?_
        refine tr_getR (pc := 40) (q := 58) dX10_ofMethod_40 (hS.1 50 (13, 45) rfl) fi_X10_31 rfl (hS.2 50 17 58 rfl) ?_
        refine tr_iload (pc := 43) 5 dX10_ofMethod_43 rfl ?_
        refine tr_iald (pc := 45) (v := nI (sM P s)) s dX10_ofMethod_45 (hS.1 58 (0, 32) rfl) rfl (by omega) (by decide) (hSN.2.1 s (by omega)).1 ?_
        refine tr_iload_n (pc := 46) 1 dX10_ofMethod_46 rfl rfl ?_
        refine tr_icmp_ne (pc := 47) (tgt := 68) dX10_ofMethod_47 (by decide) (nI_eq (by omega) (by omega)) (fun q47 => ?_) (fun q47 => ?_)
        · skip
          refine tr_iconst (pc := 68) (v := nI 0) dX10_ofMethod_68 (by decide) ?_
          refine tr_iadd (pc := 69) (v := nI (cntG (fun s => decide (sM P s = m ∧ fate P s = 0)) s + 0)) dX10_ofMethod_69 (nI_add _ _) ?_
          refine tr_istore_n (pc := 70) (lv' := [(3, .int (nI (cntG (fun s => decide (sM P s = m ∧ fate P s = 0)) s + 0))), (0, rv a 50), (1, .int (nI m)), (2, .int (nI 2)), (4, .int (nI 0)), (5, .int (nI s))]) dX10_ofMethod_70 rfl (by decide) rfl ?_
          refine tr_iinc (pc := 71) (v := nI (s + 1)) (lv' := [(5, .int (nI (s + 1))), (3, .int (nI (cntG (fun s => decide (sM P s = m ∧ fate P s = 0)) s + 0))), (0, rv a 50), (1, .int (nI m)), (2, .int (nI 2)), (4, .int (nI 0))]) 5 dX10_ofMethod_71 rfl (by rw [show Int32.ofInt 1 = nI 1 from by decide, nI_add]) (by decide) rfl ?_
          refine tr_goto (pc := 74) (tgt := 29) dX10_ofMethod_74 (by decide) ?_
          refine tr_sub (pc := 29) (lv' := [(0, rv a 50), (1, .int (nI m)), (2, .int (nI 2)), (3, .int (nI (cntG (fun s => decide (sM P s = m ∧ fate P s = 0)) s + 0))), (4, .int (nI 0)), (5, .int (nI (s + 1)))]) [2, 3, 4, 1, 5, 0] rfl ?_
          have e1 : nI (cntG (fun s => decide (sM P s = m ∧ fate P s = 0)) s + 0) = nI (cntG (fun s => decide (sM P s = m ∧ fate P s = 0)) (s + 1)) := by simp only [cntG]; simp [q47]
          rw [e1]
          exact ih (s + 1) (by omega) (by omega)
        · skip
          refine tr_iload_n (pc := 50) 2 dX10_ofMethod_50 rfl rfl ?_
          refine tr_iconst (pc := 51) (v := nI 1) dX10_ofMethod_51 (by decide) ?_
          refine tr_icmp_eq (pc := 52) (tgt := 64) dX10_ofMethod_52 (by decide) (nI_eq (by omega) (by omega)) (fun hcc => absurd hcc (by decide)) (fun _ => ?_)
          refine tr_aload_n (pc := 55) 0 dX10_ofMethod_55 rfl rfl ?_
          refine tr_iload (pc := 56) 5 dX10_ofMethod_56 rfl ?_
          refine tr_callV (pc := 58) (rest := [.int (nI (cntG (fun s => decide (sM P s = m ∧ fate P s = 0)) s))]) (ci := 10) dX10_ofMethod_58 ml_X10_205 cv_X10_fateOf rfl rfl (Nat.le_of_ble_eq_true rfl) (hS.1 50 (13, 45) rfl) rfl (by decide) (c_mfate hS hV hN hSN hM (by omega)) ?_
          rintro _ _ _ ⟨rfl, rfl, rfl⟩
          show T a 6 mX10_ofMethod 61 [(0, rv a 50), (1, .int (nI m)), (2, .int (nI 2)), (3, .int (nI (cntG (fun s => decide (sM P s = m ∧ fate P s = 0)) s))), (4, .int (nI 0)), (5, .int (nI s))] [.int (nI (fate P s)), .int (nI (cntG (fun s => decide (sM P s = m ∧ fate P s = 0)) s))] S h _
          refine tr_if_ne (pc := 61) (tgt := 68) dX10_ofMethod_61 (by decide) (nI_z_eq (by omega)) (fun q61 => ?_) (fun q61 => ?_)
          · skip
            refine tr_iconst (pc := 68) (v := nI 0) dX10_ofMethod_68 (by decide) ?_
            refine tr_iadd (pc := 69) (v := nI (cntG (fun s => decide (sM P s = m ∧ fate P s = 0)) s + 0)) dX10_ofMethod_69 (nI_add _ _) ?_
            refine tr_istore_n (pc := 70) (lv' := [(3, .int (nI (cntG (fun s => decide (sM P s = m ∧ fate P s = 0)) s + 0))), (0, rv a 50), (1, .int (nI m)), (2, .int (nI 2)), (4, .int (nI 0)), (5, .int (nI s))]) dX10_ofMethod_70 rfl (by decide) rfl ?_
            refine tr_iinc (pc := 71) (v := nI (s + 1)) (lv' := [(5, .int (nI (s + 1))), (3, .int (nI (cntG (fun s => decide (sM P s = m ∧ fate P s = 0)) s + 0))), (0, rv a 50), (1, .int (nI m)), (2, .int (nI 2)), (4, .int (nI 0))]) 5 dX10_ofMethod_71 rfl (by rw [show Int32.ofInt 1 = nI 1 from by decide, nI_add]) (by decide) rfl ?_
            refine tr_goto (pc := 74) (tgt := 29) dX10_ofMethod_74 (by decide) ?_
            refine tr_sub (pc := 29) (lv' := [(0, rv a 50), (1, .int (nI m)), (2, .int (nI 2)), (3, .int (nI (cntG (fun s => decide (sM P s = m ∧ fate P s = 0)) s + 0))), (4, .int (nI 0)), (5, .int (nI (s + 1)))]) [2, 3, 4, 1, 5, 0] rfl ?_
            have e1 : nI (cntG (fun s => decide (sM P s = m ∧ fate P s = 0)) s + 0) = nI (cntG (fun s => decide (sM P s = m ∧ fate P s = 0)) (s + 1)) := by simp only [cntG]; simp [q47, q61]
            rw [e1]
            exact ih (s + 1) (by omega) (by omega)
          · skip
            refine tr_iconst (pc := 64) (v := nI 1) dX10_ofMethod_64 (by decide) ?_
            refine tr_goto (pc := 65) (tgt := 69) dX10_ofMethod_65 (by decide) ?_
            refine tr_iadd (pc := 69) (v := nI (cntG (fun s => decide (sM P s = m ∧ fate P s = 0)) s + 1)) dX10_ofMethod_69 (nI_add _ _) ?_
            refine tr_istore_n (pc := 70) (lv' := [(3, .int (nI (cntG (fun s => decide (sM P s = m ∧ fate P s = 0)) s + 1))), (0, rv a 50), (1, .int (nI m)), (2, .int (nI 2)), (4, .int (nI 0)), (5, .int (nI s))]) dX10_ofMethod_70 rfl (by decide) rfl ?_
            refine tr_iinc (pc := 71) (v := nI (s + 1)) (lv' := [(5, .int (nI (s + 1))), (3, .int (nI (cntG (fun s => decide (sM P s = m ∧ fate P s = 0)) s + 1))), (0, rv a 50), (1, .int (nI m)), (2, .int (nI 2)), (4, .int (nI 0))]) 5 dX10_ofMethod_71 rfl (by rw [show Int32.ofInt 1 = nI 1 from by decide, nI_add]) (by decide) rfl ?_
            refine tr_goto (pc := 74) (tgt := 29) dX10_ofMethod_74 (by decide) ?_
            refine tr_sub (pc := 29) (lv' := [(0, rv a 50), (1, .int (nI m)), (2, .int (nI 2)), (3, .int (nI (cntG (fun s => decide (sM P s = m ∧ fate P s = 0)) s + 1))), (4, .int (nI 0)), (5, .int (nI (s + 1)))]) [2, 3, 4, 1, 5, 0] rfl ?_
            have e1 : nI (cntG (fun s => decide (sM P s = m ∧ fate P s = 0)) s + 1) = nI (cntG (fun s => decide (sM P s = m ∧ fate P s = 0)) (s + 1)) := by simp only [cntG]; simp [q47, q61]
            rw [e1]
            exact ih (s + 1) (by omega) (by omega)
  exact L29 (nSt P + 1) 0 (by omega) (by omega)

set_option maxHeartbeats 4000000 in
set_option maxRecDepth 100000 in
theorem c_mof3 {a : Am} {S : St} {h : Hp} (hS : IsSt S) {P : Prog} (hV : VB P) (hN : NP h P) (hSN : SN h P) (hM : MN h (mayV P, false)) {m : Nat} (hm : m < P.length) : CT a 6 mX10_ofMethod [rv a 50, .int (nI m), .int (nI 3)] S h (Rt (aOf P m 3) S h) := by
  obtain ⟨hV1, hV2, hV3⟩ := id hV
  have hns := nSt_le hV
  have h8 := hV2 m
  refine met_of (by decide +kernel) (Nat.le_of_ble_eq_true rfl) ?_
  show T a 6 mX10_ofMethod 0 [(0, rv a 50), (1, .int (nI m)), (2, .int (nI 3))] [] S h _
  refine tr_iload_n (pc := 0) 2 dX10_ofMethod_0 rfl rfl ?_
  refine tr_if_ne (pc := 1) (tgt := 10) dX10_ofMethod_1 (by decide) (nI_z_eq (by omega)) (fun _ => ?_) (fun hcc => absurd hcc (by decide))
  refine tr_iload_n (pc := 10) 2 dX10_ofMethod_10 rfl rfl ?_
  refine tr_iconst (pc := 11) (v := nI 3) dX10_ofMethod_11 (by decide) ?_
  refine tr_icmp_ne (pc := 12) (tgt := 21) dX10_ofMethod_12 (by decide) (nI_eq (by omega) (by omega)) (fun hcc => absurd (by decide) hcc) (fun _ => ?_)
  refine tr_aload_n (pc := 15) 0 dX10_ofMethod_15 rfl rfl ?_
  refine tr_iload_n (pc := 16) 1 dX10_ofMethod_16 rfl rfl ?_
  refine tr_callV (pc := 17) (rest := []) (ci := 10) dX10_ofMethod_17 ml_X10_211 cv_X10_idleOf rfl rfl (Nat.le_of_ble_eq_true rfl) (hS.1 50 (13, 45) rfl) rfl (by decide) (c_midle hS hV hN hSN hM hm) ?_
  rintro _ _ _ ⟨rfl, rfl, rfl⟩
  show T a 6 mX10_ofMethod 20 [(0, rv a 50), (1, .int (nI m)), (2, .int (nI 3))] [.int (idl P m)] S h _
  exact tr_iret (pc := 20) dX10_ofMethod_20 rfl rfl (⟨rfl, rfl, rfl⟩)

set_option maxHeartbeats 4000000 in
set_option maxRecDepth 100000 in
theorem c_mof4 {a : Am} {S : St} {h : Hp} (hS : IsSt S) {P : Prog} (hV : VB P) (hN : NP h P) (hSN : SN h P) (hM : MN h (mayV P, false)) {m : Nat} (hm : m < P.length) : CT a 6 mX10_ofMethod [rv a 50, .int (nI m), .int (nI 4)] S h (Rt (aOf P m 4) S h) := by
  obtain ⟨hV1, hV2, hV3⟩ := id hV
  have hns := nSt_le hV
  have h8 := hV2 m
  refine met_of (by decide +kernel) (Nat.le_of_ble_eq_true rfl) ?_
  show T a 6 mX10_ofMethod 0 [(0, rv a 50), (1, .int (nI m)), (2, .int (nI 4))] [] S h _
  refine tr_iload_n (pc := 0) 2 dX10_ofMethod_0 rfl rfl ?_
  refine tr_if_ne (pc := 1) (tgt := 10) dX10_ofMethod_1 (by decide) (nI_z_eq (by omega)) (fun _ => ?_) (fun hcc => absurd hcc (by decide))
  refine tr_iload_n (pc := 10) 2 dX10_ofMethod_10 rfl rfl ?_
  refine tr_iconst (pc := 11) (v := nI 3) dX10_ofMethod_11 (by decide) ?_
  refine tr_icmp_ne (pc := 12) (tgt := 21) dX10_ofMethod_12 (by decide) (nI_eq (by omega) (by omega)) (fun _ => ?_) (fun hcc => absurd hcc (by decide))
  refine tr_iconst (pc := 21) (v := nI 0) dX10_ofMethod_21 (by decide) ?_
  refine tr_istore_n (pc := 22) (lv' := [(3, .int (nI 0)), (0, rv a 50), (1, .int (nI m)), (2, .int (nI 4))]) dX10_ofMethod_22 rfl (by decide) rfl ?_
  refine tr_iconst (pc := 23) (v := nI 0) dX10_ofMethod_23 (by decide) ?_
  refine tr_istore (pc := 24) (lv' := [(4, .int (nI 0)), (3, .int (nI 0)), (0, rv a 50), (1, .int (nI m)), (2, .int (nI 4))]) dX10_ofMethod_24 (by decide) rfl ?_
  refine tr_iconst (pc := 26) (v := nI 0) dX10_ofMethod_26 (by decide) ?_
  refine tr_istore (pc := 27) (lv' := [(5, .int (nI 0)), (4, .int (nI 0)), (3, .int (nI 0)), (0, rv a 50), (1, .int (nI m)), (2, .int (nI 4))]) dX10_ofMethod_27 (by decide) rfl ?_
  refine tr_sub (pc := 29) (lv' := [(0, rv a 50), (1, .int (nI m)), (2, .int (nI 4)), (3, .int (nI 0)), (4, .int (nI 0)), (5, .int (nI 0))]) [3, 4, 5, 2, 1, 0] rfl ?_
  have L29 : ∀ (fu : Nat) (s : Nat), nSt P - s < fu → s ≤ nSt P → T a 6 mX10_ofMethod 29 [(0, rv a 50), (1, .int (nI m)), (2, .int (nI 4)), (3, .int (nI (cntG (fun s => decide (sM P s = m ∧ fate P s = 0)) s))), (4, .int (nI 0)), (5, .int (nI s))] [] S h (Rt (aOf P m 4) S h) := by
    intro fu
    induction fu with
    | zero => intro s hu hs; omega
    | succ fu ih =>
      intro s hu hs
      refine tr_iload (pc := 29) 5 dX10_ofMethod_29 rfl ?_
      refine tr_aload_n (pc := 31) 0 dX10_ofMethod_31 rfl rfl ?_
      refine tr_getI (pc := 32) (x := nI (nSt P)) dX10_ofMethod_32 (hS.1 50 (13, 45) rfl) fi_X10_175 rfl hSN.1 ?_
      refine tr_icmp_ge (pc := 35) (tgt := 77) dX10_ofMethod_35 (by decide) (nI_leI (by omega) (by omega)) (fun q35 => ?_) (fun q35 => ?_)
      · skip
        refine tr_iconst (pc := 77) (v := nI 0) dX10_ofMethod_77 (by decide) ?_
        refine tr_istore (pc := 78) (lv' := [(5, .int (nI 0)), (0, rv a 50), (1, .int (nI m)), (2, .int (nI 4)), (3, .int (nI (cntG (fun s => decide (sM P s = m ∧ fate P s = 0)) s))), (4, .int (nI 0))]) dX10_ofMethod_78 (by decide) rfl ?_
        refine tr_sub (pc := 80) (lv' := [(0, rv a 50), (1, .int (nI m)), (2, .int (nI 4)), (3, .int (nI (cntG (fun s => decide (sM P s = m ∧ fate P s = 0)) s))), (4, .int (nI 0)), (5, .int (nI 0))]) [1, 2, 3, 4, 5, 0] rfl ?_
        have L80 : ∀ (fu : Nat) (i : Nat), lnN P m - i < fu → i ≤ lnN P m → T a 6 mX10_ofMethod 80 [(0, rv a 50), (1, .int (nI m)), (2, .int (nI 4)), (3, .int (nI (cntG (fun s => decide (sM P s = m ∧ fate P s = 0)) s))), (4, .int (cbF P m i)), (5, .int (nI i))] [] S h (Rt (aOf P m 4) S h) := by
          intro fu
          induction fu with
          | zero => intro i hu2 hi; omega
          | succ fu ih2 =>
            intro i hu2 hi
            refine tr_iload (pc := 80) 5 dX10_ofMethod_80 rfl ?_
            refine tr_aload_n (pc := 82) 0 dX10_ofMethod_82 rfl rfl ?_
            refine tr_iload_n (pc := 83) 1 dX10_ofMethod_83 rfl rfl ?_
            refine tr_callV (pc := 84) (rest := [.int (nI i)]) (ci := 10) dX10_ofMethod_84 ml_X10_168 cv_X10_linesOf rfl rfl (Nat.le_of_ble_eq_true rfl) (hS.1 50 (13, 45) rfl) rfl (by decide) (c_mlines hS hV hN hm) ?_
            rintro _ _ _ ⟨rfl, rfl, rfl⟩
            show T a 6 mX10_ofMethod 87 [(0, rv a 50), (1, .int (nI m)), (2, .int (nI 4)), (3, .int (nI (cntG (fun s => decide (sM P s = m ∧ fate P s = 0)) s))), (4, .int (cbF P m i)), (5, .int (nI i))] [.int (nI (lnN P m)), .int (nI i)] S h _
            refine tr_icmp_ge (pc := 87) (tgt := 128) dX10_ofMethod_87 (by decide) (nI_leI (by omega) (by omega)) (fun q87 => ?_) (fun q87 => ?_)
            · skip
              refine tr_iload_n (pc := 128) 2 dX10_ofMethod_128 rfl rfl ?_
              refine tr_iconst (pc := 129) (v := nI 4) dX10_ofMethod_129 (by decide) ?_
              refine tr_icmp_ne (pc := 130) (tgt := 138) dX10_ofMethod_130 (by decide) (nI_eq (by omega) (by omega)) (fun hcc => absurd (by decide) hcc) (fun _ => ?_)
              refine tr_iload (pc := 133) 4 dX10_ofMethod_133 rfl ?_
              refine tr_goto (pc := 135) (tgt := 139) dX10_ofMethod_135 (by decide) ?_
              exact tr_iret (pc := 139) dX10_ofMethod_139 rfl rfl (by
                  rw [show i = lnN P m by omega]; exact ⟨rfl, rfl, rfl⟩)
            · skip
              have hil : i < lnN P m := by omega
              have hok := hV3 m i hil
              obtain ⟨k1, k2, k3, k4⟩ := id hok
              refine tr_iload (pc := 90) 4 dX10_ofMethod_90 rfl ?_
              refine tr_aload_n (pc := 92) 0 dX10_ofMethod_92 rfl rfl ?_
              refine tr_iload_n (pc := 93) 1 dX10_ofMethod_93 rfl rfl ?_
              refine tr_iload (pc := 94) 5 dX10_ofMethod_94 rfl ?_
              refine tr_iconst (pc := 96) (v := nI 0) dX10_ofMethod_96 (by decide) ?_
              refine tr_callV (pc := 97) (rest := [.int (cbF P m i)]) (ci := 10) dX10_ofMethod_97 ml_X10_178 cv_X10_lineAt rfl rfl (Nat.le_of_ble_eq_true rfl) (hS.1 50 (13, 45) rfl) rfl (by decide) (c_mline hS hV hN hil (show 0 < 4 by decide)) ?_
              rintro _ _ _ ⟨rfl, rfl, rfl⟩
              show T a 6 mX10_ofMethod 100 [(0, rv a 50), (1, .int (nI m)), (2, .int (nI 4)), (3, .int (nI (cntG (fun s => decide (sM P s = m ∧ fate P s = 0)) s))), (4, .int (cbF P m i)), (5, .int (nI i))] [.int (nI ((gt P m i).1)), .int (cbF P m i)] S h _
              refine tr_bipush (pc := 100) (v := nI 7) dX10_ofMethod_100 (by decide) ?_
              refine tr_icmp_ne (pc := 102) (tgt := 118) dX10_ofMethod_102 (by decide) (nI_eq (by omega) (by omega)) (fun q102 => ?_) (fun q102 => ?_)
              · skip
                refine tr_iconst (pc := 118) (v := nI 0) dX10_ofMethod_118 (by decide) ?_
                refine tr_ior (pc := 119) (v := (cbF P m i) ||| (nI 0)) dX10_ofMethod_119 rfl ?_
                refine tr_istore (pc := 120) (lv' := [(4, .int ((cbF P m i) ||| (nI 0))), (0, rv a 50), (1, .int (nI m)), (2, .int (nI 4)), (3, .int (nI (cntG (fun s => decide (sM P s = m ∧ fate P s = 0)) s))), (5, .int (nI i))]) dX10_ofMethod_120 (by decide) rfl ?_
                refine tr_iinc (pc := 122) (v := nI (i + 1)) (lv' := [(5, .int (nI (i + 1))), (4, .int ((cbF P m i) ||| (nI 0))), (0, rv a 50), (1, .int (nI m)), (2, .int (nI 4)), (3, .int (nI (cntG (fun s => decide (sM P s = m ∧ fate P s = 0)) s)))]) 5 dX10_ofMethod_122 rfl (by rw [show Int32.ofInt 1 = nI 1 from by decide, nI_add]) (by decide) rfl ?_
                refine tr_goto (pc := 125) (tgt := 80) dX10_ofMethod_125 (by decide) ?_
                refine tr_sub (pc := 80) (lv' := [(0, rv a 50), (1, .int (nI m)), (2, .int (nI 4)), (3, .int (nI (cntG (fun s => decide (sM P s = m ∧ fate P s = 0)) s))), (4, .int ((cbF P m i) ||| (nI 0))), (5, .int (nI (i + 1)))]) [2, 3, 4, 5, 1, 0] rfl ?_
                have e1 : (cbF P m i) ||| (nI 0) = cbF P m (i + 1) := by simp only [cbF]; simp [q102, or_0]
                rw [e1]
                exact ih2 (i + 1) (by omega) (by omega)
              · skip
                refine tr_iconst (pc := 105) (v := nI 1) dX10_ofMethod_105 (by decide) ?_
                refine tr_aload_n (pc := 106) 0 dX10_ofMethod_106 rfl rfl ?_
                refine tr_iload_n (pc := 107) 1 dX10_ofMethod_107 rfl rfl ?_
                refine tr_iload (pc := 108) 5 dX10_ofMethod_108 rfl ?_
                refine tr_iconst (pc := 110) (v := nI 3) dX10_ofMethod_110 (by decide) ?_
                refine tr_callV (pc := 111) (rest := [.int (nI 1), .int (cbF P m i)]) (ci := 10) dX10_ofMethod_111 ml_X10_178 cv_X10_lineAt rfl rfl (Nat.le_of_ble_eq_true rfl) (hS.1 50 (13, 45) rfl) rfl (by decide) (c_mline hS hV hN hil (show 3 < 4 by decide)) ?_
                rintro _ _ _ ⟨rfl, rfl, rfl⟩
                rw [show cmp (gt P m i) 3 = nI (gt P m i).2.2.2 from if_pos q102]
                show T a 6 mX10_ofMethod 114 [(0, rv a 50), (1, .int (nI m)), (2, .int (nI 4)), (3, .int (nI (cntG (fun s => decide (sM P s = m ∧ fate P s = 0)) s))), (4, .int (cbF P m i)), (5, .int (nI i))] [.int (nI ((gt P m i).2.2.2)), .int (nI 1), .int (cbF P m i)] S h _
                refine tr_ishl (pc := 114) (v := (nI 1) <<< (nI ((gt P m i).2.2.2) &&& 31)) dX10_ofMethod_114 rfl ?_
                refine tr_goto (pc := 115) (tgt := 119) dX10_ofMethod_115 (by decide) ?_
                refine tr_ior (pc := 119) (v := (cbF P m i) ||| ((nI 1) <<< (nI ((gt P m i).2.2.2) &&& 31))) dX10_ofMethod_119 rfl ?_
                refine tr_istore (pc := 120) (lv' := [(4, .int ((cbF P m i) ||| ((nI 1) <<< (nI ((gt P m i).2.2.2) &&& 31)))), (0, rv a 50), (1, .int (nI m)), (2, .int (nI 4)), (3, .int (nI (cntG (fun s => decide (sM P s = m ∧ fate P s = 0)) s))), (5, .int (nI i))]) dX10_ofMethod_120 (by decide) rfl ?_
                refine tr_iinc (pc := 122) (v := nI (i + 1)) (lv' := [(5, .int (nI (i + 1))), (4, .int ((cbF P m i) ||| ((nI 1) <<< (nI ((gt P m i).2.2.2) &&& 31)))), (0, rv a 50), (1, .int (nI m)), (2, .int (nI 4)), (3, .int (nI (cntG (fun s => decide (sM P s = m ∧ fate P s = 0)) s)))]) 5 dX10_ofMethod_122 rfl (by rw [show Int32.ofInt 1 = nI 1 from by decide, nI_add]) (by decide) rfl ?_
                refine tr_goto (pc := 125) (tgt := 80) dX10_ofMethod_125 (by decide) ?_
                refine tr_sub (pc := 80) (lv' := [(0, rv a 50), (1, .int (nI m)), (2, .int (nI 4)), (3, .int (nI (cntG (fun s => decide (sM P s = m ∧ fate P s = 0)) s))), (4, .int ((cbF P m i) ||| ((nI 1) <<< (nI ((gt P m i).2.2.2) &&& 31)))), (5, .int (nI (i + 1)))]) [2, 3, 4, 5, 1, 0] rfl ?_
                have e1 : (cbF P m i) ||| ((nI 1) <<< (nI ((gt P m i).2.2.2) &&& 31)) = cbF P m (i + 1) := by simp only [cbF]; simp [q102, or_0]
                rw [e1]
                exact ih2 (i + 1) (by omega) (by omega)
        exact L80 (lnN P m + 1) 0 (by omega) (by omega)
      · skip
        have hfl := fate_lt P s
        have hsm := (site_at (show s < nSt P by omega)).1
        refine tr_iload_n (pc := 38) 3 dX10_ofMethod_38 rfl rfl ?_
        refine tr_aload_n (pc := 39) 0 dX10_ofMethod_39 rfl rfl ?_
        refine tr_getR (pc := 40) (q := 58) dX10_ofMethod_40 (hS.1 50 (13, 45) rfl) fi_X10_31 rfl (hS.2 50 17 58 rfl) ?_
        refine tr_iload (pc := 43) 5 dX10_ofMethod_43 rfl ?_
        refine tr_iald (pc := 45) (v := nI (sM P s)) s dX10_ofMethod_45 (hS.1 58 (0, 32) rfl) rfl (by omega) (by decide) (hSN.2.1 s (by omega)).1 ?_
        refine tr_iload_n (pc := 46) 1 dX10_ofMethod_46 rfl rfl ?_
        refine tr_icmp_ne (pc := 47) (tgt := 68) dX10_ofMethod_47 (by decide) (nI_eq (by omega) (by omega)) (fun q47 => ?_) (fun q47 => ?_)
        · skip
          refine tr_iconst (pc := 68) (v := nI 0) dX10_ofMethod_68 (by decide) ?_
          refine tr_iadd (pc := 69) (v := nI (cntG (fun s => decide (sM P s = m ∧ fate P s = 0)) s + 0)) dX10_ofMethod_69 (nI_add _ _) ?_
          refine tr_istore_n (pc := 70) (lv' := [(3, .int (nI (cntG (fun s => decide (sM P s = m ∧ fate P s = 0)) s + 0))), (0, rv a 50), (1, .int (nI m)), (2, .int (nI 4)), (4, .int (nI 0)), (5, .int (nI s))]) dX10_ofMethod_70 rfl (by decide) rfl ?_
          refine tr_iinc (pc := 71) (v := nI (s + 1)) (lv' := [(5, .int (nI (s + 1))), (3, .int (nI (cntG (fun s => decide (sM P s = m ∧ fate P s = 0)) s + 0))), (0, rv a 50), (1, .int (nI m)), (2, .int (nI 4)), (4, .int (nI 0))]) 5 dX10_ofMethod_71 rfl (by rw [show Int32.ofInt 1 = nI 1 from by decide, nI_add]) (by decide) rfl ?_
          refine tr_goto (pc := 74) (tgt := 29) dX10_ofMethod_74 (by decide) ?_
          refine tr_sub (pc := 29) (lv' := [(0, rv a 50), (1, .int (nI m)), (2, .int (nI 4)), (3, .int (nI (cntG (fun s => decide (sM P s = m ∧ fate P s = 0)) s + 0))), (4, .int (nI 0)), (5, .int (nI (s + 1)))]) [2, 3, 4, 1, 5, 0] rfl ?_
          have e1 : nI (cntG (fun s => decide (sM P s = m ∧ fate P s = 0)) s + 0) = nI (cntG (fun s => decide (sM P s = m ∧ fate P s = 0)) (s + 1)) := by simp only [cntG]; simp [q47]
          rw [e1]
          exact ih (s + 1) (by omega) (by omega)
        · skip
          refine tr_iload_n (pc := 50) 2 dX10_ofMethod_50 rfl rfl ?_
          refine tr_iconst (pc := 51) (v := nI 1) dX10_ofMethod_51 (by decide) ?_
          refine tr_icmp_eq (pc := 52) (tgt := 64) dX10_ofMethod_52 (by decide) (nI_eq (by omega) (by omega)) (fun hcc => absurd hcc (by decide)) (fun _ => ?_)
          refine tr_aload_n (pc := 55) 0 dX10_ofMethod_55 rfl rfl ?_
          refine tr_iload (pc := 56) 5 dX10_ofMethod_56 rfl ?_
          refine tr_callV (pc := 58) (rest := [.int (nI (cntG (fun s => decide (sM P s = m ∧ fate P s = 0)) s))]) (ci := 10) dX10_ofMethod_58 ml_X10_205 cv_X10_fateOf rfl rfl (Nat.le_of_ble_eq_true rfl) (hS.1 50 (13, 45) rfl) rfl (by decide) (c_mfate hS hV hN hSN hM (by omega)) ?_
          rintro _ _ _ ⟨rfl, rfl, rfl⟩
          show T a 6 mX10_ofMethod 61 [(0, rv a 50), (1, .int (nI m)), (2, .int (nI 4)), (3, .int (nI (cntG (fun s => decide (sM P s = m ∧ fate P s = 0)) s))), (4, .int (nI 0)), (5, .int (nI s))] [.int (nI (fate P s)), .int (nI (cntG (fun s => decide (sM P s = m ∧ fate P s = 0)) s))] S h _
          refine tr_if_ne (pc := 61) (tgt := 68) dX10_ofMethod_61 (by decide) (nI_z_eq (by omega)) (fun q61 => ?_) (fun q61 => ?_)
          · skip
            refine tr_iconst (pc := 68) (v := nI 0) dX10_ofMethod_68 (by decide) ?_
            refine tr_iadd (pc := 69) (v := nI (cntG (fun s => decide (sM P s = m ∧ fate P s = 0)) s + 0)) dX10_ofMethod_69 (nI_add _ _) ?_
            refine tr_istore_n (pc := 70) (lv' := [(3, .int (nI (cntG (fun s => decide (sM P s = m ∧ fate P s = 0)) s + 0))), (0, rv a 50), (1, .int (nI m)), (2, .int (nI 4)), (4, .int (nI 0)), (5, .int (nI s))]) dX10_ofMethod_70 rfl (by decide) rfl ?_
            refine tr_iinc (pc := 71) (v := nI (s + 1)) (lv' := [(5, .int (nI (s + 1))), (3, .int (nI (cntG (fun s => decide (sM P s = m ∧ fate P s = 0)) s + 0))), (0, rv a 50), (1, .int (nI m)), (2, .int (nI 4)), (4, .int (nI 0))]) 5 dX10_ofMethod_71 rfl (by rw [show Int32.ofInt 1 = nI 1 from by decide, nI_add]) (by decide) rfl ?_
            refine tr_goto (pc := 74) (tgt := 29) dX10_ofMethod_74 (by decide) ?_
            refine tr_sub (pc := 29) (lv' := [(0, rv a 50), (1, .int (nI m)), (2, .int (nI 4)), (3, .int (nI (cntG (fun s => decide (sM P s = m ∧ fate P s = 0)) s + 0))), (4, .int (nI 0)), (5, .int (nI (s + 1)))]) [2, 3, 4, 1, 5, 0] rfl ?_
            have e1 : nI (cntG (fun s => decide (sM P s = m ∧ fate P s = 0)) s + 0) = nI (cntG (fun s => decide (sM P s = m ∧ fate P s = 0)) (s + 1)) := by simp only [cntG]; simp [q47, q61]
            rw [e1]
            exact ih (s + 1) (by omega) (by omega)
          · skip
            refine tr_iconst (pc := 64) (v := nI 1) dX10_ofMethod_64 (by decide) ?_
            refine tr_goto (pc := 65) (tgt := 69) dX10_ofMethod_65 (by decide) ?_
            refine tr_iadd (pc := 69) (v := nI (cntG (fun s => decide (sM P s = m ∧ fate P s = 0)) s + 1)) dX10_ofMethod_69 (nI_add _ _) ?_
            refine tr_istore_n (pc := 70) (lv' := [(3, .int (nI (cntG (fun s => decide (sM P s = m ∧ fate P s = 0)) s + 1))), (0, rv a 50), (1, .int (nI m)), (2, .int (nI 4)), (4, .int (nI 0)), (5, .int (nI s))]) dX10_ofMethod_70 rfl (by decide) rfl ?_
            refine tr_iinc (pc := 71) (v := nI (s + 1)) (lv' := [(5, .int (nI (s + 1))), (3, .int (nI (cntG (fun s => decide (sM P s = m ∧ fate P s = 0)) s + 1))), (0, rv a 50), (1, .int (nI m)), (2, .int (nI 4)), (4, .int (nI 0))]) 5 dX10_ofMethod_71 rfl (by rw [show Int32.ofInt 1 = nI 1 from by decide, nI_add]) (by decide) rfl ?_
            refine tr_goto (pc := 74) (tgt := 29) dX10_ofMethod_74 (by decide) ?_
            refine tr_sub (pc := 29) (lv' := [(0, rv a 50), (1, .int (nI m)), (2, .int (nI 4)), (3, .int (nI (cntG (fun s => decide (sM P s = m ∧ fate P s = 0)) s + 1))), (4, .int (nI 0)), (5, .int (nI (s + 1)))]) [2, 3, 4, 1, 5, 0] rfl ?_
            have e1 : nI (cntG (fun s => decide (sM P s = m ∧ fate P s = 0)) s + 1) = nI (cntG (fun s => decide (sM P s = m ∧ fate P s = 0)) (s + 1)) := by simp only [cntG]; simp [q47, q61]
            rw [e1]
            exact ih (s + 1) (by omega) (by omega)
  exact L29 (nSt P + 1) 0 (by omega) (by omega)

set_option maxHeartbeats 4000000 in
set_option maxRecDepth 100000 in
theorem c_mline0 {a : Am} {S : St} {h : Hp} (hS : IsSt S) {P : Prog} (hV : VB P) (hN : NP h P) (hSN : SN h P) {m i : Nat} (hi : i < lnN P m) : CT a 1 mX10_ofLine [rv a 50, .int (nI m), .int (nI i), .int (nI 0)] S h (Rt (aLine P m i 0) S h) := by
  obtain ⟨hV1, hV2, hV3⟩ := id hV
  have hns := nSt_le hV
  have hm := lnN_lt hi
  have h8 := hV2 m
  have hok := hV3 m i hi
  obtain ⟨k1, k2, k3, k4⟩ := id hok
  refine met_of (by decide +kernel) (Nat.le_of_ble_eq_true rfl) ?_
  show T a 1 mX10_ofLine 0 [(0, rv a 50), (1, .int (nI m)), (2, .int (nI i)), (3, .int (nI 0))] [] S h _
  refine tr_iload_n (pc := 0) 3 dX10_ofLine_0 rfl rfl ?_
  refine tr_iconst (pc := 1) (v := nI 4) dX10_ofLine_1 (by decide) ?_
  refine tr_icmp_ne (pc := 2) (tgt := 17) dX10_ofLine_2 (by decide) (nI_eq (by omega) (by omega)) (fun _ => ?_) (fun hcc => absurd hcc (by decide))
  refine tr_aload_n (pc := 17) 0 dX10_ofLine_17 rfl rfl ?_
  refine tr_iload_n (pc := 18) 1 dX10_ofLine_18 rfl rfl ?_
  refine tr_iload_n (pc := 19) 2 dX10_ofLine_19 rfl rfl ?_
  refine tr_iconst (pc := 20) (v := nI 0) dX10_ofLine_20 (by decide) ?_
  refine tr_callV (pc := 21) (rest := []) (ci := 10) dX10_ofLine_21 ml_X10_178 cv_X10_lineAt rfl rfl (Nat.le_of_ble_eq_true rfl) (hS.1 50 (13, 45) rfl) rfl (by decide) (c_mline hS hV hN hi (show 0 < 4 by decide)) ?_
  rintro _ _ _ ⟨rfl, rfl, rfl⟩
  show T a 1 mX10_ofLine 24 [(0, rv a 50), (1, .int (nI m)), (2, .int (nI i)), (3, .int (nI 0))] [.int (nI ((gt P m i).1))] S h _
  refine tr_istore (pc := 24) (lv' := [(4, .int (nI ((gt P m i).1))), (0, rv a 50), (1, .int (nI m)), (2, .int (nI i)), (3, .int (nI 0))]) dX10_ofLine_24 (by decide) rfl ?_
  refine tr_iload_n (pc := 26) 4 dX10_ofLine_26 rfl rfl ?_
  refine tr_iconst (pc := 27) (v := nI 2) dX10_ofLine_27 (by decide) ?_
  refine tr_icmp_ne (pc := 28) (tgt := 49) dX10_ofLine_28 (by decide) (nI_eq (by omega) (by omega)) (fun _ => ?_) (fun hcc => absurd hcc (by decide))
  refine tr_iload_n (pc := 49) 4 dX10_ofLine_49 rfl rfl ?_
  refine tr_iconst (pc := 50) (v := nI 3) dX10_ofLine_50 (by decide) ?_
  refine tr_icmp_ne (pc := 51) (tgt := 65) dX10_ofLine_51 (by decide) (nI_eq (by omega) (by omega)) (fun _ => ?_) (fun hcc => absurd hcc (by decide))
  refine tr_iconst (pc := 65) (v := nI 0) dX10_ofLine_65 (by decide) ?_
  refine tr_istore (pc := 66) (lv' := [(5, .int (nI 0)), (4, .int (nI ((gt P m i).1))), (0, rv a 50), (1, .int (nI m)), (2, .int (nI i)), (3, .int (nI 0))]) dX10_ofLine_66 (by decide) rfl ?_
  refine tr_iload (pc := 68) 0 dX10_ofLine_68 rfl ?_
  refine tr_if_eq (pc := 70) (tgt := 77) dX10_ofLine_70 (by decide) (nI_z_eq (by omega)) (fun _ => ?_) (fun hcc => absurd (by decide) hcc)
  refine tr_aload_n (pc := 77) 2 dX10_ofLine_77 rfl rfl ?_
  refine tr_iload_n (pc := 78) 3 dX10_ofLine_78 rfl rfl ?_
  refine tr_iload_n (pc := 79) 4 dX10_ofLine_79 rfl rfl ?_
  refine tr_iload_n (pc := 80) 5 dX10_ofLine_80 rfl rfl ?_
  refine tr_callV (pc := 81) (rest := []) (ci := 10) dX10_ofLine_81 ml_X10_178 cv_X10_lineAt rfl rfl (Nat.le_of_ble_eq_true rfl) (hS.1 50 (13, 45) rfl) rfl (by decide) (c_mline hS hV hN hi (show 0 < 4 by decide)) ?_
  rintro _ _ _ ⟨rfl, rfl, rfl⟩
  show T a 1 mX10_ofLine 84 [(5, .int (nI 0)), (4, .int (nI ((gt P m i).1))), (0, rv a 50), (1, .int (nI m)), (2, .int (nI i)), (3, .int (nI 0))] [.int (nI ((gt P m i).1))] S h _
  exact tr_iret (pc := 84) dX10_ofLine_84 rfl rfl (⟨rfl, rfl, rfl⟩)

set_option maxHeartbeats 4000000 in
set_option maxRecDepth 100000 in
theorem c_mline1 {a : Am} {S : St} {h : Hp} (hS : IsSt S) {P : Prog} (hV : VB P) (hN : NP h P) (hSN : SN h P) {m i : Nat} (hi : i < lnN P m) : CT a 1 mX10_ofLine [rv a 50, .int (nI m), .int (nI i), .int (nI 1)] S h (Rt (aLine P m i 1) S h) := by
  obtain ⟨hV1, hV2, hV3⟩ := id hV
  have hns := nSt_le hV
  have hm := lnN_lt hi
  have h8 := hV2 m
  have hok := hV3 m i hi
  obtain ⟨k1, k2, k3, k4⟩ := id hok
  refine met_of (by decide +kernel) (Nat.le_of_ble_eq_true rfl) ?_
  show T a 1 mX10_ofLine 0 [(0, rv a 50), (1, .int (nI m)), (2, .int (nI i)), (3, .int (nI 1))] [] S h _
  refine tr_iload_n (pc := 0) 3 dX10_ofLine_0 rfl rfl ?_
  refine tr_iconst (pc := 1) (v := nI 4) dX10_ofLine_1 (by decide) ?_
  refine tr_icmp_ne (pc := 2) (tgt := 17) dX10_ofLine_2 (by decide) (nI_eq (by omega) (by omega)) (fun _ => ?_) (fun hcc => absurd hcc (by decide))
  refine tr_aload_n (pc := 17) 0 dX10_ofLine_17 rfl rfl ?_
  refine tr_iload_n (pc := 18) 1 dX10_ofLine_18 rfl rfl ?_
  refine tr_iload_n (pc := 19) 2 dX10_ofLine_19 rfl rfl ?_
  refine tr_iconst (pc := 20) (v := nI 0) dX10_ofLine_20 (by decide) ?_
  refine tr_callV (pc := 21) (rest := []) (ci := 10) dX10_ofLine_21 ml_X10_178 cv_X10_lineAt rfl rfl (Nat.le_of_ble_eq_true rfl) (hS.1 50 (13, 45) rfl) rfl (by decide) (c_mline hS hV hN hi (show 0 < 4 by decide)) ?_
  rintro _ _ _ ⟨rfl, rfl, rfl⟩
  show T a 1 mX10_ofLine 24 [(0, rv a 50), (1, .int (nI m)), (2, .int (nI i)), (3, .int (nI 1))] [.int (nI ((gt P m i).1))] S h _
  refine tr_istore (pc := 24) (lv' := [(4, .int (nI ((gt P m i).1))), (0, rv a 50), (1, .int (nI m)), (2, .int (nI i)), (3, .int (nI 1))]) dX10_ofLine_24 (by decide) rfl ?_
  refine tr_iload_n (pc := 26) 4 dX10_ofLine_26 rfl rfl ?_
  refine tr_iconst (pc := 27) (v := nI 2) dX10_ofLine_27 (by decide) ?_
  refine tr_icmp_ne (pc := 28) (tgt := 49) dX10_ofLine_28 (by decide) (nI_eq (by omega) (by omega)) (fun _ => ?_) (fun hcc => absurd hcc (by decide))
  refine tr_iload_n (pc := 49) 4 dX10_ofLine_49 rfl rfl ?_
  refine tr_iconst (pc := 50) (v := nI 3) dX10_ofLine_50 (by decide) ?_
  refine tr_icmp_ne (pc := 51) (tgt := 65) dX10_ofLine_51 (by decide) (nI_eq (by omega) (by omega)) (fun _ => ?_) (fun hcc => absurd hcc (by decide))
  refine tr_iconst (pc := 65) (v := nI 0) dX10_ofLine_65 (by decide) ?_
  refine tr_istore (pc := 66) (lv' := [(5, .int (nI 0)), (4, .int (nI ((gt P m i).1))), (0, rv a 50), (1, .int (nI m)), (2, .int (nI i)), (3, .int (nI 1))]) dX10_ofLine_66 (by decide) rfl ?_
  refine tr_iload (pc := 68) 0 dX10_ofLine_68 rfl ?_
  refine tr_if_eq (pc := 70) (tgt := 77) dX10_ofLine_70 (by decide) (nI_z_eq (by omega)) (fun _ => ?_) (fun hcc => absurd (by decide) hcc)
  refine tr_aload_n (pc := 77) 2 dX10_ofLine_77 rfl rfl ?_
  refine tr_iload_n (pc := 78) 3 dX10_ofLine_78 rfl rfl ?_
  refine tr_iload_n (pc := 79) 4 dX10_ofLine_79 rfl rfl ?_
  refine tr_iload_n (pc := 80) 5 dX10_ofLine_80 rfl rfl ?_
  refine tr_callV (pc := 81) (rest := []) (ci := 10) dX10_ofLine_81 ml_X10_178 cv_X10_lineAt rfl rfl (Nat.le_of_ble_eq_true rfl) (hS.1 50 (13, 45) rfl) rfl (by decide) (c_mline hS hV hN hi (show 1 < 4 by decide)) ?_
  rintro _ _ _ ⟨rfl, rfl, rfl⟩
  show T a 1 mX10_ofLine 84 [(5, .int (nI 0)), (4, .int (nI ((gt P m i).1))), (0, rv a 50), (1, .int (nI m)), (2, .int (nI i)), (3, .int (nI 1))] [.int (nI ((gt P m i).2.1))] S h _
  exact tr_iret (pc := 84) dX10_ofLine_84 rfl rfl (⟨rfl, rfl, rfl⟩)

set_option maxHeartbeats 4000000 in
set_option maxRecDepth 100000 in
theorem c_mline2 {a : Am} {S : St} {h : Hp} (hS : IsSt S) {P : Prog} (hV : VB P) (hN : NP h P) (hSN : SN h P) {m i : Nat} (hi : i < lnN P m) : CT a 1 mX10_ofLine [rv a 50, .int (nI m), .int (nI i), .int (nI 2)] S h (Rt (aLine P m i 2) S h) := by
  obtain ⟨hV1, hV2, hV3⟩ := id hV
  have hns := nSt_le hV
  have hm := lnN_lt hi
  have h8 := hV2 m
  have hok := hV3 m i hi
  obtain ⟨k1, k2, k3, k4⟩ := id hok
  refine met_of (by decide +kernel) (Nat.le_of_ble_eq_true rfl) ?_
  show T a 1 mX10_ofLine 0 [(0, rv a 50), (1, .int (nI m)), (2, .int (nI i)), (3, .int (nI 2))] [] S h _
  refine tr_iload_n (pc := 0) 3 dX10_ofLine_0 rfl rfl ?_
  refine tr_iconst (pc := 1) (v := nI 4) dX10_ofLine_1 (by decide) ?_
  refine tr_icmp_ne (pc := 2) (tgt := 17) dX10_ofLine_2 (by decide) (nI_eq (by omega) (by omega)) (fun _ => ?_) (fun hcc => absurd hcc (by decide))
  refine tr_aload_n (pc := 17) 0 dX10_ofLine_17 rfl rfl ?_
  refine tr_iload_n (pc := 18) 1 dX10_ofLine_18 rfl rfl ?_
  refine tr_iload_n (pc := 19) 2 dX10_ofLine_19 rfl rfl ?_
  refine tr_iconst (pc := 20) (v := nI 0) dX10_ofLine_20 (by decide) ?_
  refine tr_callV (pc := 21) (rest := []) (ci := 10) dX10_ofLine_21 ml_X10_178 cv_X10_lineAt rfl rfl (Nat.le_of_ble_eq_true rfl) (hS.1 50 (13, 45) rfl) rfl (by decide) (c_mline hS hV hN hi (show 0 < 4 by decide)) ?_
  rintro _ _ _ ⟨rfl, rfl, rfl⟩
  show T a 1 mX10_ofLine 24 [(0, rv a 50), (1, .int (nI m)), (2, .int (nI i)), (3, .int (nI 2))] [.int (nI ((gt P m i).1))] S h _
  refine tr_istore (pc := 24) (lv' := [(4, .int (nI ((gt P m i).1))), (0, rv a 50), (1, .int (nI m)), (2, .int (nI i)), (3, .int (nI 2))]) dX10_ofLine_24 (by decide) rfl ?_
  refine tr_iload_n (pc := 26) 4 dX10_ofLine_26 rfl rfl ?_
  refine tr_iconst (pc := 27) (v := nI 2) dX10_ofLine_27 (by decide) ?_
  refine tr_icmp_ne (pc := 28) (tgt := 49) dX10_ofLine_28 (by decide) (nI_eq (by omega) (by omega)) (fun hcc => absurd (by decide) hcc) (fun _ => ?_)
  refine tr_iload (pc := 31) 0 dX10_ofLine_31 rfl ?_
  refine tr_if_eq (pc := 33) (tgt := 61) dX10_ofLine_33 (by decide) (nI_z_eq (by omega)) (fun q33 => ?_) (fun q33 => ?_)
  · skip
    refine tr_iconst (pc := 61) (v := nI 1) dX10_ofLine_61 (by decide) ?_
    refine tr_goto (pc := 62) (tgt := 66) dX10_ofLine_62 (by decide) ?_
    refine tr_istore (pc := 66) (lv' := [(5, .int (nI 1)), (4, .int (nI ((gt P m i).1))), (0, rv a 50), (1, .int (nI m)), (2, .int (nI i)), (3, .int (nI 2))]) dX10_ofLine_66 (by decide) rfl ?_
    refine tr_iload (pc := 68) 0 dX10_ofLine_68 rfl ?_
    refine tr_if_eq (pc := 70) (tgt := 77) dX10_ofLine_70 (by decide) (nI_z_eq (by omega)) (fun hcc => absurd hcc (by decide)) (fun _ => ?_)
    refine tr_iconst (pc := 73) (v := -1) dX10_ofLine_73 (by decide) ?_
    refine tr_goto (pc := 74) (tgt := 84) dX10_ofLine_74 (by decide) ?_
    exact tr_iret (pc := 84) dX10_ofLine_84 rfl rfl (by
        show Rt (cmp (gt P m i) 2) S h _ _ _
        rw [show cmp (gt P m i) 2 = -1 from if_neg (by simp [hasY]; omega)]; exact ⟨rfl, rfl, rfl⟩)
  · skip
    refine tr_iload (pc := 36) 0 dX10_ofLine_36 rfl ?_
    refine tr_iconst (pc := 38) (v := nI 3) dX10_ofLine_38 (by decide) ?_
    refine tr_icmp_le (pc := 39) (tgt := 49) dX10_ofLine_39 (by decide) (nI_leI (by omega) (by omega)) (fun q39 => ?_) (fun q39 => ?_)
    · skip
      refine tr_iload_n (pc := 49) 4 dX10_ofLine_49 rfl rfl ?_
      refine tr_iconst (pc := 50) (v := nI 3) dX10_ofLine_50 (by decide) ?_
      refine tr_icmp_ne (pc := 51) (tgt := 65) dX10_ofLine_51 (by decide) (nI_eq (by omega) (by omega)) (fun _ => ?_) (fun hcc => absurd hcc (by decide))
      refine tr_iconst (pc := 65) (v := nI 0) dX10_ofLine_65 (by decide) ?_
      refine tr_istore (pc := 66) (lv' := [(5, .int (nI 0)), (4, .int (nI ((gt P m i).1))), (0, rv a 50), (1, .int (nI m)), (2, .int (nI i)), (3, .int (nI 2))]) dX10_ofLine_66 (by decide) rfl ?_
      refine tr_iload (pc := 68) 0 dX10_ofLine_68 rfl ?_
      refine tr_if_eq (pc := 70) (tgt := 77) dX10_ofLine_70 (by decide) (nI_z_eq (by omega)) (fun _ => ?_) (fun hcc => absurd (by decide) hcc)
      refine tr_aload_n (pc := 77) 2 dX10_ofLine_77 rfl rfl ?_
      refine tr_iload_n (pc := 78) 3 dX10_ofLine_78 rfl rfl ?_
      refine tr_iload_n (pc := 79) 4 dX10_ofLine_79 rfl rfl ?_
      refine tr_iload_n (pc := 80) 5 dX10_ofLine_80 rfl rfl ?_
      refine tr_callV (pc := 81) (rest := []) (ci := 10) dX10_ofLine_81 ml_X10_178 cv_X10_lineAt rfl rfl (Nat.le_of_ble_eq_true rfl) (hS.1 50 (13, 45) rfl) rfl (by decide) (c_mline hS hV hN hi (show 2 < 4 by decide)) ?_
      rintro _ _ _ ⟨rfl, rfl, rfl⟩
      show T a 1 mX10_ofLine 84 [(5, .int (nI 0)), (4, .int (nI ((gt P m i).1))), (0, rv a 50), (1, .int (nI m)), (2, .int (nI i)), (3, .int (nI 2))] [.int (cmp (gt P m i) 2)] S h _
      exact tr_iret (pc := 84) dX10_ofLine_84 rfl rfl (⟨rfl, rfl, rfl⟩)
    · skip
      refine tr_iload (pc := 42) 0 dX10_ofLine_42 rfl ?_
      refine tr_bipush (pc := 44) (v := nI 7) dX10_ofLine_44 (by decide) ?_
      refine tr_icmp_lt (pc := 46) (tgt := 61) dX10_ofLine_46 (by decide) (nI_ltI (by omega) (by omega)) (fun q46 => ?_) (fun q46 => ?_)
      · skip
        refine tr_iconst (pc := 61) (v := nI 1) dX10_ofLine_61 (by decide) ?_
        refine tr_goto (pc := 62) (tgt := 66) dX10_ofLine_62 (by decide) ?_
        refine tr_istore (pc := 66) (lv' := [(5, .int (nI 1)), (4, .int (nI ((gt P m i).1))), (0, rv a 50), (1, .int (nI m)), (2, .int (nI i)), (3, .int (nI 2))]) dX10_ofLine_66 (by decide) rfl ?_
        refine tr_iload (pc := 68) 0 dX10_ofLine_68 rfl ?_
        refine tr_if_eq (pc := 70) (tgt := 77) dX10_ofLine_70 (by decide) (nI_z_eq (by omega)) (fun hcc => absurd hcc (by decide)) (fun _ => ?_)
        refine tr_iconst (pc := 73) (v := -1) dX10_ofLine_73 (by decide) ?_
        refine tr_goto (pc := 74) (tgt := 84) dX10_ofLine_74 (by decide) ?_
        exact tr_iret (pc := 84) dX10_ofLine_84 rfl rfl (by
            show Rt (cmp (gt P m i) 2) S h _ _ _
            rw [show cmp (gt P m i) 2 = -1 from if_neg (by simp [hasY]; omega)]; exact ⟨rfl, rfl, rfl⟩)
      · skip
        refine tr_iload_n (pc := 49) 4 dX10_ofLine_49 rfl rfl ?_
        refine tr_iconst (pc := 50) (v := nI 3) dX10_ofLine_50 (by decide) ?_
        refine tr_icmp_ne (pc := 51) (tgt := 65) dX10_ofLine_51 (by decide) (nI_eq (by omega) (by omega)) (fun _ => ?_) (fun hcc => absurd hcc (by decide))
        refine tr_iconst (pc := 65) (v := nI 0) dX10_ofLine_65 (by decide) ?_
        refine tr_istore (pc := 66) (lv' := [(5, .int (nI 0)), (4, .int (nI ((gt P m i).1))), (0, rv a 50), (1, .int (nI m)), (2, .int (nI i)), (3, .int (nI 2))]) dX10_ofLine_66 (by decide) rfl ?_
        refine tr_iload (pc := 68) 0 dX10_ofLine_68 rfl ?_
        refine tr_if_eq (pc := 70) (tgt := 77) dX10_ofLine_70 (by decide) (nI_z_eq (by omega)) (fun _ => ?_) (fun hcc => absurd (by decide) hcc)
        refine tr_aload_n (pc := 77) 2 dX10_ofLine_77 rfl rfl ?_
        refine tr_iload_n (pc := 78) 3 dX10_ofLine_78 rfl rfl ?_
        refine tr_iload_n (pc := 79) 4 dX10_ofLine_79 rfl rfl ?_
        refine tr_iload_n (pc := 80) 5 dX10_ofLine_80 rfl rfl ?_
        refine tr_callV (pc := 81) (rest := []) (ci := 10) dX10_ofLine_81 ml_X10_178 cv_X10_lineAt rfl rfl (Nat.le_of_ble_eq_true rfl) (hS.1 50 (13, 45) rfl) rfl (by decide) (c_mline hS hV hN hi (show 2 < 4 by decide)) ?_
        rintro _ _ _ ⟨rfl, rfl, rfl⟩
        show T a 1 mX10_ofLine 84 [(5, .int (nI 0)), (4, .int (nI ((gt P m i).1))), (0, rv a 50), (1, .int (nI m)), (2, .int (nI i)), (3, .int (nI 2))] [.int (cmp (gt P m i) 2)] S h _
        exact tr_iret (pc := 84) dX10_ofLine_84 rfl rfl (⟨rfl, rfl, rfl⟩)

set_option maxHeartbeats 4000000 in
set_option maxRecDepth 100000 in
theorem c_mline3 {a : Am} {S : St} {h : Hp} (hS : IsSt S) {P : Prog} (hV : VB P) (hN : NP h P) (hSN : SN h P) {m i : Nat} (hi : i < lnN P m) : CT a 1 mX10_ofLine [rv a 50, .int (nI m), .int (nI i), .int (nI 3)] S h (Rt (aLine P m i 3) S h) := by
  obtain ⟨hV1, hV2, hV3⟩ := id hV
  have hns := nSt_le hV
  have hm := lnN_lt hi
  have h8 := hV2 m
  have hok := hV3 m i hi
  obtain ⟨k1, k2, k3, k4⟩ := id hok
  refine met_of (by decide +kernel) (Nat.le_of_ble_eq_true rfl) ?_
  show T a 1 mX10_ofLine 0 [(0, rv a 50), (1, .int (nI m)), (2, .int (nI i)), (3, .int (nI 3))] [] S h _
  refine tr_iload_n (pc := 0) 3 dX10_ofLine_0 rfl rfl ?_
  refine tr_iconst (pc := 1) (v := nI 4) dX10_ofLine_1 (by decide) ?_
  refine tr_icmp_ne (pc := 2) (tgt := 17) dX10_ofLine_2 (by decide) (nI_eq (by omega) (by omega)) (fun _ => ?_) (fun hcc => absurd hcc (by decide))
  refine tr_aload_n (pc := 17) 0 dX10_ofLine_17 rfl rfl ?_
  refine tr_iload_n (pc := 18) 1 dX10_ofLine_18 rfl rfl ?_
  refine tr_iload_n (pc := 19) 2 dX10_ofLine_19 rfl rfl ?_
  refine tr_iconst (pc := 20) (v := nI 0) dX10_ofLine_20 (by decide) ?_
  refine tr_callV (pc := 21) (rest := []) (ci := 10) dX10_ofLine_21 ml_X10_178 cv_X10_lineAt rfl rfl (Nat.le_of_ble_eq_true rfl) (hS.1 50 (13, 45) rfl) rfl (by decide) (c_mline hS hV hN hi (show 0 < 4 by decide)) ?_
  rintro _ _ _ ⟨rfl, rfl, rfl⟩
  show T a 1 mX10_ofLine 24 [(0, rv a 50), (1, .int (nI m)), (2, .int (nI i)), (3, .int (nI 3))] [.int (nI ((gt P m i).1))] S h _
  refine tr_istore (pc := 24) (lv' := [(4, .int (nI ((gt P m i).1))), (0, rv a 50), (1, .int (nI m)), (2, .int (nI i)), (3, .int (nI 3))]) dX10_ofLine_24 (by decide) rfl ?_
  refine tr_iload_n (pc := 26) 4 dX10_ofLine_26 rfl rfl ?_
  refine tr_iconst (pc := 27) (v := nI 2) dX10_ofLine_27 (by decide) ?_
  refine tr_icmp_ne (pc := 28) (tgt := 49) dX10_ofLine_28 (by decide) (nI_eq (by omega) (by omega)) (fun _ => ?_) (fun hcc => absurd hcc (by decide))
  refine tr_iload_n (pc := 49) 4 dX10_ofLine_49 rfl rfl ?_
  refine tr_iconst (pc := 50) (v := nI 3) dX10_ofLine_50 (by decide) ?_
  refine tr_icmp_ne (pc := 51) (tgt := 65) dX10_ofLine_51 (by decide) (nI_eq (by omega) (by omega)) (fun hcc => absurd (by decide) hcc) (fun _ => ?_)
  refine tr_iload (pc := 54) 0 dX10_ofLine_54 rfl ?_
  refine tr_bipush (pc := 56) (v := nI 7) dX10_ofLine_56 (by decide) ?_
  refine tr_icmp_eq (pc := 58) (tgt := 65) dX10_ofLine_58 (by decide) (nI_eq (by omega) (by omega)) (fun q58 => ?_) (fun q58 => ?_)
  · skip
    refine tr_iconst (pc := 65) (v := nI 0) dX10_ofLine_65 (by decide) ?_
    refine tr_istore (pc := 66) (lv' := [(5, .int (nI 0)), (4, .int (nI ((gt P m i).1))), (0, rv a 50), (1, .int (nI m)), (2, .int (nI i)), (3, .int (nI 3))]) dX10_ofLine_66 (by decide) rfl ?_
    refine tr_iload (pc := 68) 0 dX10_ofLine_68 rfl ?_
    refine tr_if_eq (pc := 70) (tgt := 77) dX10_ofLine_70 (by decide) (nI_z_eq (by omega)) (fun _ => ?_) (fun hcc => absurd (by decide) hcc)
    refine tr_aload_n (pc := 77) 2 dX10_ofLine_77 rfl rfl ?_
    refine tr_iload_n (pc := 78) 3 dX10_ofLine_78 rfl rfl ?_
    refine tr_iload_n (pc := 79) 4 dX10_ofLine_79 rfl rfl ?_
    refine tr_iload_n (pc := 80) 5 dX10_ofLine_80 rfl rfl ?_
    refine tr_callV (pc := 81) (rest := []) (ci := 10) dX10_ofLine_81 ml_X10_178 cv_X10_lineAt rfl rfl (Nat.le_of_ble_eq_true rfl) (hS.1 50 (13, 45) rfl) rfl (by decide) (c_mline hS hV hN hi (show 3 < 4 by decide)) ?_
    rintro _ _ _ ⟨rfl, rfl, rfl⟩
    show T a 1 mX10_ofLine 84 [(5, .int (nI 0)), (4, .int (nI ((gt P m i).1))), (0, rv a 50), (1, .int (nI m)), (2, .int (nI i)), (3, .int (nI 3))] [.int (cmp (gt P m i) 3)] S h _
    exact tr_iret (pc := 84) dX10_ofLine_84 rfl rfl (⟨rfl, rfl, rfl⟩)
  · skip
    refine tr_iconst (pc := 61) (v := nI 1) dX10_ofLine_61 (by decide) ?_
    refine tr_goto (pc := 62) (tgt := 66) dX10_ofLine_62 (by decide) ?_
    refine tr_istore (pc := 66) (lv' := [(5, .int (nI 1)), (4, .int (nI ((gt P m i).1))), (0, rv a 50), (1, .int (nI m)), (2, .int (nI i)), (3, .int (nI 3))]) dX10_ofLine_66 (by decide) rfl ?_
    refine tr_iload (pc := 68) 0 dX10_ofLine_68 rfl ?_
    refine tr_if_eq (pc := 70) (tgt := 77) dX10_ofLine_70 (by decide) (nI_z_eq (by omega)) (fun hcc => absurd hcc (by decide)) (fun _ => ?_)
    refine tr_iconst (pc := 73) (v := -1) dX10_ofLine_73 (by decide) ?_
    refine tr_goto (pc := 74) (tgt := 84) dX10_ofLine_74 (by decide) ?_
    exact tr_iret (pc := 84) dX10_ofLine_84 rfl rfl (by
        show Rt (cmp (gt P m i) 3) S h _ _ _
        rw [show cmp (gt P m i) 3 = -1 from if_neg (by omega)]; exact ⟨rfl, rfl, rfl⟩)

set_option maxHeartbeats 4000000 in
set_option maxRecDepth 100000 in
theorem c_mline4 {a : Am} {S : St} {h : Hp} (hS : IsSt S) {P : Prog} (hV : VB P) (hN : NP h P) (hSN : SN h P) {m i : Nat} (hi : i < lnN P m) : CT a 1 mX10_ofLine [rv a 50, .int (nI m), .int (nI i), .int (nI 4)] S h (Rt (aLine P m i 4) S h) := by
  obtain ⟨hV1, hV2, hV3⟩ := id hV
  have hns := nSt_le hV
  have hm := lnN_lt hi
  have h8 := hV2 m
  have hok := hV3 m i hi
  obtain ⟨k1, k2, k3, k4⟩ := id hok
  refine met_of (by decide +kernel) (Nat.le_of_ble_eq_true rfl) ?_
  show T a 1 mX10_ofLine 0 [(0, rv a 50), (1, .int (nI m)), (2, .int (nI i)), (3, .int (nI 4))] [] S h _
  refine tr_iload_n (pc := 0) 3 dX10_ofLine_0 rfl rfl ?_
  refine tr_iconst (pc := 1) (v := nI 4) dX10_ofLine_1 (by decide) ?_
  refine tr_icmp_ne (pc := 2) (tgt := 17) dX10_ofLine_2 (by decide) (nI_eq (by omega) (by omega)) (fun hcc => absurd (by decide) hcc) (fun _ => ?_)
  refine tr_aload_n (pc := 5) 0 dX10_ofLine_5 rfl rfl ?_
  refine tr_getR (pc := 6) (q := 60) dX10_ofLine_6 (hS.1 50 (13, 45) rfl) fi_X10_37 rfl (hS.2 50 19 60 rfl) ?_
  refine tr_bipush (pc := 9) (v := nI 8) dX10_ofLine_9 (by decide) ?_
  refine tr_iload_n (pc := 11) 1 dX10_ofLine_11 rfl rfl ?_
  refine tr_imul (pc := 12) (v := nI (8 * m)) dX10_ofLine_12 (pk_mul _ _) ?_
  refine tr_iload_n (pc := 13) 2 dX10_ofLine_13 rfl rfl ?_
  refine tr_iadd (pc := 14) (v := nI (8 * m + i)) dX10_ofLine_14 (nI_add _ _) ?_
  refine tr_iald (pc := 15) (v := siteAt P m i) (8 * m + i) dX10_ofLine_15 (hS.1 60 (0, 32) rfl) rfl (by omega) (by decide) (hSN.2.2 m i hi) ?_
  exact tr_iret (pc := 16) dX10_ofLine_16 rfl rfl (⟨rfl, rfl, rfl⟩)

set_option maxHeartbeats 4000000 in
set_option maxRecDepth 100000 in
theorem c_msite0 {a : Am} {S : St} {h : Hp} (hS : IsSt S) {P : Prog} (hV : VB P) (hN : NP h P) (hSN : SN h P) (hM : MN h (mayV P, false)) {s : Nat} (hs : s < nSt P) : CT a 4 mX10_ofSite [rv a 50, .int (nI s), .int (nI 0)] S h (Rt (aSite P s 0) S h) := by
  obtain ⟨hV1, hV2, hV3⟩ := id hV
  have hns := nSt_le hV
  refine met_of (by decide +kernel) (Nat.le_of_ble_eq_true rfl) ?_
  show T a 4 mX10_ofSite 0 [(0, rv a 50), (1, .int (nI s)), (2, .int (nI 0))] [] S h _
  refine tr_iload_n (pc := 0) 2 dX10_ofSite_0 rfl rfl ?_
  refine tr_if_ne (pc := 1) (tgt := 13) dX10_ofSite_1 (by decide) (nI_z_eq (by omega)) (fun hcc => absurd (by decide) hcc) (fun _ => ?_)
  refine tr_aload_n (pc := 4) 0 dX10_ofSite_4 rfl rfl ?_
  refine tr_getR (pc := 5) (q := 58) dX10_ofSite_5 (hS.1 50 (13, 45) rfl) fi_X10_31 rfl (hS.2 50 17 58 rfl) ?_
  refine tr_iload_n (pc := 8) 1 dX10_ofSite_8 rfl rfl ?_
  refine tr_iald (pc := 9) (v := nI (sM P s)) s dX10_ofSite_9 (hS.1 58 (0, 32) rfl) rfl (by omega) (by decide) (hSN.2.1 s hs).1 ?_
  refine tr_goto (pc := 10) (tgt := 49) dX10_ofSite_10 (by decide) ?_
  exact tr_iret (pc := 49) dX10_ofSite_49 rfl rfl (⟨rfl, rfl, rfl⟩)

set_option maxHeartbeats 4000000 in
set_option maxRecDepth 100000 in
theorem c_msite1 {a : Am} {S : St} {h : Hp} (hS : IsSt S) {P : Prog} (hV : VB P) (hN : NP h P) (hSN : SN h P) (hM : MN h (mayV P, false)) {s : Nat} (hs : s < nSt P) : CT a 4 mX10_ofSite [rv a 50, .int (nI s), .int (nI 1)] S h (Rt (aSite P s 1) S h) := by
  obtain ⟨hV1, hV2, hV3⟩ := id hV
  have hns := nSt_le hV
  refine met_of (by decide +kernel) (Nat.le_of_ble_eq_true rfl) ?_
  show T a 4 mX10_ofSite 0 [(0, rv a 50), (1, .int (nI s)), (2, .int (nI 1))] [] S h _
  refine tr_iload_n (pc := 0) 2 dX10_ofSite_0 rfl rfl ?_
  refine tr_if_ne (pc := 1) (tgt := 13) dX10_ofSite_1 (by decide) (nI_z_eq (by omega)) (fun _ => ?_) (fun hcc => absurd hcc (by decide))
  refine tr_iload_n (pc := 13) 2 dX10_ofSite_13 rfl rfl ?_
  refine tr_iconst (pc := 14) (v := nI 1) dX10_ofSite_14 (by decide) ?_
  refine tr_icmp_ne (pc := 15) (tgt := 27) dX10_ofSite_15 (by decide) (nI_eq (by omega) (by omega)) (fun hcc => absurd (by decide) hcc) (fun _ => ?_)
  refine tr_aload_n (pc := 18) 0 dX10_ofSite_18 rfl rfl ?_
  refine tr_getR (pc := 19) (q := 59) dX10_ofSite_19 (hS.1 50 (13, 45) rfl) fi_X10_34 rfl (hS.2 50 18 59 rfl) ?_
  refine tr_iload_n (pc := 22) 1 dX10_ofSite_22 rfl rfl ?_
  refine tr_iald (pc := 23) (v := nI (sI P s)) s dX10_ofSite_23 (hS.1 59 (0, 32) rfl) rfl (by omega) (by decide) (hSN.2.1 s hs).2 ?_
  refine tr_goto (pc := 24) (tgt := 49) dX10_ofSite_24 (by decide) ?_
  exact tr_iret (pc := 49) dX10_ofSite_49 rfl rfl (⟨rfl, rfl, rfl⟩)

set_option maxHeartbeats 4000000 in
set_option maxRecDepth 100000 in
theorem c_msite2 {a : Am} {S : St} {h : Hp} (hS : IsSt S) {P : Prog} (hV : VB P) (hN : NP h P) (hSN : SN h P) (hM : MN h (mayV P, false)) {s : Nat} (hs : s < nSt P) : CT a 4 mX10_ofSite [rv a 50, .int (nI s), .int (nI 2)] S h (Rt (aSite P s 2) S h) := by
  obtain ⟨hV1, hV2, hV3⟩ := id hV
  have hns := nSt_le hV
  refine met_of (by decide +kernel) (Nat.le_of_ble_eq_true rfl) ?_
  show T a 4 mX10_ofSite 0 [(0, rv a 50), (1, .int (nI s)), (2, .int (nI 2))] [] S h _
  refine tr_iload_n (pc := 0) 2 dX10_ofSite_0 rfl rfl ?_
  refine tr_if_ne (pc := 1) (tgt := 13) dX10_ofSite_1 (by decide) (nI_z_eq (by omega)) (fun _ => ?_) (fun hcc => absurd hcc (by decide))
  refine tr_iload_n (pc := 13) 2 dX10_ofSite_13 rfl rfl ?_
  refine tr_iconst (pc := 14) (v := nI 1) dX10_ofSite_14 (by decide) ?_
  refine tr_icmp_ne (pc := 15) (tgt := 27) dX10_ofSite_15 (by decide) (nI_eq (by omega) (by omega)) (fun _ => ?_) (fun hcc => absurd hcc (by decide))
  refine tr_iload_n (pc := 27) 2 dX10_ofSite_27 rfl rfl ?_
  refine tr_iconst (pc := 28) (v := nI 2) dX10_ofSite_28 (by decide) ?_
  refine tr_icmp_ne (pc := 29) (tgt := 40) dX10_ofSite_29 (by decide) (nI_eq (by omega) (by omega)) (fun hcc => absurd (by decide) hcc) (fun _ => ?_)
  refine tr_aload_n (pc := 32) 0 dX10_ofSite_32 rfl rfl ?_
  refine tr_iload_n (pc := 33) 1 dX10_ofSite_33 rfl rfl ?_
  refine tr_callV (pc := 34) (rest := []) (ci := 10) dX10_ofSite_34 ml_X10_205 cv_X10_fateOf rfl rfl (Nat.le_of_ble_eq_true rfl) (hS.1 50 (13, 45) rfl) rfl (by decide) (c_mfate hS hV hN hSN hM hs) ?_
  rintro _ _ _ ⟨rfl, rfl, rfl⟩
  show T a 4 mX10_ofSite 37 [(0, rv a 50), (1, .int (nI s)), (2, .int (nI 2))] [.int (nI (fate P s))] S h _
  refine tr_goto (pc := 37) (tgt := 49) dX10_ofSite_37 (by decide) ?_
  exact tr_iret (pc := 49) dX10_ofSite_49 rfl rfl (⟨rfl, rfl, rfl⟩)

set_option maxHeartbeats 4000000 in
set_option maxRecDepth 100000 in
theorem c_msite3 {a : Am} {S : St} {h : Hp} (hS : IsSt S) {P : Prog} (hV : VB P) (hN : NP h P) (hSN : SN h P) (hM : MN h (mayV P, false)) {s : Nat} (hs : s < nSt P) : CT a 4 mX10_ofSite [rv a 50, .int (nI s), .int (nI 3)] S h (Rt (aSite P s 3) S h) := by
  obtain ⟨hV1, hV2, hV3⟩ := id hV
  have hns := nSt_le hV
  refine met_of (by decide +kernel) (Nat.le_of_ble_eq_true rfl) ?_
  show T a 4 mX10_ofSite 0 [(0, rv a 50), (1, .int (nI s)), (2, .int (nI 3))] [] S h _
  refine tr_iload_n (pc := 0) 2 dX10_ofSite_0 rfl rfl ?_
  refine tr_if_ne (pc := 1) (tgt := 13) dX10_ofSite_1 (by decide) (nI_z_eq (by omega)) (fun _ => ?_) (fun hcc => absurd hcc (by decide))
  refine tr_iload_n (pc := 13) 2 dX10_ofSite_13 rfl rfl ?_
  refine tr_iconst (pc := 14) (v := nI 1) dX10_ofSite_14 (by decide) ?_
  refine tr_icmp_ne (pc := 15) (tgt := 27) dX10_ofSite_15 (by decide) (nI_eq (by omega) (by omega)) (fun _ => ?_) (fun hcc => absurd hcc (by decide))
  refine tr_iload_n (pc := 27) 2 dX10_ofSite_27 rfl rfl ?_
  refine tr_iconst (pc := 28) (v := nI 2) dX10_ofSite_28 (by decide) ?_
  refine tr_icmp_ne (pc := 29) (tgt := 40) dX10_ofSite_29 (by decide) (nI_eq (by omega) (by omega)) (fun _ => ?_) (fun hcc => absurd hcc (by decide))
  refine tr_aload_n (pc := 40) 0 dX10_ofSite_40 rfl rfl ?_
  refine tr_getR (pc := 41) (q := 61) dX10_ofSite_41 (hS.1 50 (13, 45) rfl) fi_X10_40 rfl (hS.2 50 21 61 rfl) ?_
  refine tr_bipush (pc := 44) (v := nI 17) dX10_ofSite_44 (by decide) ?_
  refine tr_iload_n (pc := 46) 1 dX10_ofSite_46 rfl rfl ?_
  refine tr_iadd (pc := 47) (v := nI (17 + s)) dX10_ofSite_47 (nI_add _ _) ?_
  refine tr_iald (pc := 48) (v := mayV P (17 + s)) (17 + s) dX10_ofSite_48 (hS.1 61 (0, 49) rfl) rfl (by omega) (by decide) (hM.1 (17 + s) (by omega)) ?_
  exact tr_iret (pc := 49) dX10_ofSite_49 rfl rfl (⟨rfl, rfl, rfl⟩)

/-- what the class has found of its methods -/
def Fnd (h : Hp) (P : Prog) : Prop := SC h P ∧ MC h (mayV P) ∧ FC h P
theorem Fnd.fr {L : List Nat} {h h' : Hp} {P : Prog} (k : Fnd h P) (hF : Fr L h h') (hL : ∀ o, o ∈ [31, 32, 33, 34, 35, 36, 37, 39, 40] → o ∉ L) : Fnd h' P :=
  ⟨k.1.fr hF (hL _ (by decide)) (hL _ (by decide)) (hL _ (by decide)) (hL _ (by decide)), k.2.1.fr hF (hL _ (by decide)) (hL _ (by decide)) (hL _ (by decide)), k.2.2.fr hF (hL _ (by decide)) (hL _ (by decide))⟩
set_option maxHeartbeats 4000000 in
set_option maxRecDepth 100000 in
theorem c_findMays {a : Am} {S : St} {h : Hp} (hS : IsSt S) {P : Prog} (hVP : VP P) (hMP : MP h 3 P) (hg : h 0 12 = nI 0 ∨ h 0 12 = nI 1 ∧ Fnd h P) : CT a 6 mX9_findMays [rv a 0] S h (fun v S' h' => v = none ∧ S = S' ∧ h' 0 12 = nI 1 ∧ Fnd h' P ∧ Fo 0 [12] [31, 32, 33, 34, 35, 36, 37, 39, 40] h h') := by
  obtain ⟨hV, hVC⟩ := id hVP
  refine met_of (by decide +kernel) (Nat.le_of_ble_eq_true rfl) ?_
  show T a 6 mX9_findMays 0 [(0, rv a 0)] [] S h _
  rcases hg with hg | hg
  · skip
    refine tr_aload_n (pc := 0) 0 dX9_findMays_0 rfl rfl ?_
    refine tr_getI (pc := 1) (x := nI 0) dX9_findMays_1 (hS.1 0 (12, 14) rfl) fi_X9_275 rfl hg ?_
    refine tr_if_ne (pc := 4) (tgt := 37) dX9_findMays_4 (by decide) (nI_z_eq (by omega)) (fun hcc => absurd (by decide) hcc) (fun _ => ?_)
    refine tr_aload_n (pc := 7) 0 dX9_findMays_7 rfl rfl ?_
    refine tr_getR (pc := 8) (q := 31) dX9_findMays_8 (hS.1 0 (12, 14) rfl) fi_X9_45 rfl (hS.2 0 5 31 rfl) ?_
    refine tr_aload_n (pc := 11) 0 dX9_findMays_11 rfl rfl ?_
    refine tr_getR (pc := 12) (q := 3) dX9_findMays_12 (hS.1 0 (12, 14) rfl) fi_X9_19 rfl (hS.2 0 1 3 rfl) ?_
    refine tr_callV (pc := 15) (rest := []) (ci := 4) dX9_findMays_15 ml_X9_282 cv_X4_number rfl rfl (Nat.le_of_ble_eq_true rfl) (hS.1 31 (7, 4) rfl) rfl (by decide) (c_number hS hV hMP) ?_
    rintro v1 S1 h1 ⟨rfl, rfl, hC1, hf1⟩
    show T a 6 mX9_findMays 18 [(0, rv a 0)] [] S h1 _
    refine tr_aload_n (pc := 18) 0 dX9_findMays_18 rfl rfl ?_
    refine tr_getR (pc := 19) (q := 35) dX9_findMays_19 (hS.1 0 (12, 14) rfl) fi_X9_54 rfl (hS.2 0 6 35 rfl) ?_
    refine tr_callV (pc := 22) (rest := []) (ci := 1) dX9_findMays_22 ml_X9_285 cv_X1_find rfl rfl (Nat.le_of_ble_eq_true rfl) (hS.1 35 (4, 6) rfl) rfl (by decide) (c_find hS hVP (hMP.fr hf1 (by decide) (by decide) (by decide)) hC1) ?_
    rintro v1 S1 h2 ⟨rfl, rfl, hM2, hf2⟩
    show T a 6 mX9_findMays 25 [(0, rv a 0)] [] S h2 _
    refine tr_aload_n (pc := 25) 0 dX9_findMays_25 rfl rfl ?_
    refine tr_getR (pc := 26) (q := 38) dX9_findMays_26 (hS.1 0 (12, 14) rfl) fi_X9_63 rfl (hS.2 0 7 38 rfl) ?_
    refine tr_callV (pc := 29) (rest := []) (ci := 0) dX9_findMays_29 ml_X9_288 cv_X0_find rfl rfl (Nat.le_of_ble_eq_true rfl) (hS.1 38 (3, 5) rfl) rfl (by decide) (c_ffind hS hV (hMP.fr ((hf1.mono (by decide)).trans (hf2.mono (by decide)) : Fr [31, 32, 33, 34, 35, 36, 37] h h2) (by decide) (by decide) (by decide)) (hC1.fr hf2 (by decide) (by decide) (by decide) (by decide)) hM2) ?_
    rintro v1 S1 h3 ⟨rfl, rfl, hF3, hf3⟩
    have hfx : Fr [0, 35, 36, 37, 39, 40] h1 (hs h3 0 (upd (h3 0) 12 (nI 1))) := ((hf2.mono (by decide)).trans (hf3.mono (by decide))).hs (by decide)
    have hfx2 : Fr [0, 39, 40] h2 (hs h3 0 (upd (h3 0) 12 (nI 1))) := (hf3.mono (by decide)).hs (by decide)
    show T a 6 mX9_findMays 32 [(0, rv a 0)] [] S h3 _
    refine tr_aload_n (pc := 32) 0 dX9_findMays_32 rfl rfl ?_
    refine tr_iconst (pc := 33) (v := nI 1) dX9_findMays_33 (by decide) ?_
    refine tr_putI (pc := 34) (x := nI 1) dX9_findMays_34 (hS.1 0 (12, 14) rfl) fi_X9_275 rfl (by decide) (by decide) ?_
    exact tr_vret (pc := 37) dX9_findMays_37 rfl (⟨rfl, rfl, rfl, ⟨hC1.fr hfx (by decide) (by decide) (by decide) (by decide), hM2.fr hfx2 (by decide) (by decide) (by decide), hF3⟩, (((hf1.mono (by decide)).trans ((hf2.mono (by decide)).trans (hf3.mono (by decide)))).fo (by decide)).put (by decide)⟩)
  · skip
    refine tr_aload_n (pc := 0) 0 dX9_findMays_0 rfl rfl ?_
    refine tr_getI (pc := 1) (x := nI 1) dX9_findMays_1 (hS.1 0 (12, 14) rfl) fi_X9_275 rfl hg.1 ?_
    refine tr_if_ne (pc := 4) (tgt := 37) dX9_findMays_4 (by decide) (nI_z_eq (by omega)) (fun _ => ?_) (fun hcc => absurd hcc (by decide))
    exact tr_vret (pc := 37) dX9_findMays_37 rfl (⟨rfl, rfl, hg.1, hg.2, Fo.rf⟩)

set_option maxHeartbeats 4000000 in
set_option maxRecDepth 100000 in
theorem c_of0 {a : Am} {S : St} {h : Hp} (hS : IsSt S) {P : Prog} (hV : VB P) (hMP : MP h 3 P) (hFn : Fnd h P) {m : Nat} (hm : m < P.length) : CT a 3 mX9_ofMethod [rv a 0, .int (nI m), .int (nI 0)] S h (Rt (aOf P m 0) S h) := by
  have hO := mo_3 hS
  refine met_of (by decide +kernel) (Nat.le_of_ble_eq_true rfl) ?_
  show T a 3 mX9_ofMethod 0 [(0, rv a 0), (1, .int (nI m)), (2, .int (nI 0))] [] S h _
  refine tr_iload_n (pc := 0) 2 dX9_ofMethod_0 rfl rfl ?_
  refine tr_tabIn (pc := 1) (off := 31) (tgt := 32) dX9_ofMethod_1 (by decide) (by decide) (by decide) (by decide) ?_
  refine tr_aload_n (pc := 32) 0 dX9_ofMethod_32 rfl rfl ?_
  refine tr_getR (pc := 33) (q := 3) dX9_ofMethod_33 (hS.1 0 (12, 14) rfl) fi_X9_19 rfl (hS.2 0 1 3 rfl) ?_
  refine tr_iload_n (pc := 36) 1 dX9_ofMethod_36 rfl rfl ?_
  refine tr_callV (pc := 37) (rest := []) (ci := 2) dX9_ofMethod_37 ml_X9_121 cv_X2_lines rfl rfl (Nat.le_of_ble_eq_true rfl) (hS.1 3 (5, 3) rfl) rfl (by decide) (c_lines_in hO hMP hV hm) ?_
  rintro _ _ _ ⟨rfl, rfl, rfl⟩
  show T a 3 mX9_ofMethod 40 [(0, rv a 0), (1, .int (nI m)), (2, .int (nI 0))] [.int (nI (lnN P m))] S h _
  exact tr_iret (pc := 40) dX9_ofMethod_40 rfl rfl (⟨rfl, rfl, rfl⟩)

set_option maxHeartbeats 4000000 in
set_option maxRecDepth 100000 in
theorem c_of1 {a : Am} {S : St} {h : Hp} (hS : IsSt S) {P : Prog} (hV : VB P) (hMP : MP h 3 P) (hFn : Fnd h P) {m : Nat} (hm : m < P.length) : CT a 3 mX9_ofMethod [rv a 0, .int (nI m), .int (nI 1)] S h (Rt (aOf P m 1) S h) := by
  have hO := mo_3 hS
  refine met_of (by decide +kernel) (Nat.le_of_ble_eq_true rfl) ?_
  show T a 3 mX9_ofMethod 0 [(0, rv a 0), (1, .int (nI m)), (2, .int (nI 1))] [] S h _
  refine tr_iload_n (pc := 0) 2 dX9_ofMethod_0 rfl rfl ?_
  refine tr_tabIn (pc := 1) (off := 40) (tgt := 41) dX9_ofMethod_1 (by decide) (by decide) (by decide) (by decide) ?_
  refine tr_aload_n (pc := 41) 0 dX9_ofMethod_41 rfl rfl ?_
  refine tr_getR (pc := 42) (q := 31) dX9_ofMethod_42 (hS.1 0 (12, 14) rfl) fi_X9_45 rfl (hS.2 0 5 31 rfl) ?_
  refine tr_iload_n (pc := 45) 1 dX9_ofMethod_45 rfl rfl ?_
  refine tr_callV (pc := 46) (rest := []) (ci := 4) dX9_ofMethod_46 ml_X9_195 cv_X4_inMethod rfl rfl (Nat.le_of_ble_eq_true rfl) (hS.1 31 (7, 4) rfl) rfl (by decide) (c_inMethod hS hV hFn.1 hm) ?_
  rintro _ _ _ ⟨rfl, rfl, rfl⟩
  show T a 3 mX9_ofMethod 49 [(0, rv a 0), (1, .int (nI m)), (2, .int (nI 1))] [.int (nI ((sitesM P m (lnN P m)).length))] S h _
  exact tr_iret (pc := 49) dX9_ofMethod_49 rfl rfl (⟨rfl, rfl, rfl⟩)

set_option maxHeartbeats 4000000 in
set_option maxRecDepth 100000 in
theorem c_of2 {a : Am} {S : St} {h : Hp} (hS : IsSt S) {P : Prog} (hV : VB P) (hMP : MP h 3 P) (hFn : Fnd h P) {m : Nat} (hm : m < P.length) : CT a 3 mX9_ofMethod [rv a 0, .int (nI m), .int (nI 2)] S h (Rt (aOf P m 2) S h) := by
  have hO := mo_3 hS
  refine met_of (by decide +kernel) (Nat.le_of_ble_eq_true rfl) ?_
  show T a 3 mX9_ofMethod 0 [(0, rv a 0), (1, .int (nI m)), (2, .int (nI 2))] [] S h _
  refine tr_iload_n (pc := 0) 2 dX9_ofMethod_0 rfl rfl ?_
  refine tr_tabIn (pc := 1) (off := 49) (tgt := 50) dX9_ofMethod_1 (by decide) (by decide) (by decide) (by decide) ?_
  refine tr_aload_n (pc := 50) 0 dX9_ofMethod_50 rfl rfl ?_
  refine tr_getR (pc := 51) (q := 38) dX9_ofMethod_51 (hS.1 0 (12, 14) rfl) fi_X9_63 rfl (hS.2 0 7 38 rfl) ?_
  refine tr_iload_n (pc := 54) 1 dX9_ofMethod_54 rfl rfl ?_
  refine tr_callV (pc := 55) (rest := []) (ci := 0) dX9_ofMethod_55 ml_X9_198 cv_X0_keptIn rfl rfl (Nat.le_of_ble_eq_true rfl) (hS.1 38 (3, 5) rfl) rfl (by decide) (c_keptIn hS hV hFn.2.2 hFn.1 hm) ?_
  rintro _ _ _ ⟨rfl, rfl, rfl⟩
  show T a 3 mX9_ofMethod 58 [(0, rv a 0), (1, .int (nI m)), (2, .int (nI 2))] [.int (nI (cntG (fun s => decide (sM P s = m ∧ fate P s = 0)) (nSt P)))] S h _
  exact tr_iret (pc := 58) dX9_ofMethod_58 rfl rfl (⟨rfl, rfl, rfl⟩)

set_option maxHeartbeats 4000000 in
set_option maxRecDepth 100000 in
theorem c_of3 {a : Am} {S : St} {h : Hp} (hS : IsSt S) {P : Prog} (hV : VB P) (hMP : MP h 3 P) (hFn : Fnd h P) {m : Nat} (hm : m < P.length) : CT a 3 mX9_ofMethod [rv a 0, .int (nI m), .int (nI 3)] S h (Rt (aOf P m 3) S h) := by
  have hO := mo_3 hS
  refine met_of (by decide +kernel) (Nat.le_of_ble_eq_true rfl) ?_
  show T a 3 mX9_ofMethod 0 [(0, rv a 0), (1, .int (nI m)), (2, .int (nI 3))] [] S h _
  refine tr_iload_n (pc := 0) 2 dX9_ofMethod_0 rfl rfl ?_
  refine tr_tabIn (pc := 1) (off := 58) (tgt := 59) dX9_ofMethod_1 (by decide) (by decide) (by decide) (by decide) ?_
  refine tr_aload_n (pc := 59) 0 dX9_ofMethod_59 rfl rfl ?_
  refine tr_getR (pc := 60) (q := 38) dX9_ofMethod_60 (hS.1 0 (12, 14) rfl) fi_X9_63 rfl (hS.2 0 7 38 rfl) ?_
  refine tr_iload_n (pc := 63) 1 dX9_ofMethod_63 rfl rfl ?_
  refine tr_callV (pc := 64) (rest := []) (ci := 0) dX9_ofMethod_64 ml_X9_201 cv_X0_idleLines rfl rfl (Nat.le_of_ble_eq_true rfl) (hS.1 38 (3, 5) rfl) rfl (by decide) (c_fidle hS hV hFn.2.2 hm) ?_
  rintro _ _ _ ⟨rfl, rfl, rfl⟩
  show T a 3 mX9_ofMethod 67 [(0, rv a 0), (1, .int (nI m)), (2, .int (nI 3))] [.int (idl P m)] S h _
  exact tr_iret (pc := 67) dX9_ofMethod_67 rfl rfl (⟨rfl, rfl, rfl⟩)

set_option maxHeartbeats 4000000 in
set_option maxRecDepth 100000 in
theorem c_of4 {a : Am} {S : St} {h : Hp} (hS : IsSt S) {P : Prog} (hV : VB P) (hMP : MP h 3 P) (hFn : Fnd h P) {m : Nat} (hm : m < P.length) : CT a 3 mX9_ofMethod [rv a 0, .int (nI m), .int (nI 4)] S h (Rt (aOf P m 4) S h) := by
  have hO := mo_3 hS
  refine met_of (by decide +kernel) (Nat.le_of_ble_eq_true rfl) ?_
  show T a 3 mX9_ofMethod 0 [(0, rv a 0), (1, .int (nI m)), (2, .int (nI 4))] [] S h _
  refine tr_iload_n (pc := 0) 2 dX9_ofMethod_0 rfl rfl ?_
  refine tr_tabOut (pc := 1) (tgt := 68) dX9_ofMethod_1 (by decide) (by decide) ?_
  refine tr_aload_n (pc := 68) 0 dX9_ofMethod_68 rfl rfl ?_
  refine tr_getR (pc := 69) (q := 3) dX9_ofMethod_69 (hS.1 0 (12, 14) rfl) fi_X9_19 rfl (hS.2 0 1 3 rfl) ?_
  refine tr_iload_n (pc := 72) 1 dX9_ofMethod_72 rfl rfl ?_
  refine tr_callV (pc := 73) (rest := []) (ci := 2) dX9_ofMethod_73 ml_X9_204 cv_X2_calledBy rfl rfl (Nat.le_of_ble_eq_true rfl) (hS.1 3 (5, 3) rfl) rfl (by decide) (c_calledBy hO hMP hV hm) ?_
  rintro _ _ _ ⟨rfl, rfl, rfl⟩
  show T a 3 mX9_ofMethod 76 [(0, rv a 0), (1, .int (nI m)), (2, .int (nI 4))] [.int (cbF P m (lnN P m))] S h _
  exact tr_iret (pc := 76) dX9_ofMethod_76 rfl rfl (⟨rfl, rfl, rfl⟩)

set_option maxHeartbeats 4000000 in
set_option maxRecDepth 100000 in
theorem c_line0 {a : Am} {S : St} {h : Hp} (hS : IsSt S) {P : Prog} (hV : VB P) (hMP : MP h 3 P) (hFn : Fnd h P) {m i : Nat} (hi : i < lnN P m) : CT a 3 mX9_ofLine [rv a 0, .int (nI m), .int (nI i), .int (nI 0)] S h (Rt (aLine P m i 0) S h) := by
  have hO := mo_3 hS
  obtain ⟨k1, k2, k3, k4⟩ := hV.2.2 m i hi
  refine met_of (by decide +kernel) (Nat.le_of_ble_eq_true rfl) ?_
  show T a 3 mX9_ofLine 0 [(0, rv a 0), (1, .int (nI m)), (2, .int (nI i)), (3, .int (nI 0))] [] S h _
  refine tr_iload_n (pc := 0) 3 dX9_ofLine_0 rfl rfl ?_
  refine tr_tabIn (pc := 1) (off := 31) (tgt := 32) dX9_ofLine_1 (by decide) (by decide) (by decide) (by decide) ?_
  refine tr_aload_n (pc := 32) 0 dX9_ofLine_32 rfl rfl ?_
  refine tr_getR (pc := 33) (q := 3) dX9_ofLine_33 (hS.1 0 (12, 14) rfl) fi_X9_19 rfl (hS.2 0 1 3 rfl) ?_
  refine tr_iload_n (pc := 36) 1 dX9_ofLine_36 rfl rfl ?_
  refine tr_iload_n (pc := 37) 2 dX9_ofLine_37 rfl rfl ?_
  refine tr_callV (pc := 38) (rest := []) (ci := 2) dX9_ofLine_38 ml_X9_207 cv_X2_sort rfl rfl (Nat.le_of_ble_eq_true rfl) (hS.1 3 (5, 3) rfl) rfl (by decide) (c_sort hO hMP hV hi) ?_
  rintro _ _ _ ⟨rfl, rfl, rfl⟩
  show T a 3 mX9_ofLine 41 [(0, rv a 0), (1, .int (nI m)), (2, .int (nI i)), (3, .int (nI 0))] [.int (nI ((gt P m i).1))] S h _
  exact tr_iret (pc := 41) dX9_ofLine_41 rfl rfl (⟨rfl, rfl, rfl⟩)

set_option maxHeartbeats 4000000 in
set_option maxRecDepth 100000 in
theorem c_line1 {a : Am} {S : St} {h : Hp} (hS : IsSt S) {P : Prog} (hV : VB P) (hMP : MP h 3 P) (hFn : Fnd h P) {m i : Nat} (hi : i < lnN P m) : CT a 3 mX9_ofLine [rv a 0, .int (nI m), .int (nI i), .int (nI 1)] S h (Rt (aLine P m i 1) S h) := by
  have hO := mo_3 hS
  obtain ⟨k1, k2, k3, k4⟩ := hV.2.2 m i hi
  refine met_of (by decide +kernel) (Nat.le_of_ble_eq_true rfl) ?_
  show T a 3 mX9_ofLine 0 [(0, rv a 0), (1, .int (nI m)), (2, .int (nI i)), (3, .int (nI 1))] [] S h _
  refine tr_iload_n (pc := 0) 3 dX9_ofLine_0 rfl rfl ?_
  refine tr_tabIn (pc := 1) (off := 41) (tgt := 42) dX9_ofLine_1 (by decide) (by decide) (by decide) (by decide) ?_
  refine tr_aload_n (pc := 42) 0 dX9_ofLine_42 rfl rfl ?_
  refine tr_getR (pc := 43) (q := 3) dX9_ofLine_43 (hS.1 0 (12, 14) rfl) fi_X9_19 rfl (hS.2 0 1 3 rfl) ?_
  refine tr_iload_n (pc := 46) 1 dX9_ofLine_46 rfl rfl ?_
  refine tr_iload_n (pc := 47) 2 dX9_ofLine_47 rfl rfl ?_
  refine tr_callV (pc := 48) (rest := []) (ci := 2) dX9_ofLine_48 ml_X9_210 cv_X2_name rfl rfl (Nat.le_of_ble_eq_true rfl) (hS.1 3 (5, 3) rfl) rfl (by decide) (c_name hO hMP hV hi) ?_
  rintro _ _ _ ⟨rfl, rfl, rfl⟩
  show T a 3 mX9_ofLine 51 [(0, rv a 0), (1, .int (nI m)), (2, .int (nI i)), (3, .int (nI 1))] [.int (nI ((gt P m i).2.1))] S h _
  exact tr_iret (pc := 51) dX9_ofLine_51 rfl rfl (⟨rfl, rfl, rfl⟩)

set_option maxHeartbeats 4000000 in
set_option maxRecDepth 100000 in
theorem c_line2 {a : Am} {S : St} {h : Hp} (hS : IsSt S) {P : Prog} (hV : VB P) (hMP : MP h 3 P) (hFn : Fnd h P) {m i : Nat} (hi : i < lnN P m) : CT a 3 mX9_ofLine [rv a 0, .int (nI m), .int (nI i), .int (nI 2)] S h (Rt (aLine P m i 2) S h) := by
  have hO := mo_3 hS
  obtain ⟨k1, k2, k3, k4⟩ := hV.2.2 m i hi
  refine met_of (by decide +kernel) (Nat.le_of_ble_eq_true rfl) ?_
  show T a 3 mX9_ofLine 0 [(0, rv a 0), (1, .int (nI m)), (2, .int (nI i)), (3, .int (nI 2))] [] S h _
  refine tr_iload_n (pc := 0) 3 dX9_ofLine_0 rfl rfl ?_
  refine tr_tabIn (pc := 1) (off := 51) (tgt := 52) dX9_ofLine_1 (by decide) (by decide) (by decide) (by decide) ?_
  refine tr_aload_n (pc := 52) 0 dX9_ofLine_52 rfl rfl ?_
  refine tr_getR (pc := 53) (q := 3) dX9_ofLine_53 (hS.1 0 (12, 14) rfl) fi_X9_19 rfl (hS.2 0 1 3 rfl) ?_
  refine tr_iload_n (pc := 56) 1 dX9_ofLine_56 rfl rfl ?_
  refine tr_iload_n (pc := 57) 2 dX9_ofLine_57 rfl rfl ?_
  cases hy : hasY (gt P m i).1 with
  | true => ?_
  | false => ?_
  · skip
    refine tr_callV (pc := 58) (rest := []) (ci := 2) dX9_ofLine_58 ml_X9_213 cv_X2_hasOther rfl rfl (Nat.le_of_ble_eq_true rfl) (hS.1 3 (5, 3) rfl) rfl (by decide) (c_hasOther_y hO hMP hV hi hy) ?_
    rintro _ _ _ ⟨rfl, rfl, rfl⟩
    show T a 3 mX9_ofLine 61 [(0, rv a 0), (1, .int (nI m)), (2, .int (nI i)), (3, .int (nI 2))] [.int (nI 1)] S h _
    refine tr_if_eq (pc := 61) (tgt := 76) dX9_ofLine_61 (by decide) (nI_z_eq (by omega)) (fun hcc => absurd hcc (by decide)) (fun _ => ?_)
    refine tr_aload_n (pc := 64) 0 dX9_ofLine_64 rfl rfl ?_
    refine tr_getR (pc := 65) (q := 3) dX9_ofLine_65 (hS.1 0 (12, 14) rfl) fi_X9_19 rfl (hS.2 0 1 3 rfl) ?_
    refine tr_iload_n (pc := 68) 1 dX9_ofLine_68 rfl rfl ?_
    refine tr_iload_n (pc := 69) 2 dX9_ofLine_69 rfl rfl ?_
    refine tr_callV (pc := 70) (rest := []) (ci := 2) dX9_ofLine_70 ml_X9_216 cv_X2_other rfl rfl (Nat.le_of_ble_eq_true rfl) (hS.1 3 (5, 3) rfl) rfl (by decide) (c_other hO hMP hV hi) ?_
    rintro _ _ _ ⟨rfl, rfl, rfl⟩
    show T a 3 mX9_ofLine 73 [(0, rv a 0), (1, .int (nI m)), (2, .int (nI i)), (3, .int (nI 2))] [.int (nI ((gt P m i).2.2.1))] S h _
    refine tr_goto (pc := 73) (tgt := 77) dX9_ofLine_73 (by decide) ?_
    exact tr_iret (pc := 77) dX9_ofLine_77 rfl rfl (by
        show Rt (cmp (gt P m i) 2) S h _ _ _
        rw [show cmp (gt P m i) 2 = nI (gt P m i).2.2.1 from if_pos hy]; exact ⟨rfl, rfl, rfl⟩)
  · skip
    refine tr_callV (pc := 58) (rest := []) (ci := 2) dX9_ofLine_58 ml_X9_213 cv_X2_hasOther rfl rfl (Nat.le_of_ble_eq_true rfl) (hS.1 3 (5, 3) rfl) rfl (by decide) (c_hasOther_n hO hMP hV hi hy) ?_
    rintro _ _ _ ⟨rfl, rfl, rfl⟩
    show T a 3 mX9_ofLine 61 [(0, rv a 0), (1, .int (nI m)), (2, .int (nI i)), (3, .int (nI 2))] [.int (nI 0)] S h _
    refine tr_if_eq (pc := 61) (tgt := 76) dX9_ofLine_61 (by decide) (nI_z_eq (by omega)) (fun _ => ?_) (fun hcc => absurd (by decide) hcc)
    refine tr_iconst (pc := 76) (v := -1) dX9_ofLine_76 (by decide) ?_
    exact tr_iret (pc := 77) dX9_ofLine_77 rfl rfl (by
        show Rt (cmp (gt P m i) 2) S h _ _ _
        rw [show cmp (gt P m i) 2 = -1 from if_neg (by rw [hy]; decide)]; exact ⟨rfl, rfl, rfl⟩)

set_option maxHeartbeats 4000000 in
set_option maxRecDepth 100000 in
theorem c_line3 {a : Am} {S : St} {h : Hp} (hS : IsSt S) {P : Prog} (hV : VB P) (hMP : MP h 3 P) (hFn : Fnd h P) {m i : Nat} (hi : i < lnN P m) : CT a 3 mX9_ofLine [rv a 0, .int (nI m), .int (nI i), .int (nI 3)] S h (Rt (aLine P m i 3) S h) := by
  have hO := mo_3 hS
  obtain ⟨k1, k2, k3, k4⟩ := hV.2.2 m i hi
  refine met_of (by decide +kernel) (Nat.le_of_ble_eq_true rfl) ?_
  show T a 3 mX9_ofLine 0 [(0, rv a 0), (1, .int (nI m)), (2, .int (nI i)), (3, .int (nI 3))] [] S h _
  refine tr_iload_n (pc := 0) 3 dX9_ofLine_0 rfl rfl ?_
  refine tr_tabIn (pc := 1) (off := 77) (tgt := 78) dX9_ofLine_1 (by decide) (by decide) (by decide) (by decide) ?_
  refine tr_aload_n (pc := 78) 0 dX9_ofLine_78 rfl rfl ?_
  refine tr_getR (pc := 79) (q := 3) dX9_ofLine_79 (hS.1 0 (12, 14) rfl) fi_X9_19 rfl (hS.2 0 1 3 rfl) ?_
  refine tr_iload_n (pc := 82) 1 dX9_ofLine_82 rfl rfl ?_
  refine tr_iload_n (pc := 83) 2 dX9_ofLine_83 rfl rfl ?_
  refine tr_callV (pc := 84) (rest := []) (ci := 2) dX9_ofLine_84 ml_X9_207 cv_X2_sort rfl rfl (Nat.le_of_ble_eq_true rfl) (hS.1 3 (5, 3) rfl) rfl (by decide) (c_sort hO hMP hV hi) ?_
  rintro _ _ _ ⟨rfl, rfl, rfl⟩
  show T a 3 mX9_ofLine 87 [(0, rv a 0), (1, .int (nI m)), (2, .int (nI i)), (3, .int (nI 3))] [.int (nI ((gt P m i).1))] S h _
  refine tr_bipush (pc := 87) (v := nI 7) dX9_ofLine_87 (by decide) ?_
  refine tr_icmp_ne (pc := 89) (tgt := 104) dX9_ofLine_89 (by decide) (nI_eq (by omega) (by omega)) (fun q => ?_) (fun q => ?_)
  · skip
    refine tr_iconst (pc := 104) (v := -1) dX9_ofLine_104 (by decide) ?_
    exact tr_iret (pc := 105) dX9_ofLine_105 rfl rfl (by
        show Rt (cmp (gt P m i) 3) S h _ _ _
        rw [show cmp (gt P m i) 3 = -1 from if_neg q]; exact ⟨rfl, rfl, rfl⟩)
  · skip
    refine tr_aload_n (pc := 92) 0 dX9_ofLine_92 rfl rfl ?_
    refine tr_getR (pc := 93) (q := 3) dX9_ofLine_93 (hS.1 0 (12, 14) rfl) fi_X9_19 rfl (hS.2 0 1 3 rfl) ?_
    refine tr_iload_n (pc := 96) 1 dX9_ofLine_96 rfl rfl ?_
    refine tr_iload_n (pc := 97) 2 dX9_ofLine_97 rfl rfl ?_
    refine tr_callV (pc := 98) (rest := []) (ci := 2) dX9_ofLine_98 ml_X9_219 cv_X2_callee rfl rfl (Nat.le_of_ble_eq_true rfl) (hS.1 3 (5, 3) rfl) rfl (by decide) (c_callee hO hMP hV hi) ?_
    rintro _ _ _ ⟨rfl, rfl, rfl⟩
    show T a 3 mX9_ofLine 101 [(0, rv a 0), (1, .int (nI m)), (2, .int (nI i)), (3, .int (nI 3))] [.int (nI ((gt P m i).2.2.2))] S h _
    refine tr_goto (pc := 101) (tgt := 105) dX9_ofLine_101 (by decide) ?_
    exact tr_iret (pc := 105) dX9_ofLine_105 rfl rfl (by
        show Rt (cmp (gt P m i) 3) S h _ _ _
        rw [show cmp (gt P m i) 3 = nI (gt P m i).2.2.2 from if_pos q]; exact ⟨rfl, rfl, rfl⟩)

set_option maxHeartbeats 4000000 in
set_option maxRecDepth 100000 in
theorem c_line4 {a : Am} {S : St} {h : Hp} (hS : IsSt S) {P : Prog} (hV : VB P) (hMP : MP h 3 P) (hFn : Fnd h P) {m i : Nat} (hi : i < lnN P m) : CT a 3 mX9_ofLine [rv a 0, .int (nI m), .int (nI i), .int (nI 4)] S h (Rt (aLine P m i 4) S h) := by
  have hO := mo_3 hS
  obtain ⟨k1, k2, k3, k4⟩ := hV.2.2 m i hi
  refine met_of (by decide +kernel) (Nat.le_of_ble_eq_true rfl) ?_
  show T a 3 mX9_ofLine 0 [(0, rv a 0), (1, .int (nI m)), (2, .int (nI i)), (3, .int (nI 4))] [] S h _
  refine tr_iload_n (pc := 0) 3 dX9_ofLine_0 rfl rfl ?_
  refine tr_tabOut (pc := 1) (tgt := 106) dX9_ofLine_1 (by decide) (by decide) ?_
  refine tr_aload_n (pc := 106) 0 dX9_ofLine_106 rfl rfl ?_
  refine tr_getR (pc := 107) (q := 31) dX9_ofLine_107 (hS.1 0 (12, 14) rfl) fi_X9_45 rfl (hS.2 0 5 31 rfl) ?_
  refine tr_iload_n (pc := 110) 1 dX9_ofLine_110 rfl rfl ?_
  refine tr_iload_n (pc := 111) 2 dX9_ofLine_111 rfl rfl ?_
  refine tr_callV (pc := 112) (rest := []) (ci := 4) dX9_ofLine_112 ml_X9_222 cv_X4_ofLine rfl rfl (Nat.le_of_ble_eq_true rfl) (hS.1 31 (7, 4) rfl) rfl (by decide) (c_ofLine hS hV hFn.1 hi) ?_
  rintro _ _ _ ⟨rfl, rfl, rfl⟩
  show T a 3 mX9_ofLine 115 [(0, rv a 0), (1, .int (nI m)), (2, .int (nI i)), (3, .int (nI 4))] [.int (siteAt P m i)] S h _
  exact tr_iret (pc := 115) dX9_ofLine_115 rfl rfl (⟨rfl, rfl, rfl⟩)

set_option maxHeartbeats 4000000 in
set_option maxRecDepth 100000 in
theorem c_site0 {a : Am} {S : St} {h : Hp} (hS : IsSt S) {P : Prog} (hV : VB P) (hFn : Fnd h P) {s : Nat} (hs : s < nSt P) : CT a 3 mX9_ofSite [rv a 0, .int (nI s), .int (nI 0)] S h (Rt (aSite P s 0) S h) := by
  refine met_of (by decide +kernel) (Nat.le_of_ble_eq_true rfl) ?_
  show T a 3 mX9_ofSite 0 [(0, rv a 0), (1, .int (nI s)), (2, .int (nI 0))] [] S h _
  refine tr_iload_n (pc := 0) 2 dX9_ofSite_0 rfl rfl ?_
  refine tr_tabIn (pc := 1) (off := 27) (tgt := 28) dX9_ofSite_1 (by decide) (by decide) (by decide) (by decide) ?_
  refine tr_aload_n (pc := 28) 0 dX9_ofSite_28 rfl rfl ?_
  refine tr_getR (pc := 29) (q := 31) dX9_ofSite_29 (hS.1 0 (12, 14) rfl) fi_X9_45 rfl (hS.2 0 5 31 rfl) ?_
  refine tr_iload_n (pc := 32) 1 dX9_ofSite_32 rfl rfl ?_
  refine tr_callV (pc := 33) (rest := []) (ci := 4) dX9_ofSite_33 ml_X9_224 cv_X4_methodOf rfl rfl (Nat.le_of_ble_eq_true rfl) (hS.1 31 (7, 4) rfl) rfl (by decide) (c_methodOf hS hV hFn.1 hs) ?_
  rintro _ _ _ ⟨rfl, rfl, rfl⟩
  show T a 3 mX9_ofSite 36 [(0, rv a 0), (1, .int (nI s)), (2, .int (nI 0))] [.int (nI (sM P s))] S h _
  exact tr_iret (pc := 36) dX9_ofSite_36 rfl rfl (⟨rfl, rfl, rfl⟩)

set_option maxHeartbeats 4000000 in
set_option maxRecDepth 100000 in
theorem c_site1 {a : Am} {S : St} {h : Hp} (hS : IsSt S) {P : Prog} (hV : VB P) (hFn : Fnd h P) {s : Nat} (hs : s < nSt P) : CT a 3 mX9_ofSite [rv a 0, .int (nI s), .int (nI 1)] S h (Rt (aSite P s 1) S h) := by
  refine met_of (by decide +kernel) (Nat.le_of_ble_eq_true rfl) ?_
  show T a 3 mX9_ofSite 0 [(0, rv a 0), (1, .int (nI s)), (2, .int (nI 1))] [] S h _
  refine tr_iload_n (pc := 0) 2 dX9_ofSite_0 rfl rfl ?_
  refine tr_tabIn (pc := 1) (off := 36) (tgt := 37) dX9_ofSite_1 (by decide) (by decide) (by decide) (by decide) ?_
  refine tr_aload_n (pc := 37) 0 dX9_ofSite_37 rfl rfl ?_
  refine tr_getR (pc := 38) (q := 31) dX9_ofSite_38 (hS.1 0 (12, 14) rfl) fi_X9_45 rfl (hS.2 0 5 31 rfl) ?_
  refine tr_iload_n (pc := 41) 1 dX9_ofSite_41 rfl rfl ?_
  refine tr_callV (pc := 42) (rest := []) (ci := 4) dX9_ofSite_42 ml_X9_227 cv_X4_lineOf rfl rfl (Nat.le_of_ble_eq_true rfl) (hS.1 31 (7, 4) rfl) rfl (by decide) (c_lineOf hS hV hFn.1 hs) ?_
  rintro _ _ _ ⟨rfl, rfl, rfl⟩
  show T a 3 mX9_ofSite 45 [(0, rv a 0), (1, .int (nI s)), (2, .int (nI 1))] [.int (nI (sI P s))] S h _
  exact tr_iret (pc := 45) dX9_ofSite_45 rfl rfl (⟨rfl, rfl, rfl⟩)

set_option maxHeartbeats 4000000 in
set_option maxRecDepth 100000 in
theorem c_site2 {a : Am} {S : St} {h : Hp} (hS : IsSt S) {P : Prog} (hV : VB P) (hFn : Fnd h P) {s : Nat} (hs : s < nSt P) : CT a 3 mX9_ofSite [rv a 0, .int (nI s), .int (nI 2)] S h (Rt (aSite P s 2) S h) := by
  refine met_of (by decide +kernel) (Nat.le_of_ble_eq_true rfl) ?_
  show T a 3 mX9_ofSite 0 [(0, rv a 0), (1, .int (nI s)), (2, .int (nI 2))] [] S h _
  refine tr_iload_n (pc := 0) 2 dX9_ofSite_0 rfl rfl ?_
  refine tr_tabIn (pc := 1) (off := 45) (tgt := 46) dX9_ofSite_1 (by decide) (by decide) (by decide) (by decide) ?_
  refine tr_aload_n (pc := 46) 0 dX9_ofSite_46 rfl rfl ?_
  refine tr_getR (pc := 47) (q := 38) dX9_ofSite_47 (hS.1 0 (12, 14) rfl) fi_X9_63 rfl (hS.2 0 7 38 rfl) ?_
  refine tr_iload_n (pc := 50) 1 dX9_ofSite_50 rfl rfl ?_
  refine tr_callV (pc := 51) (rest := []) (ci := 0) dX9_ofSite_51 ml_X9_230 cv_X0_ofSite rfl rfl (Nat.le_of_ble_eq_true rfl) (hS.1 38 (3, 5) rfl) rfl (by decide) (c_fofSite hS hV hFn.2.2 hs) ?_
  rintro _ _ _ ⟨rfl, rfl, rfl⟩
  show T a 3 mX9_ofSite 54 [(0, rv a 0), (1, .int (nI s)), (2, .int (nI 2))] [.int (nI (fate P s))] S h _
  exact tr_iret (pc := 54) dX9_ofSite_54 rfl rfl (⟨rfl, rfl, rfl⟩)

set_option maxHeartbeats 4000000 in
set_option maxRecDepth 100000 in
theorem c_site3 {a : Am} {S : St} {h : Hp} (hS : IsSt S) {P : Prog} (hV : VB P) (hFn : Fnd h P) {s : Nat} (hs : s < nSt P) : CT a 3 mX9_ofSite [rv a 0, .int (nI s), .int (nI 3)] S h (Rt (aSite P s 3) S h) := by
  refine met_of (by decide +kernel) (Nat.le_of_ble_eq_true rfl) ?_
  show T a 3 mX9_ofSite 0 [(0, rv a 0), (1, .int (nI s)), (2, .int (nI 3))] [] S h _
  refine tr_iload_n (pc := 0) 2 dX9_ofSite_0 rfl rfl ?_
  refine tr_tabOut (pc := 1) (tgt := 55) dX9_ofSite_1 (by decide) (by decide) ?_
  refine tr_aload_n (pc := 55) 0 dX9_ofSite_55 rfl rfl ?_
  refine tr_getR (pc := 56) (q := 35) dX9_ofSite_56 (hS.1 0 (12, 14) rfl) fi_X9_54 rfl (hS.2 0 6 35 rfl) ?_
  refine tr_iload_n (pc := 59) 1 dX9_ofSite_59 rfl rfl ?_
  refine tr_callV (pc := 60) (rest := []) (ci := 1) dX9_ofSite_60 ml_X9_232 cv_X1_inField rfl rfl (Nat.le_of_ble_eq_true rfl) (hS.1 35 (4, 6) rfl) rfl (by decide) (c_inField hS hFn.2.1 (show s < 32 by have := nSt_le hV; omega)) ?_
  rintro _ _ _ ⟨rfl, rfl, rfl⟩
  show T a 3 mX9_ofSite 63 [(0, rv a 0), (1, .int (nI s)), (2, .int (nI 3))] [.int (mayV P (17 + s))] S h _
  exact tr_iret (pc := 63) dX9_ofSite_63 rfl rfl (⟨rfl, rfl, rfl⟩)
