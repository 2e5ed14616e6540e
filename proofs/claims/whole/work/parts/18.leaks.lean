theorem nt_4 {h h4 : Hp} {q N : Nat} {x y : Int32} (e4 : h4 = hs (hs (hs (hs h q (upd (h q) N x)) (q + 1) (upd (hs h q (upd (h q) N x) (q + 1)) N (-1))) (q + 2) (upd (hs (hs h q (upd (h q) N x)) (q + 1) (upd (hs h q (upd (h q) N x) (q + 1)) N (-1)) (q + 2)) N y)) (q + 3) (upd (hs (hs (hs h q (upd (h q) N x)) (q + 1) (upd (hs h q (upd (h q) N x) (q + 1)) N (-1))) (q + 2) (upd (hs (hs h q (upd (h q) N x)) (q + 1) (upd (hs h q (upd (h q) N x) (q + 1)) N (-1)) (q + 2)) N y) (q + 3)) N (nI 0))) : h4 q = upd (h q) N x ∧ h4 (q + 1) = upd (h (q + 1)) N (-1) ∧ h4 (q + 2) = upd (h (q + 2)) N y ∧ h4 (q + 3) = upd (h (q + 3)) N (nI 0) ∧ ∀ o, (o < q ∨ q + 3 < o) → h4 o = h o := by
  subst e4
  refine ⟨?_, ?_, ?_, ?_, fun o ho => ?_⟩
  · rw [hs_ne (by omega), hs_ne (by omega), hs_ne (by omega), hs_same]
  · rw [hs_ne (by omega), hs_ne (by omega), hs_same, hs_ne (by omega)]
  · rw [hs_ne (by omega), hs_same, hs_ne (by omega), hs_ne (by omega)]
  · rw [hs_same, hs_ne (by omega), hs_ne (by omega), hs_ne (by omega)]
  · rw [hs_ne (by omega), hs_ne (by omega), hs_ne (by omega), hs_ne (by omega)]
theorem th_make {h h' : Hp} {q s c : Nat} {R : RS} {f : Bool} (hT : TH h q R f) (hs32 : s < 32) (a41 : ∀ k, k ≠ 10 → h' 41 k = h 41 k) (a10 : h' 41 10 = nI (R.1 0 + 1)) (a0 : h' q = upd (h q) (R.1 0) (nI s)) (a1 : h' (q + 1) = upd (h (q + 1)) (R.1 0) (-1)) (a2 : h' (q + 2) = upd (h (q + 2)) (R.1 0) (nI (c + 1))) (a47 : h' 47 = upd (h 47) s (nI (R.2.1 2 s + 1))) (a48 : h' 48 = h 48) (a49 : h' 49 = h 49) : TH h' q (rMake R s c) f := by
  obtain ⟨⟨t9, t10, t11, t12, t13, t14, t4⟩, tt, ts⟩ := hT
  have m1 : (rMake R s c).1 1 = R.1 1 := by simp [rMake, un]
  have m2 : (rMake R s c).1 2 = R.1 2 := by simp [rMake, un]
  have m4 : (rMake R s c).1 4 = R.1 4 := by simp [rMake, un]
  have b3 : (rMake R s c).2.1 3 = R.2.1 3 := by simp [rMake, ua]
  have b4 : (rMake R s c).2.1 4 = R.2.1 4 := by simp [rMake, ua]
  refine ⟨⟨by rw [a41 9 (by decide)]; exact t9, by rw [mk_n0]; exact a10, by rw [a41 11 (by decide), m1]; exact t11, by rw [a41 12 (by decide), m2]; exact t12, by rw [a41 13 (by decide), mk_n3]; exact t13, by rw [a41 14 (by decide), m4]; exact t14, by rw [a41 4 (by decide)]; exact t4⟩, fun t ht => ?_, fun u hu => ?_⟩
  · rw [mk_n0] at ht
    rw [a0, a1, a2, mk_a0, mk_a1]
    show _ ∧ _ = tv (uo R.2.2.1 (R.1 0) none t) ∧ _
    by_cases e : t = R.1 0
    · rw [e, upd_s, upd_s, upd_s, un_s, un_s, uo_s]; exact ⟨rfl, rfl, rfl⟩
    · rw [upd_n e, upd_n e, upd_n e, un_n e, un_n e, uo_n e]; exact tt t (by omega)
  · rw [a47, a48, a49, mk_a2, b3, b4]
    by_cases e : u = s
    · subst e; rw [upd_s, un_s]; exact ⟨rfl, (ts u hu).2⟩
    · rw [upd_n e, un_n e]; exact ts u hu
set_option maxHeartbeats 4000000 in
set_option maxRecDepth 100000 in
theorem nt_tail {a : Am} {S S0 : St} {h h0 : Hp} (hS : IsSt S) {q q0 cap : Nat} (hQ : TQ S q cap) {R : RS} {f : Bool} (hT : TH h q R f) (hn : R.1 0 < cap) {s c : Nat} (hs32 : s < 32) (hG : Sg S0 S) (h42 : h 42 = h0 42) (hsee : ∀ t, t < R.1 0 → h (q + 3) t = h0 (q0 + 3) t) (hFt : Ft h0 h) : T a 3 mX8_newThing 37 [(0, rv a 41), (1, .int (nI s)), (2, .int (nI (c + 1)))] [] S h (fun v S' h' => v = some (.int (nI (R.1 0))) ∧ ∃ q' cap', TQ S' q' cap' ∧ R.1 0 < cap' ∧ TH h' q' (rMake R s c) f ∧ Sg S0 S' ∧ h' 42 = h0 42 ∧ (∀ t, t < R.1 0 → h' (q' + 3) t = h0 (q0 + 3) t) ∧ h' (q' + 3) (R.1 0) = nI 0 ∧ Ft h0 h') := by
  obtain ⟨⟨r5, r6, r7, r8⟩, ⟨z0, z1, z2, z3⟩, hq, hc1, hc2, hlev⟩ := id hQ
  refine tr_aload_n (pc := 37) 0 dX8_newThing_37 rfl rfl ?_
  refine tr_getR (pc := 38) (q := q) dX8_newThing_38 (hS.1 41 (11, 18) rfl) fi_X8_19 rfl r5 ?_
  refine tr_aload_n (pc := 41) 0 dX8_newThing_41 rfl rfl ?_
  refine tr_getI (pc := 42) (x := nI (R.1 0)) dX8_newThing_42 (hS.1 41 (11, 18) rfl) fi_X8_56 rfl hT.1.2.1 ?_
  refine tr_iload_n (pc := 45) 1 dX8_newThing_45 rfl rfl ?_
  refine tr_iast (pc := 46) (R.1 0) dX8_newThing_46 z0 rfl (by omega) (by omega) ?_
  refine tr_aload_n (pc := 47) 0 dX8_newThing_47 rfl rfl ?_
  refine tr_getR (pc := 48) (q := q + 1) dX8_newThing_48 (hS.1 41 (11, 18) rfl) fi_X8_22 rfl r6 ?_
  refine tr_aload_n (pc := 51) 0 dX8_newThing_51 rfl rfl ?_
  refine tr_getI (pc := 52) (x := nI (R.1 0)) dX8_newThing_52 (hS.1 41 (11, 18) rfl) fi_X8_56 rfl (by rw [hs_ne (by omega)]; exact hT.1.2.1) ?_
  refine tr_iconst (pc := 55) (v := -1) dX8_newThing_55 (by decide) ?_
  refine tr_iast (pc := 56) (R.1 0) dX8_newThing_56 z1 rfl (by omega) (by omega) ?_
  refine tr_aload_n (pc := 57) 0 dX8_newThing_57 rfl rfl ?_
  refine tr_getR (pc := 58) (q := q + 2) dX8_newThing_58 (hS.1 41 (11, 18) rfl) fi_X8_25 rfl r7 ?_
  refine tr_aload_n (pc := 61) 0 dX8_newThing_61 rfl rfl ?_
  refine tr_getI (pc := 62) (x := nI (R.1 0)) dX8_newThing_62 (hS.1 41 (11, 18) rfl) fi_X8_56 rfl (by rw [hs_ne (by omega), hs_ne (by omega)]; exact hT.1.2.1) ?_
  refine tr_iload_n (pc := 65) 2 dX8_newThing_65 rfl rfl ?_
  refine tr_iast (pc := 66) (R.1 0) dX8_newThing_66 z2 rfl (by omega) (by omega) ?_
  refine tr_aload_n (pc := 67) 0 dX8_newThing_67 rfl rfl ?_
  refine tr_getR (pc := 68) (q := q + 3) dX8_newThing_68 (hS.1 41 (11, 18) rfl) fi_X8_28 rfl r8 ?_
  refine tr_aload_n (pc := 71) 0 dX8_newThing_71 rfl rfl ?_
  refine tr_getI (pc := 72) (x := nI (R.1 0)) dX8_newThing_72 (hS.1 41 (11, 18) rfl) fi_X8_56 rfl (by rw [hs_ne (by omega), hs_ne (by omega), hs_ne (by omega)]; exact hT.1.2.1) ?_
  refine tr_iconst (pc := 75) (v := nI 0) dX8_newThing_75 (by decide) ?_
  refine tr_iast (pc := 76) (R.1 0) dX8_newThing_76 z3 rfl (by omega) (by omega) ?_
  obtain ⟨h4, e4⟩ : ∃ X, X = (hs (hs (hs (hs h q (upd (h q) (R.1 0) (nI s))) (q + 1) (upd ((hs h q (upd (h q) (R.1 0) (nI s))) (q + 1)) (R.1 0) (-1))) (q + 2) (upd ((hs (hs h q (upd (h q) (R.1 0) (nI s))) (q + 1) (upd ((hs h q (upd (h q) (R.1 0) (nI s))) (q + 1)) (R.1 0) (-1))) (q + 2)) (R.1 0) (nI (c + 1)))) (q + 3) (upd ((hs (hs (hs h q (upd (h q) (R.1 0) (nI s))) (q + 1) (upd ((hs h q (upd (h q) (R.1 0) (nI s))) (q + 1)) (R.1 0) (-1))) (q + 2) (upd ((hs (hs h q (upd (h q) (R.1 0) (nI s))) (q + 1) (upd ((hs h q (upd (h q) (R.1 0) (nI s))) (q + 1)) (R.1 0) (-1))) (q + 2)) (R.1 0) (nI (c + 1)))) (q + 3)) (R.1 0) (nI 0))) := ⟨_, rfl⟩
  rw [← e4]
  obtain ⟨b0, b1, b2, b3, bo⟩ := nt_4 e4
  refine tr_aload_n (pc := 77) 0 dX8_newThing_77 rfl rfl ?_
  refine tr_getR (pc := 78) (q := 47) dX8_newThing_78 (hS.1 41 (11, 18) rfl) fi_X8_31 rfl (hS.2 41 15 47 rfl) ?_
  refine tr_iload_n (pc := 81) 1 dX8_newThing_81 rfl rfl ?_
  refine tr_dup2 (pc := 82) dX8_newThing_82 rfl rfl ?_
  refine tr_iald (pc := 83) (v := nI (R.2.1 2 s)) s dX8_newThing_83 (hS.1 47 (0, 32) rfl) rfl (by omega) (by decide) (by rw [bo 47 (by omega)]; exact (hT.2.2 s hs32).1) ?_
  refine tr_iconst (pc := 84) (v := nI 1) dX8_newThing_84 (by decide) ?_
  refine tr_iadd (pc := 85) (v := nI (R.2.1 2 s + 1)) dX8_newThing_85 (nI_add _ _) ?_
  refine tr_iast (pc := 86) s dX8_newThing_86 (hS.1 47 (0, 32) rfl) rfl (by omega) (by decide) ?_
  refine tr_aload_n (pc := 87) 0 dX8_newThing_87 rfl rfl ?_
  refine tr_dup (pc := 88) dX8_newThing_88 rfl ?_
  refine tr_getI (pc := 89) (x := nI (R.1 0)) dX8_newThing_89 (hS.1 41 (11, 18) rfl) fi_X8_56 rfl (by rw [hs_ne (by decide), bo 41 (by omega)]; exact hT.1.2.1) ?_
  refine tr_iconst (pc := 92) (v := nI 1) dX8_newThing_92 (by decide) ?_
  refine tr_iadd (pc := 93) (v := nI (R.1 0 + 1)) dX8_newThing_93 (nI_add _ _) ?_
  refine tr_putI (pc := 94) (x := nI (R.1 0 + 1)) dX8_newThing_94 (hS.1 41 (11, 18) rfl) fi_X8_56 rfl rfl rfl ?_
  refine tr_aload_n (pc := 97) 0 dX8_newThing_97 rfl rfl ?_
  refine tr_getI (pc := 98) (x := nI (R.1 0 + 1)) dX8_newThing_98 (hS.1 41 (11, 18) rfl) fi_X8_56 rfl (by rw [hs_same, upd_s]) ?_
  refine tr_iconst (pc := 101) (v := nI 1) dX8_newThing_101 (by decide) ?_
  refine tr_isub (pc := 102) (v := nI (R.1 0)) dX8_newThing_102 (by rw [pk_sub (by omega)]; rfl) ?_
  exact tr_iret (pc := 103) dX8_newThing_103 rfl rfl (by
      refine ⟨rfl, q, cap, hQ, hn, ?_, hG, ?_, fun t ht => ?_, ?_, ?_⟩
      · refine th_make (c := c) hT hs32 (fun k hk => ?_) ?_ ?_ ?_ ?_ ?_ ?_ ?_
        · rw [hs_same, upd_n hk, hs_ne (by decide), bo 41 (by omega)]
        · rw [hs_same, upd_s]
        · rw [hs_ne (by omega), hs_ne (by omega)]; exact b0
        · rw [hs_ne (by omega), hs_ne (by omega)]; exact b1
        · rw [hs_ne (by omega), hs_ne (by omega)]; exact b2
        · rw [hs_ne (by omega), hs_same, bo 47 (by omega)]
        · rw [hs_ne (by omega), hs_ne (by omega), bo 48 (by omega)]
        · rw [hs_ne (by omega), hs_ne (by omega), bo 49 (by omega)]
      · rw [hs_ne (by omega), hs_ne (by omega), bo 42 (by omega)]; exact h42
      · rw [hs_ne (by omega), hs_ne (by omega), b3, upd_n (by omega)]; exact hsee t ht
      · rw [hs_ne (by omega), hs_ne (by omega), b3, upd_s]
      · refine hFt.trans (Ft.set (Ft.set (fun j j1 j2 => bo j ?_) (Or.inl (by decide))) (Or.inl (by decide)))
        rcases hq with e | e
        · simp [tL] at j2; omega
        · omega)

theorem th_more {S : St} {h h' : Hp} {q q' cap : Nat} {R : RS} {f : Bool} (hT : TH h q R f) (hn : R.1 0 ≤ cap) (hL : 76 ≤ q') (hr : ∀ j t, j < 4 → t < cap → h' (q' + j) t = h (q + j) t) (ho : ∀ j, j < q' → h' j = h j) : TH h' q' R f := by
  obtain ⟨t1, tt, ts⟩ := hT
  unfold TH
  rw [ho 41 (by omega), ho 47 (by omega), ho 48 (by omega), ho 49 (by omega)]
  refine ⟨t1, fun t ht => ?_, ts⟩
  have e0 : h' q' t = h q t := hr 0 t (by decide) (by omega)
  rw [e0, hr 1 t (by decide) (by omega), hr 2 t (by decide) (by omega)]
  exact tt t ht
set_option maxHeartbeats 4000000 in
set_option maxRecDepth 100000 in
theorem c_newThing {a : Am} {S : St} {h : Hp} (hS : IsSt S) {q cap : Nat} (hQ : TQ S q cap) {R : RS} {f : Bool} (hT : TH h q R f) (hn : R.1 0 ≤ cap) (hn2 : R.1 0 < 4096) {s c : Nat} (hs32 : s < 32) : CT a 3 mX8_newThing [rv a 41, .int (nI s), .int (nI (c + 1))] S h (fun v S' h' => v = some (.int (nI (R.1 0))) ∧ ∃ q' cap', TQ S' q' cap' ∧ R.1 0 < cap' ∧ TH h' q' (rMake R s c) f ∧ Sg S S' ∧ h' 42 = h 42 ∧ (∀ t, t < R.1 0 → h' (q' + 3) t = h (q + 3) t) ∧ h' (q' + 3) (R.1 0) = nI 0 ∧ Ft h h') := by
  obtain ⟨⟨r5, r6, r7, r8⟩, ⟨z0, z1, z2, z3⟩, hq, hc1, hc2, hlev⟩ := id hQ
  refine met_of (by decide +kernel) (Nat.le_of_ble_eq_true rfl) ?_
  show T a 3 mX8_newThing 0 [(0, rv a 41), (1, .int (nI s)), (2, .int (nI (c + 1)))] [] S h _
  refine tr_aload_n (pc := 0) 0 dX8_newThing_0 rfl rfl ?_
  refine tr_getI (pc := 1) (x := nI (R.1 0)) dX8_newThing_1 (hS.1 41 (11, 18) rfl) fi_X8_56 rfl hT.1.2.1 ?_
  refine tr_sipush (pc := 4) (v := nI 4096) dX8_newThing_4 (by decide) ?_
  refine tr_icmp_ge (pc := 7) (tgt := 19) dX8_newThing_7 (by decide) (nI_leI (by omega) (by omega)) (fun hcc => absurd hcc (by omega)) (fun _ => ?_)
  refine tr_iload_n (pc := 10) 1 dX8_newThing_10 rfl rfl ?_
  refine tr_bipush (pc := 11) (v := nI 32) dX8_newThing_11 (by decide) ?_
  refine tr_callSN (pc := 13) (rest := []) dX8_newThing_13 nl_X8_71 cs_X9_isOutside rfl rfl (Nat.le_of_ble_eq_true rfl) (by decide) (c_isOut_in hs32 (by omega)) ?_
  rintro _ _ _ ⟨rfl, rfl, rfl⟩
  show T a 3 mX8_newThing 16 [(0, rv a 41), (1, .int (nI s)), (2, .int (nI (c + 1)))] [.int (nI 0)] S h _
  refine tr_if_eq (pc := 16) (tgt := 21) dX8_newThing_16 (by decide) (nI_z_eq (by omega)) (fun _ => ?_) (fun hcc => absurd (by decide) hcc)
  refine tr_aload_n (pc := 21) 0 dX8_newThing_21 rfl rfl ?_
  refine tr_getI (pc := 22) (x := nI (R.1 0)) dX8_newThing_22 (hS.1 41 (11, 18) rfl) fi_X8_56 rfl hT.1.2.1 ?_
  refine tr_aload_n (pc := 25) 0 dX8_newThing_25 rfl rfl ?_
  refine tr_getR (pc := 26) (q := q) dX8_newThing_26 (hS.1 41 (11, 18) rfl) fi_X8_19 rfl r5 ?_
  refine tr_alenI (pc := 29) (v := nI cap) dX8_newThing_29 z0 rfl ?_
  refine tr_icmp_lt (pc := 30) (tgt := 37) dX8_newThing_30 (by decide) (nI_ltI (by omega) (by omega)) (fun q30 => ?_) (fun q30 => ?_)
  · skip
    exact nt_tail hS hQ hT q30 hs32 Sg.rf rfl (fun t _ => rfl) Ft.rf
  · skip
    refine tr_aload_n (pc := 33) 0 dX8_newThing_33 rfl rfl ?_
    refine tr_callV (pc := 34) (rest := []) (ci := 8) dX8_newThing_34 ml_X8_150 cv_X8_makeMoreRoom rfl rfl (Nat.le_of_ble_eq_true rfl) (hS.1 41 (11, 18) rfl) rfl (by decide) (c_more hS hQ (by omega)) ?_
    rintro v1 S1 h1 ⟨rfl, hQ1, hg1, hr1, ho1⟩
    show T a 3 mX8_newThing 37 [(0, rv a 41), (1, .int (nI s)), (2, .int (nI (c + 1)))] [] S1 h1 _
    have hcap : 76 ≤ S.1.length := by obtain ⟨lev, l1, l2, l3⟩ := hlev; omega
    exact nt_tail (hS.sg hg1) hQ1 (th_more (S := S) hT hn hcap hr1 ho1) (by omega) hs32 hg1 (by rw [ho1 42 (by omega)]) (fun t ht => hr1 3 t (by decide) (by omega)) (fun j j1 j2 => ho1 j (by omega))

/-- the state of following: M are the things seen in this call, L what is left of its own -/
def FwS (h0 h : Hp) (q : Nat) (R : RS) (c : Nat) (M : Nat → Bool) (L : Nat) : Prop := (∀ t, t < R.1 0 → (M t = true ↔ h (q + 3) t = nI (c + 1))) ∧ h 41 14 = nI (R.1 4 + cntG (fun t => M t && decide (R.2.1 1 t = c)) (R.1 0)) ∧ (∀ s, s < 32 → h 48 s = nI (R.2.1 3 s + cntG (fun t => (M t && decide (R.2.1 1 t = c)) && decide (R.2.1 0 t = s)) (R.1 0))) ∧ L + cntG (fun t => M t && decide (R.2.1 1 t = c)) (R.1 0) = mkN R c ∧ (∀ k, k ≠ 14 → h 41 k = h0 41 k) ∧ (∀ j, j ≠ 41 → j ≠ 48 → j ≠ q + 3 → h j = h0 j) ∧ ∀ t, t < R.1 0 → h (q + 3) t = h0 (q + 3) t ∨ h (q + 3) t = nI (c + 1)
theorem fw_mark {h0 h : Hp} {q c L t : Nat} {R : RS} {M : Nat → Bool} (hF : FwS h0 h q R c M L) (hq : q = 43 ∨ 76 ≤ q) (ht : t < R.1 0) (hM : M t = false) (hA : ¬ R.2.1 1 t = c) : FwS h0 (hs h (q + 3) (upd (h (q + 3)) t (nI (c + 1)))) q R c (ub M t) L := by
  obtain ⟨f1, f2, f3, f4, f5, f6, f7⟩ := hF
  have e1 : ∀ j, (ub M t j && decide (R.2.1 1 j = c)) = (M j && decide (R.2.1 1 j = c)) := fun j => by
    by_cases e : j = t
    · subst e; simp [hA]
    · rw [ub_n e]
  have e2 : (fun j => ub M t j && decide (R.2.1 1 j = c)) = (fun j => M j && decide (R.2.1 1 j = c)) := funext e1
  refine ⟨fun j hj => ?_, ?_, fun s hs => ?_, ?_, fun k hk => ?_, fun j j1 j2 j3 => ?_, fun j hj => ?_⟩
  · rw [hs_same]
    by_cases e : j = t
    · subst e; rw [upd_s, ub_s]; simp
    · rw [upd_n e, ub_n e]; exact f1 j hj
  · rw [hs_ne (by omega), e2]; exact f2
  · rw [hs_ne (by omega)]; simp only [e1]; exact f3 s hs
  · rw [e2]; exact f4
  · rw [hs_ne (by omega)]; exact f5 k hk
  · rw [hs_ne j3]; exact f6 j j1 j2 j3
  · rw [hs_same]
    by_cases e : j = t
    · subst e; rw [upd_s]; exact Or.inr rfl
    · rw [upd_n e]; exact f7 j hj
theorem fw_leak {h0 h : Hp} {q c L t : Nat} {R : RS} {M : Nat → Bool} (hF : FwS h0 h q R c M (L + 1)) (hq : q = 43 ∨ 76 ≤ q) (ht : t < R.1 0) (hM : M t = false) (hA : R.2.1 1 t = c) (hs0 : R.2.1 0 t < 32) {h' : Hp} (e0 : h' (q + 3) = upd (h (q + 3)) t (nI (c + 1))) (e1 : h' 41 = upd (h 41) 14 (h 41 14 + nI 1)) (e2 : h' 48 = upd (h 48) (R.2.1 0 t) (h 48 (R.2.1 0 t) + nI 1)) (e3 : ∀ j, j ≠ 41 → j ≠ 48 → j ≠ q + 3 → h' j = h j) : FwS h0 h' q R c (ub M t) L := by
  obtain ⟨f1, f2, f3, f4, f5, f6, f7⟩ := hF
  have k1 : cntG (fun t' => ub M t t' && decide (R.2.1 1 t' = c)) (R.1 0) = cntG (fun t' => M t' && decide (R.2.1 1 t' = c)) (R.1 0) + 1 := cntG_ub ht (by simp [hM]) (by simp [ub_s, hA]) (fun j hj => by simp only [ub_n hj])
  refine ⟨fun j hj => ?_, ?_, fun s hs => ?_, ?_, fun k hk => ?_, fun j j1 j2 j3 => ?_, fun j hj => ?_⟩
  · rw [e0]
    by_cases e : j = t
    · subst e; rw [upd_s, ub_s]; simp
    · rw [upd_n e, ub_n e]; exact f1 j hj
  · rw [e1, upd_s, f2, k1, nI_add]; congr 1
  · rw [e2]
    by_cases e : s = R.2.1 0 t
    · subst e
      rw [upd_s, f3 _ hs, nI_add]
      have k2 : cntG (fun t' => (ub M t t' && decide (R.2.1 1 t' = c)) && decide (R.2.1 0 t' = R.2.1 0 t)) (R.1 0) = cntG (fun t' => (M t' && decide (R.2.1 1 t' = c)) && decide (R.2.1 0 t' = R.2.1 0 t)) (R.1 0) + 1 := cntG_ub ht (by simp [hM]) (by simp [ub_s, hA]) (fun j hj => by simp only [ub_n hj])
      rw [k2]; congr 1
    · rw [upd_n e, f3 s hs]
      congr 2
      exact cntG_congr (fun j hj => by
        by_cases z : j = t
        · subst z; have : ¬ R.2.1 0 j = s := fun w => e w.symm
          simp [this]
        · rw [ub_n z])
  · rw [k1]; omega
  · rw [e1, upd_n hk]; exact f5 k hk
  · rw [e3 j j1 j2 j3]; exact f6 j j1 j2 j3
  · rw [e0]
    by_cases e : j = t
    · subst e; rw [upd_s]; exact Or.inr rfl
    · rw [upd_n e]; exact f7 j hj
/-- what following does: more may be seen, only what can be come to, and all of it unless nothing of the call's own is left -/
def FwE (R : RS) (s : OT) (M M' : Nat → Bool) (L' : Nat) : Prop := (∀ t, M t = true → M' t = true) ∧ (∀ t, t < R.1 0 → M' t = true → M t = true ∨ Rch R.2.2.1 s t) ∧ (L' = 0 ∨ (Cl R.2.2.1 M' (R.1 0) ∧ ∀ u, s = some u → M' u = true))
set_option maxHeartbeats 4000000 in
set_option maxRecDepth 100000 in
theorem c_follow {a : Am} {S : St} {h h0 : Hp} (hS : IsSt S) {P : Prog} (hV : VB P) {q cap : Nat} (hQ : TQ S q cap) {R : RS} {f : Bool} (hT : TH h0 q R f) (hW : WF P R) (hn : R.1 0 ≤ cap) (hcl : R.1 3 < 2 ^ 30) {c L : Nat} {M : Nat → Bool} (hc : c < R.1 3) (hF : FwS h0 h q R c M L) (hM : L = 0 ∨ Cl R.2.2.1 M (R.1 0)) {s : OT} (hs : okT (R.1 0) s) : CT a 1 mX8_followFrom [rv a 41, .int (tv s), .int (nI (c + 1)), .int (nI L)] S h (fun v S' h' => ∃ M' L', v = some (.int (nI L')) ∧ S = S' ∧ FwS h0 h' q R c M' L' ∧ FwE R s M M' L') := by
  obtain ⟨⟨r5, r6, r7, r8⟩, ⟨z0, z1, z2, z3⟩, hq, hc1, hc2, hlev⟩ := id hQ
  have hns := nSt_le hV
  refine met_of (by decide +kernel) (Nat.le_of_ble_eq_true rfl) ?_
  show T a 1 mX8_followFrom 0 [(0, rv a 41), (1, .int (tv s)), (2, .int (nI (c + 1))), (3, .int (nI L))] [] S h _
  refine tr_iload_n (pc := 0) 3 dX8_followFrom_0 rfl rfl ?_
  refine tr_istore (pc := 1) (lv' := [(4, .int (nI L)), (0, rv a 41), (1, .int (tv s)), (2, .int (nI (c + 1))), (3, .int (nI L))]) dX8_followFrom_1 (by decide) rfl ?_
  refine tr_iload_n (pc := 3) 2 dX8_followFrom_3 rfl rfl ?_
  refine tr_istore (pc := 4) (lv' := [(5, .int (tv s)), (4, .int (nI L)), (0, rv a 41), (1, .int (tv s)), (2, .int (nI (c + 1))), (3, .int (nI L))]) dX8_followFrom_4 (by decide) rfl ?_
  refine tr_iconst (pc := 6) (v := nI 0) dX8_followFrom_6 (by decide) ?_
  refine tr_istore (pc := 7) (lv' := [(6, .int (nI 0)), (5, .int (tv s)), (4, .int (nI L)), (0, rv a 41), (1, .int (tv s)), (2, .int (nI (c + 1))), (3, .int (nI L))]) dX8_followFrom_7 (by decide) rfl ?_
  refine tr_sub (pc := 9) (lv' := [(0, rv a 41), (2, .int (nI (c + 1))), (4, .int (nI L)), (5, .int (tv s)), (6, .int (nI 0))]) [3, 5, 2, 1, 0] rfl ?_
  have L9 : ∀ (fu : Nat) (k : Nat) (x : OT) (M1 : Nat → Bool) (L1 : Nat) (h1 : Hp), R.1 0 - k < fu → k ≤ cntG M1 (R.1 0) → FwS h0 h1 q R c M1 L1 → okT (R.1 0) x → (∀ t, M t = true → M1 t = true) → (∀ t, t < R.1 0 → M1 t = true → M t = true ∨ Rch R.2.2.1 s t) → (∀ u, x = some u → Rch R.2.2.1 s u) → (L1 = 0 ∨ Cx R.2.2.1 M1 (R.1 0) x ∧ ((M1 = M ∧ x = s) ∨ ∀ u, s = some u → M1 u = true)) → T a 1 mX8_followFrom 9 [(0, rv a 41), (2, .int (nI (c + 1))), (4, .int (nI L1)), (5, .int (tv x)), (6, .int (nI k))] [] S h1 (fun v S' h' => ∃ M' L', v = some (.int (nI L')) ∧ S = S' ∧ FwS h0 h' q R c M' L' ∧ FwE R s M M' L') := by
    intro fu
    induction fu with
    | zero => intro k x M1 L1 h1 hu hk hF1 hx hA hB hC hD; omega
    | succ fu ih =>
      intro k x M1 L1 h1 hu hk hF1 hx hA hB hC hD
      obtain ⟨f1, f2, f3, f4, f5, f6, f7⟩ := id hF1
      have h10 : h1 41 10 = nI (R.1 0) := by rw [f5 10 (by decide)]; exact hT.1.2.1
      have hL1 : L1 ≤ R.1 0 := by have := cntG_le (fun t => decide (R.2.1 1 t = c)) (R.1 0); unfold mkN at f4; omega
      have hcM := cntG_le M1 (R.1 0)
      refine tr_iload (pc := 9) 4 dX8_followFrom_9 rfl ?_
      refine tr_aload_n (pc := 11) 0 dX8_followFrom_11 rfl rfl ?_
      refine tr_getI (pc := 12) (x := nI (R.1 0)) dX8_followFrom_12 (hS.1 41 (11, 18) rfl) fi_X8_56 rfl h10 ?_
      refine tr_icmp_ge (pc := 15) (tgt := 106) dX8_followFrom_15 (by decide) (nI_leI (by omega) (by omega)) (fun q15 => ?_) (fun q15 => ?_)
      · skip
        refine tr_iload (pc := 106) 2 dX8_followFrom_106 rfl ?_
        exact tr_iret (pc := 108) dX8_followFrom_108 rfl rfl (⟨M1, L1, rfl, rfl, hF1, hA, hB, by
            have hall : ∀ t, t < R.1 0 → M1 t = true := fun t ht => by
              cases e : M1 t with
              | true => rfl
              | false => have := cntG_lt ht e; omega
            refine hD.imp id (fun w => ⟨fun t ht _ u hu => hall u ((hW.1 t ht).2.1 u hu), fun u hu => hall u (hs u hu)⟩)⟩)
      · skip
        refine tr_iload (pc := 18) 2 dX8_followFrom_18 rfl ?_
        refine tr_if_le (pc := 20) (tgt := 106) dX8_followFrom_20 (by decide) (nI_z_le (by omega)) (fun q20 => ?_) (fun q20 => ?_)
        · skip
          refine tr_iload (pc := 106) 2 dX8_followFrom_106 rfl ?_
          exact tr_iret (pc := 108) dX8_followFrom_108 rfl rfl (⟨M1, L1, rfl, rfl, hF1, hA, hB, Or.inl (by omega)⟩)
        · skip
          refine tr_aload_n (pc := 23) 0 dX8_followFrom_23 rfl rfl ?_
          cases x with
          | none => ?_
          | some t => ?_
          · skip
            show T a 1 mX8_followFrom 24 [(0, rv a 41), (2, .int (nI (c + 1))), (4, .int (nI L1)), (5, .int (-1)), (6, .int (nI k))] [rv a 41] S h1 _
            refine tr_iload (pc := 24) 3 dX8_followFrom_24 rfl ?_
            refine tr_callV (pc := 26) (rest := []) (ci := 8) dX8_followFrom_26 ml_X8_75 cv_X8_isThing rfl rfl (Nat.le_of_ble_eq_true rfl) (hS.1 41 (11, 18) rfl) rfl (by decide) (c_isT_n hS) ?_
            rintro _ _ _ ⟨rfl, rfl, rfl⟩
            show T a 1 mX8_followFrom 29 [(0, rv a 41), (2, .int (nI (c + 1))), (4, .int (nI L1)), (5, .int (-1)), (6, .int (nI k))] [.int (nI 0)] S h1 _
            refine tr_if_eq (pc := 29) (tgt := 106) dX8_followFrom_29 (by decide) (nI_z_eq (by omega)) (fun _ => ?_) (fun hcc => absurd (by decide) hcc)
            refine tr_iload (pc := 106) 2 dX8_followFrom_106 rfl ?_
            exact tr_iret (pc := 108) dX8_followFrom_108 rfl rfl (⟨M1, L1, rfl, rfl, hF1, hA, hB, hD.imp id (fun w => ⟨cx_none w.1, fun u hu => by
                  rcases w.2 with ⟨w1, w2⟩ | w2
                  · rw [hu] at w2; cases w2
                  · exact w2 u hu⟩)⟩)
          · skip
            have ht : t < R.1 0 := hx t rfl
            show T a 1 mX8_followFrom 24 [(0, rv a 41), (2, .int (nI (c + 1))), (4, .int (nI L1)), (5, .int (nI t)), (6, .int (nI k))] [rv a 41] S h1 _
            refine tr_iload (pc := 24) 3 dX8_followFrom_24 rfl ?_
            refine tr_callV (pc := 26) (rest := []) (ci := 8) dX8_followFrom_26 ml_X8_75 cv_X8_isThing rfl rfl (Nat.le_of_ble_eq_true rfl) (hS.1 41 (11, 18) rfl) rfl (by decide) (c_isT_s hS h10 (by omega) ht) ?_
            rintro _ _ _ ⟨rfl, rfl, rfl⟩
            show T a 1 mX8_followFrom 29 [(0, rv a 41), (2, .int (nI (c + 1))), (4, .int (nI L1)), (5, .int (nI t)), (6, .int (nI k))] [.int (nI 1)] S h1 _
            refine tr_if_eq (pc := 29) (tgt := 106) dX8_followFrom_29 (by decide) (nI_z_eq (by omega)) (fun hcc => absurd hcc (by decide)) (fun _ => ?_)
            refine tr_aload_n (pc := 32) 0 dX8_followFrom_32 rfl rfl ?_
            refine tr_getR (pc := 33) (q := q + 3) dX8_followFrom_33 (hS.1 41 (11, 18) rfl) fi_X8_28 rfl r8 ?_
            refine tr_iload (pc := 36) 3 dX8_followFrom_36 rfl ?_
            refine tr_iald (pc := 38) (v := h1 (q + 3) t) t dX8_followFrom_38 z3 rfl (by omega) (by omega) rfl ?_
            refine tr_iload_n (pc := 39) 1 dX8_followFrom_39 rfl rfl ?_
            refine tr_icmp_eq (pc := 40) (tgt := 106) dX8_followFrom_40 (by decide) Iff.rfl (fun q40 => ?_) (fun q40 => ?_)
            · skip
              refine tr_iload (pc := 106) 2 dX8_followFrom_106 rfl ?_
              exact tr_iret (pc := 108) dX8_followFrom_108 rfl rfl (⟨M1, L1, rfl, rfl, hF1, hA, hB, hD.imp id (fun w => ⟨cx_seen w.1 ((f1 t ht).mpr q40), fun u hu => by
                    rcases w.2 with ⟨w1, w2⟩ | w2
                    · rw [hu] at w2; cases w2; exact (f1 _ ht).mpr q40
                    · exact w2 u hu⟩)⟩)
            · skip
              have hMt : M1 t = false := by
                cases e : M1 t with
                | false => rfl
                | true => exact absurd ((f1 t ht).mp e) q40
              have hso := (hW.1 t ht).1
              have hmk := (hW.1 t ht).2.2
              refine tr_aload_n (pc := 43) 0 dX8_followFrom_43 rfl rfl ?_
              refine tr_getR (pc := 44) (q := q + 3) dX8_followFrom_44 (hS.1 41 (11, 18) rfl) fi_X8_28 rfl r8 ?_
              refine tr_iload (pc := 47) 3 dX8_followFrom_47 rfl ?_
              refine tr_iload_n (pc := 49) 1 dX8_followFrom_49 rfl rfl ?_
              refine tr_iast (pc := 50) t dX8_followFrom_50 z3 rfl (by omega) (by omega) ?_
              refine tr_aload_n (pc := 51) 0 dX8_followFrom_51 rfl rfl ?_
              refine tr_getR (pc := 52) (q := q + 2) dX8_followFrom_52 (hS.1 41 (11, 18) rfl) fi_X8_25 rfl r7 ?_
              refine tr_iload (pc := 55) 3 dX8_followFrom_55 rfl ?_
              refine tr_iald (pc := 57) (v := nI (R.2.1 1 t + 1)) t dX8_followFrom_57 z2 rfl (by omega) (by omega) (by rw [hs_ne (by omega), f6 _ (by omega) (by omega) (by omega)]; exact (hT.2.1 t ht).2.2) ?_
              refine tr_iload_n (pc := 58) 1 dX8_followFrom_58 rfl rfl ?_
              refine tr_icmp_ne (pc := 59) (tgt := 91) dX8_followFrom_59 (by decide) (nI_eq (by omega) (by omega)) (fun q59 => ?_) (fun q59 => ?_)
              · skip
                refine tr_aload_n (pc := 91) 0 dX8_followFrom_91 rfl rfl ?_
                refine tr_getR (pc := 92) (q := q + 1) dX8_followFrom_92 (hS.1 41 (11, 18) rfl) fi_X8_22 rfl r6 ?_
                refine tr_iload (pc := 95) 3 dX8_followFrom_95 rfl ?_
                refine tr_iald (pc := 97) (v := tv (R.2.2.1 t)) t dX8_followFrom_97 z1 rfl (by omega) (by omega) (by rw [hs_ne (by omega), f6 _ (by omega) (by omega) (by omega)]; exact (hT.2.1 t ht).2.1) ?_
                refine tr_istore (pc := 98) (lv' := [(5, .int (tv (R.2.2.1 t))), (0, rv a 41), (2, .int (nI (c + 1))), (4, .int (nI L1)), (6, .int (nI k))]) dX8_followFrom_98 (by decide) rfl ?_
                refine tr_iinc (pc := 100) (v := nI (k + 1)) (lv' := [(6, .int (nI (k + 1))), (5, .int (tv (R.2.2.1 t))), (0, rv a 41), (2, .int (nI (c + 1))), (4, .int (nI L1))]) 4 dX8_followFrom_100 rfl (by rw [show Int32.ofInt 1 = nI 1 from by decide, nI_add]) (by decide) rfl ?_
                refine tr_goto (pc := 103) (tgt := 9) dX8_followFrom_103 (by decide) ?_
                refine tr_sub (pc := 9) (lv' := [(0, rv a 41), (2, .int (nI (c + 1))), (4, .int (nI L1)), (5, .int (tv (R.2.2.1 t))), (6, .int (nI (k + 1)))]) [2, 3, 4, 1, 0] rfl ?_
                exact ih (k + 1) (R.2.2.1 t) (ub M1 t) L1 _ (by omega) (by rw [cntG_ub ht hMt ub_s (fun j hj => ub_n hj)]; omega) (fw_mark hF1 hq ht hMt (by omega)) (hW.1 t ht).2.1 (fun u hu => ub_m (hA u hu)) (fun u hu1 hu2 => by
                  by_cases e : u = t
                  · subst e; exact Or.inr (hC u rfl)
                  · rw [ub_n e] at hu2; exact hB u hu1 hu2) (fun u hu => Rch_step (hC t rfl) hu) (Or.inr ⟨cx_step (hD.resolve_left (by omega)).1, Or.inr (fun u hu => by
                  rcases (hD.resolve_left (by omega)).2 with ⟨w1, w2⟩ | w
                  · rw [hu] at w2; cases w2; exact ub_s
                  · exact ub_m (w u hu))⟩)
              · skip
                refine tr_aload_n (pc := 62) 0 dX8_followFrom_62 rfl rfl ?_
                refine tr_dup (pc := 63) dX8_followFrom_63 rfl ?_
                refine tr_getI (pc := 64) (x := h1 41 14) dX8_followFrom_64 (hS.1 41 (11, 18) rfl) fi_X8_68 rfl (by rw [hs_ne (by omega)]) ?_
                refine tr_iconst (pc := 67) (v := nI 1) dX8_followFrom_67 (by decide) ?_
                refine tr_iadd (pc := 68) (v := (h1 41 14) + (nI 1)) dX8_followFrom_68 rfl ?_
                refine tr_putI (pc := 69) (x := (h1 41 14) + (nI 1)) dX8_followFrom_69 (hS.1 41 (11, 18) rfl) fi_X8_68 rfl rfl rfl ?_
                refine tr_aload_n (pc := 72) 0 dX8_followFrom_72 rfl rfl ?_
                refine tr_getR (pc := 73) (q := 48) dX8_followFrom_73 (hS.1 41 (11, 18) rfl) fi_X8_34 rfl (hS.2 41 16 48 rfl) ?_
                refine tr_aload_n (pc := 76) 0 dX8_followFrom_76 rfl rfl ?_
                refine tr_getR (pc := 77) (q := q) dX8_followFrom_77 (hS.1 41 (11, 18) rfl) fi_X8_19 rfl r5 ?_
                refine tr_iload (pc := 80) 3 dX8_followFrom_80 rfl ?_
                refine tr_iald (pc := 82) (v := nI (R.2.1 0 t)) t dX8_followFrom_82 z0 rfl (by omega) (by omega) (by rw [hs_ne (by omega), hs_ne (by omega), f6 _ (by omega) (by omega) (by omega)]; exact (hT.2.1 t ht).1) ?_
                refine tr_dup2 (pc := 83) dX8_followFrom_83 rfl rfl ?_
                refine tr_iald (pc := 84) (v := h1 48 (R.2.1 0 t)) (R.2.1 0 t) dX8_followFrom_84 (hS.1 48 (0, 32) rfl) rfl (by omega) (by decide) (by rw [hs_ne (by omega), hs_ne (by omega)]) ?_
                refine tr_iconst (pc := 85) (v := nI 1) dX8_followFrom_85 (by decide) ?_
                refine tr_iadd (pc := 86) (v := (h1 48 (R.2.1 0 t)) + (nI 1)) dX8_followFrom_86 rfl ?_
                refine tr_iast (pc := 87) (R.2.1 0 t) dX8_followFrom_87 (hS.1 48 (0, 32) rfl) rfl (by omega) (by decide) ?_
                refine tr_iinc (pc := 88) (v := nI (L1 - 1)) (lv' := [(4, .int (nI (L1 - 1))), (0, rv a 41), (2, .int (nI (c + 1))), (5, .int (nI t)), (6, .int (nI k))]) 2 dX8_followFrom_88 rfl (by rw [show L1 = (L1 - 1) + 1 by omega, show Int32.ofInt (-1) = -1 by decide, pk_m1]; rfl) (by decide) rfl ?_
                refine tr_aload_n (pc := 91) 1 dX8_followFrom_91 rfl rfl ?_
                refine tr_getR (pc := 92) (q := q + 1) dX8_followFrom_92 (hS.1 41 (11, 18) rfl) fi_X8_22 rfl r6 ?_
                refine tr_iload (pc := 95) 3 dX8_followFrom_95 rfl ?_
                refine tr_iald (pc := 97) (v := tv (R.2.2.1 t)) t dX8_followFrom_97 z1 rfl (by omega) (by omega) (by rw [hs_ne (by omega), hs_ne (by omega), hs_ne (by omega), f6 _ (by omega) (by omega) (by omega)]; exact (hT.2.1 t ht).2.1) ?_
                refine tr_istore (pc := 98) (lv' := [(5, .int (tv (R.2.2.1 t))), (4, .int (nI (L1 - 1))), (0, rv a 41), (2, .int (nI (c + 1))), (6, .int (nI k))]) dX8_followFrom_98 (by decide) rfl ?_
                refine tr_iinc (pc := 100) (v := nI (k + 1)) (lv' := [(6, .int (nI (k + 1))), (5, .int (tv (R.2.2.1 t))), (4, .int (nI (L1 - 1))), (0, rv a 41), (2, .int (nI (c + 1)))]) 4 dX8_followFrom_100 rfl (by rw [show Int32.ofInt 1 = nI 1 from by decide, nI_add]) (by decide) rfl ?_
                refine tr_goto (pc := 103) (tgt := 9) dX8_followFrom_103 (by decide) ?_
                refine tr_sub (pc := 9) (lv' := [(0, rv a 41), (2, .int (nI (c + 1))), (4, .int (nI (L1 - 1))), (5, .int (tv (R.2.2.1 t))), (6, .int (nI (k + 1)))]) [3, 4, 2, 1, 0] rfl ?_
                obtain ⟨L2, rfl⟩ : ∃ z, L1 = z + 1 := ⟨L1 - 1, by omega⟩
                exact ih (k + 1) (R.2.2.1 t) (ub M1 t) L2 _ (by omega) (by rw [cntG_ub ht hMt ub_s (fun j hj => ub_n hj)]; omega) (fw_leak hF1 hq ht hMt (by omega) (by omega) (by rw [hs_ne (by omega), hs_ne (by omega), hs_same]) (by rw [hs_ne (by omega), hs_same, hs_ne (by omega)]) (by rw [hs_same, hs_ne (by omega), hs_ne (by omega)]) (fun j j1 j2 j3 => by rw [hs_ne j2, hs_ne j1, hs_ne j3])) (hW.1 t ht).2.1 (fun u hu => ub_m (hA u hu)) (fun u hu1 hu2 => by
                  by_cases e : u = t
                  · subst e; exact Or.inr (hC u rfl)
                  · rw [ub_n e] at hu2; exact hB u hu1 hu2) (fun u hu => Rch_step (hC t rfl) hu) (Or.inr ⟨cx_step (hD.resolve_left (by omega)).1, Or.inr (fun u hu => by
                  rcases (hD.resolve_left (by omega)).2 with ⟨w1, w2⟩ | w
                  · rw [hu] at w2; cases w2; exact ub_s
                  · exact ub_m (w u hu))⟩)
  exact L9 (R.1 0 + 1) 0 s M L h (by omega) (Nat.zero_le _) hF hs (fun _ h => h) (fun t _ h => Or.inl h) (fun u hu => by rw [hu]; exact Rch_0) (hM.imp id (fun h => ⟨h.cx, Or.inl ⟨rfl, rfl⟩⟩))

theorem fw_fin {h0 h : Hp} {q c L1 L2 L3 : Nat} {P : Prog} {R : RS} {g r : OT} {M1 M2 M3 : Nat → Bool} (hW : WF P R) (hg : okT (R.1 0) g) (hr : okT (R.1 0) r) (e1 : FwE R r (fun _ => false) M1 L1) (e2 : FwE R g M1 M2 L2) (e3 : FwE R R.2.2.2 M2 M3 L3) (c1 : L1 + cntG (fun t => M1 t && decide (R.2.1 1 t = c)) (R.1 0) = mkN R c) (c2 : L2 + cntG (fun t => M2 t && decide (R.2.1 1 t = c)) (R.1 0) = mkN R c) (c3 : L3 + cntG (fun t => M3 t && decide (R.2.1 1 t = c)) (R.1 0) = mkN R c) : ∀ t, t < R.1 0 → (M3 t && decide (R.2.1 1 t = c)) = lkB R c g r t := by
  obtain ⟨a1, b1, d1⟩ := e1
  obtain ⟨a2, b2, d2⟩ := e2
  obtain ⟨a3, b3, d3⟩ := e3
  have m12 := cntG_sub (f := fun t => M1 t && decide (R.2.1 1 t = c)) (g := fun t => M2 t && decide (R.2.1 1 t = c)) (n := R.1 0) (fun j _ hj => by
    simp only [Bool.and_eq_true] at hj ⊢; exact ⟨a2 j hj.1, hj.2⟩)
  have m23 := cntG_sub (f := fun t => M2 t && decide (R.2.1 1 t = c)) (g := fun t => M3 t && decide (R.2.1 1 t = c)) (n := R.1 0) (fun j _ hj => by
    simp only [Bool.and_eq_true] at hj ⊢; exact ⟨a3 j hj.1, hj.2⟩)
  have sub : ∀ t, t < R.1 0 → M3 t = true → rAll R g r t := by
    intro t ht h3
    rcases b3 t ht h3 with h2 | h2
    · rcases b2 t ht h2 with h1 | h1
      · rcases b1 t ht h1 with h0 | h0
        · cases h0
        · exact Or.inr (Or.inr h0)
      · exact Or.inr (Or.inl h1)
    · exact Or.inl h2
  have hf : ∀ t, t < R.1 0 → okT (R.1 0) (R.2.2.1 t) := fun t ht => (hW.1 t ht).2.1
  intro t ht
  unfold lkB
  by_cases z : L3 = 0
  · have full := cntG_full (f := fun t => M3 t && decide (R.2.1 1 t = c)) (g := fun t => decide (R.2.1 1 t = c)) (n := R.1 0) (fun j _ hj => by simp only [Bool.and_eq_true] at hj; exact hj.2) (by unfold mkN at c3; omega) t ht
    by_cases e : R.2.1 1 t = c
    · have h3 : M3 t = true := by simpa [e] using full
      simp [e, h3, sub t ht h3]
    · simp [e]
  · obtain ⟨cl3, o3⟩ := d3.resolve_left z
    obtain ⟨cl2, o2⟩ := d2.resolve_left (by omega)
    obtain ⟨cl1, o1⟩ := d1.resolve_left (by omega)
    have back : rAll R g r t → M3 t = true := by
      rintro (w | w | w)
      · exact cl_reach cl3 hf hW.2 o3 t w
      · exact cl_reach cl3 hf hg (fun u hu => a3 u (o2 u hu)) t w
      · exact cl_reach cl3 hf hr (fun u hu => a3 u (a2 u (o1 u hu))) t w
    cases h3 : M3 t with
    | true => simp [sub t ht h3]
    | false =>
      have : ¬ rAll R g r t := fun w => by rw [back w] at h3; cases h3
      simp [this]
theorem th_leak {h h3 : Hp} {q c L3 : Nat} {R : RS} {f : Bool} {g r : OT} {M3 : Nat → Bool} (hq : q = 43 ∨ 76 ≤ q) (hT : TH h q R f) (hF : FwS h h3 q R c M3 L3) (hM : ∀ t, t < R.1 0 → (M3 t && decide (R.2.1 1 t = c)) = lkB R c g r t) : TH h3 q (rLeak R c g r) f := by
  obtain ⟨⟨t9, t10, t11, t12, t13, t14, t4⟩, tt, ts⟩ := hT
  obtain ⟨f1, f2, f3, f4, f5, f6, f7⟩ := hF
  have s0 : (rLeak R c g r).1 0 = R.1 0 := by simp [rLeak, un]
  have s1 : (rLeak R c g r).1 1 = R.1 1 := by simp [rLeak, un]
  have s2 : (rLeak R c g r).1 2 = R.1 2 := by simp [rLeak, un]
  have s3 : (rLeak R c g r).1 3 = R.1 3 := by simp [rLeak, un]
  have s4 : (rLeak R c g r).1 4 = R.1 4 + cntG (lkB R c g r) (R.1 0) := by simp [rLeak, un]
  have a0 : (rLeak R c g r).2.1 0 = R.2.1 0 := by simp [rLeak, ua]
  have a1 : (rLeak R c g r).2.1 1 = R.2.1 1 := by simp [rLeak, ua]
  have a2 : (rLeak R c g r).2.1 2 = R.2.1 2 := by simp [rLeak, ua]
  have a3 : (rLeak R c g r).2.1 3 = fun s => R.2.1 3 s + cntG (fun t => lkB R c g r t && decide (R.2.1 0 t = s)) (R.1 0) := by simp [rLeak, ua]
  have a4 : (rLeak R c g r).2.1 4 = R.2.1 4 := by simp [rLeak, ua]
  refine ⟨⟨by rw [f5 9 (by decide)]; exact t9, by rw [f5 10 (by decide), s0]; exact t10, by rw [f5 11 (by decide), s1]; exact t11, by rw [f5 12 (by decide), s2]; exact t12, by rw [f5 13 (by decide), s3]; exact t13, by rw [s4, f2, cntG_congr hM], by rw [f5 4 (by decide)]; exact t4⟩, fun t ht => ?_, fun s hs => ?_⟩
  · rw [s0] at ht
    rw [f6 q (by omega) (by omega) (by omega), f6 (q + 1) (by omega) (by omega) (by omega), f6 (q + 2) (by omega) (by omega) (by omega), a0, a1]
    exact tt t ht
  · rw [f6 47 (by decide) (by decide) (by omega), f6 49 (by decide) (by decide) (by omega), a2, a3, a4]
    refine ⟨(ts s hs).1, ?_, (ts s hs).2.2⟩
    rw [f3 s hs]
    congr 2
    exact cntG_congr (fun t ht => by rw [hM t ht])
theorem fw_0 {h : Hp} {q c : Nat} {R : RS} {f : Bool} (hT : TH h q R f) (hsee : ∀ t, t < R.1 0 → h (q + 3) t ≠ nI (c + 1)) : FwS h h q R c (fun _ => false) (mkN R c) := by
  have z : ∀ f : Nat → Bool, cntG (fun t => (false && f t)) (R.1 0) = 0 := fun f => cntG_0 (fun s _ => by simp)
  refine ⟨fun t ht => ⟨fun w => (by cases w), fun w => absurd w (hsee t ht)⟩, ?_, fun s hs => ?_, ?_, fun _ _ => rfl, fun _ _ _ _ => rfl, fun _ _ => Or.inl rfl⟩
  · rw [z]; exact hT.1.2.2.2.2.2.1
  · have : cntG (fun t => (false && decide (R.2.1 1 t = c)) && decide (R.2.1 0 t = s)) (R.1 0) = 0 := cntG_0 (fun s _ => by simp)
    rw [this]; exact (hT.2.2 s hs).2.1
  · rw [z]; omega
set_option maxHeartbeats 4000000 in
set_option maxRecDepth 100000 in
theorem c_findLeaks {a : Am} {S : St} {h : Hp} (hS : IsSt S) {P : Prog} (hV : VB P) (hC : SC h P) {q cap : Nat} (hQ : TQ S q cap) {R : RS} {f : Bool} (hT : TH h q R f) (hW : WF P R) (hn : R.1 0 ≤ cap) (hcl : R.1 3 < 2 ^ 30) {m c : Nat} (hm : m < P.length) (hc : c < R.1 3) (hmk : mkN R c = (sitesM P m (lnN P m)).length) {g r : OT} (hg : okT (R.1 0) g) (hr : okT (R.1 0) r) (hsee : ∀ t, t < R.1 0 → h (q + 3) t ≠ nI (c + 1)) : CT a 2 mX8_findLeaks [rv a 41, .int (nI m), .int (nI (c + 1)), .int (tv g), .int (tv r)] S h (fun v S' h' => v = none ∧ S = S' ∧ TH h' q (rLeak R c g r) f ∧ (∀ j, j ≠ 41 → j ≠ 48 → j ≠ q + 3 → h' j = h j) ∧ ∀ t, t < R.1 0 → h' (q + 3) t = h (q + 3) t ∨ h' (q + 3) t = nI (c + 1)) := by
  obtain ⟨⟨r5, r6, r7, r8⟩, ⟨z0, z1, z2, z3⟩, hq, hc1, hc2, hlev⟩ := id hQ
  refine met_of (by decide +kernel) (Nat.le_of_ble_eq_true rfl) ?_
  show T a 2 mX8_findLeaks 0 [(0, rv a 41), (1, .int (nI m)), (2, .int (nI (c + 1))), (3, .int (tv g)), (4, .int (tv r))] [] S h _
  refine tr_aload_n (pc := 0) 0 dX8_findLeaks_0 rfl rfl ?_
  refine tr_getR (pc := 1) (q := 31) dX8_findLeaks_1 (hS.1 41 (11, 18) rfl) fi_X8_44 rfl (hS.2 41 1 31 rfl) ?_
  refine tr_iload_n (pc := 4) 1 dX8_findLeaks_4 rfl rfl ?_
  refine tr_callV (pc := 5) (rest := []) (ci := 4) dX8_findLeaks_5 ml_X8_157 cv_X4_inMethod rfl rfl (Nat.le_of_ble_eq_true rfl) (hS.1 31 (7, 4) rfl) rfl (by decide) (c_inMethod hS hV hC hm) ?_
  rintro _ _ _ ⟨rfl, rfl, rfl⟩
  show T a 2 mX8_findLeaks 8 [(0, rv a 41), (1, .int (nI m)), (2, .int (nI (c + 1))), (3, .int (tv g)), (4, .int (tv r))] [.int (nI ((sitesM P m (lnN P m)).length))] S h _
  refine tr_istore (pc := 8) (lv' := [(5, .int (nI ((sitesM P m (lnN P m)).length))), (0, rv a 41), (1, .int (nI m)), (2, .int (nI (c + 1))), (3, .int (tv g)), (4, .int (tv r))]) dX8_findLeaks_8 (by decide) rfl ?_
  refine tr_aload_n (pc := 10) 1 dX8_findLeaks_10 rfl rfl ?_
  refine tr_iload (pc := 11) 5 dX8_findLeaks_11 rfl ?_
  refine tr_iload_n (pc := 13) 3 dX8_findLeaks_13 rfl rfl ?_
  refine tr_iload (pc := 14) 0 dX8_findLeaks_14 rfl ?_
  refine tr_callV (pc := 16) (rest := []) (ci := 8) dX8_findLeaks_16 ml_X8_160 cv_X8_followFrom rfl rfl (Nat.le_of_ble_eq_true rfl) (hS.1 41 (11, 18) rfl) rfl (by decide) (c_follow hS hV hQ hT hW hn hcl hc (by rw [← hmk]; exact fw_0 hT hsee) (Or.inr (fun t _ hm => by cases hm)) hr) ?_
  rintro v1 S1 h1 ⟨M1, L1, rfl, rfl, hF1, hE1⟩
  show T a 2 mX8_findLeaks 19 [(5, .int (nI ((sitesM P m (lnN P m)).length))), (0, rv a 41), (1, .int (nI m)), (2, .int (nI (c + 1))), (3, .int (tv g)), (4, .int (tv r))] [.int (nI L1)] S h1 _
  refine tr_istore (pc := 19) (lv' := [(5, .int (nI L1)), (0, rv a 41), (1, .int (nI m)), (2, .int (nI (c + 1))), (3, .int (tv g)), (4, .int (tv r))]) dX8_findLeaks_19 (by decide) rfl ?_
  refine tr_aload_n (pc := 21) 1 dX8_findLeaks_21 rfl rfl ?_
  refine tr_iload_n (pc := 22) 4 dX8_findLeaks_22 rfl rfl ?_
  refine tr_iload_n (pc := 23) 3 dX8_findLeaks_23 rfl rfl ?_
  refine tr_iload (pc := 24) 0 dX8_findLeaks_24 rfl ?_
  refine tr_callV (pc := 26) (rest := []) (ci := 8) dX8_findLeaks_26 ml_X8_160 cv_X8_followFrom rfl rfl (Nat.le_of_ble_eq_true rfl) (hS.1 41 (11, 18) rfl) rfl (by decide) (c_follow hS hV hQ hT hW hn hcl hc hF1 (hE1.2.2.imp id (fun w => w.1)) hg) ?_
  rintro v2 S2 h2 ⟨M2, L2, rfl, rfl, hF2, hE2⟩
  show T a 2 mX8_findLeaks 29 [(5, .int (nI L1)), (0, rv a 41), (1, .int (nI m)), (2, .int (nI (c + 1))), (3, .int (tv g)), (4, .int (tv r))] [.int (nI L2)] S h2 _
  refine tr_istore (pc := 29) (lv' := [(5, .int (nI L2)), (0, rv a 41), (1, .int (nI m)), (2, .int (nI (c + 1))), (3, .int (tv g)), (4, .int (tv r))]) dX8_findLeaks_29 (by decide) rfl ?_
  refine tr_aload_n (pc := 31) 1 dX8_findLeaks_31 rfl rfl ?_
  refine tr_aload_n (pc := 32) 1 dX8_findLeaks_32 rfl rfl ?_
  refine tr_getI (pc := 33) (x := tv R.2.2.2) dX8_findLeaks_33 (hS.1 41 (11, 18) rfl) fi_X8_15 rfl (by rw [hF2.2.2.2.2.1 4 (by decide)]; exact hT.1.2.2.2.2.2.2) ?_
  refine tr_iload_n (pc := 36) 3 dX8_findLeaks_36 rfl rfl ?_
  refine tr_iload (pc := 37) 0 dX8_findLeaks_37 rfl ?_
  refine tr_callV (pc := 39) (rest := []) (ci := 8) dX8_findLeaks_39 ml_X8_160 cv_X8_followFrom rfl rfl (Nat.le_of_ble_eq_true rfl) (hS.1 41 (11, 18) rfl) rfl (by decide) (c_follow hS hV hQ hT hW hn hcl hc hF2 (hE2.2.2.imp id (fun w => w.1)) hW.2) ?_
  rintro v3 S3 h3 ⟨M3, L3, rfl, rfl, hF3, hE3⟩
  show T a 2 mX8_findLeaks 42 [(5, .int (nI L2)), (0, rv a 41), (1, .int (nI m)), (2, .int (nI (c + 1))), (3, .int (tv g)), (4, .int (tv r))] [.int (nI L3)] S h3 _
  refine tr_pop (pc := 42) dX8_findLeaks_42 rfl ?_
  exact tr_vret (pc := 43) dX8_findLeaks_43 rfl (⟨rfl, rfl, th_leak hq hT hF3 (fw_fin (h0 := h) (h := h3) (q := q) hW hg hr hE1 hE2 hE3 hF1.2.2.2.1 hF2.2.2.2.1 hF3.2.2.2.1), hF3.2.2.2.2.2.1, hF3.2.2.2.2.2.2⟩)
