def TrOk (S : St) (h : Hp) (P : Prog) : Prop := ∃ q cap, TQ S q cap ∧ (runP P).1.1 0 ≤ cap ∧ TH h q (runP P).1 (runP P).2.2
def TQx (S : St) : Prop := ∃ q cap, TQ S q cap
theorem wf_0 {P : Prog} : WF P R0 := ⟨fun t ht => by exact absurd ht (Nat.not_lt_zero _), okT.none⟩
theorem TrOk.fr {S : St} {h h' : Hp} {P : Prog} (k : TrOk S h P) (hh : ∀ o, o ∈ tL ∨ 76 ≤ o → h' o = h o) : TrOk S h' P := by
  obtain ⟨q, cap, a1, a2, a3⟩ := k
  have hq := a1.2.2.1
  refine ⟨q, cap, a1, a2, ?_⟩
  unfold TH
  have t0 := tl_q (j := 0) hq (by decide)
  rw [Nat.add_zero] at t0
  rw [hh 41 (Or.inl (by decide)), hh q t0, hh (q + 1) (tl_q hq (by decide)), hh (q + 2) (tl_q hq (by decide)), hh 47 (Or.inl (by decide)), hh 48 (Or.inl (by decide)), hh 49 (Or.inl (by decide))]
  exact a3
set_option maxHeartbeats 4000000 in
set_option maxRecDepth 100000 in
theorem c_start {a : Am} {S : St} {h : Hp} (hS : IsSt S) {P : Prog} (hVP : VP P) (hMP : MP h 3 P) (hFn : Fnd h P) {q cap : Nat} (hQ : TQ S q cap) : CT a 17 mX8_start [rv a 41] S h (fun v S' h' => v = none ∧ TrOk S' h' P ∧ Sg S S' ∧ Ft h h') := by
  refine met_of (by decide +kernel) (Nat.le_of_ble_eq_true rfl) ?_
  show T a 17 mX8_start 0 [(0, rv a 41)] [] S h _
  refine tr_aload_n (pc := 0) 0 dX8_start_0 rfl rfl ?_
  refine tr_iconst (pc := 1) (v := nI 0) dX8_start_1 (by decide) ?_
  refine tr_putI (pc := 2) (x := nI 0) dX8_start_2 (hS.1 41 (11, 18) rfl) fi_X8_52 rfl (by decide) (by decide) ?_
  refine tr_aload_n (pc := 5) 0 dX8_start_5 rfl rfl ?_
  refine tr_iconst (pc := 6) (v := nI 0) dX8_start_6 (by decide) ?_
  refine tr_putI (pc := 7) (x := nI 0) dX8_start_7 (hS.1 41 (11, 18) rfl) fi_X8_56 rfl rfl rfl ?_
  refine tr_aload_n (pc := 10) 0 dX8_start_10 rfl rfl ?_
  refine tr_iconst (pc := 11) (v := nI 0) dX8_start_11 (by decide) ?_
  refine tr_putI (pc := 12) (x := nI 0) dX8_start_12 (hS.1 41 (11, 18) rfl) fi_X8_59 rfl rfl rfl ?_
  refine tr_aload_n (pc := 15) 0 dX8_start_15 rfl rfl ?_
  refine tr_iconst (pc := 16) (v := nI 0) dX8_start_16 (by decide) ?_
  refine tr_putI (pc := 17) (x := nI 0) dX8_start_17 (hS.1 41 (11, 18) rfl) fi_X8_62 rfl rfl rfl ?_
  refine tr_aload_n (pc := 20) 0 dX8_start_20 rfl rfl ?_
  refine tr_iconst (pc := 21) (v := nI 0) dX8_start_21 (by decide) ?_
  refine tr_putI (pc := 22) (x := nI 0) dX8_start_22 (hS.1 41 (11, 18) rfl) fi_X8_65 rfl rfl rfl ?_
  refine tr_aload_n (pc := 25) 0 dX8_start_25 rfl rfl ?_
  refine tr_iconst (pc := 26) (v := nI 0) dX8_start_26 (by decide) ?_
  refine tr_putI (pc := 27) (x := nI 0) dX8_start_27 (hS.1 41 (11, 18) rfl) fi_X8_68 rfl rfl rfl ?_
  refine tr_aload_n (pc := 30) 0 dX8_start_30 rfl rfl ?_
  refine tr_iconst (pc := 31) (v := -1) dX8_start_31 (by decide) ?_
  refine tr_putI (pc := 32) (x := -1) dX8_start_32 (hS.1 41 (11, 18) rfl) fi_X8_15 rfl rfl rfl ?_
  obtain ⟨h1, e1⟩ : ∃ X, X = (hs (hs (hs (hs (hs (hs (hs h 41 (upd (h 41) 9 (nI 0))) 41 (upd ((hs h 41 (upd (h 41) 9 (nI 0))) 41) 10 (nI 0))) 41 (upd ((hs (hs h 41 (upd (h 41) 9 (nI 0))) 41 (upd ((hs h 41 (upd (h 41) 9 (nI 0))) 41) 10 (nI 0))) 41) 11 (nI 0))) 41 (upd ((hs (hs (hs h 41 (upd (h 41) 9 (nI 0))) 41 (upd ((hs h 41 (upd (h 41) 9 (nI 0))) 41) 10 (nI 0))) 41 (upd ((hs (hs h 41 (upd (h 41) 9 (nI 0))) 41 (upd ((hs h 41 (upd (h 41) 9 (nI 0))) 41) 10 (nI 0))) 41) 11 (nI 0))) 41) 12 (nI 0))) 41 (upd ((hs (hs (hs (hs h 41 (upd (h 41) 9 (nI 0))) 41 (upd ((hs h 41 (upd (h 41) 9 (nI 0))) 41) 10 (nI 0))) 41 (upd ((hs (hs h 41 (upd (h 41) 9 (nI 0))) 41 (upd ((hs h 41 (upd (h 41) 9 (nI 0))) 41) 10 (nI 0))) 41) 11 (nI 0))) 41 (upd ((hs (hs (hs h 41 (upd (h 41) 9 (nI 0))) 41 (upd ((hs h 41 (upd (h 41) 9 (nI 0))) 41) 10 (nI 0))) 41 (upd ((hs (hs h 41 (upd (h 41) 9 (nI 0))) 41 (upd ((hs h 41 (upd (h 41) 9 (nI 0))) 41) 10 (nI 0))) 41) 11 (nI 0))) 41) 12 (nI 0))) 41) 13 (nI 0))) 41 (upd ((hs (hs (hs (hs (hs h 41 (upd (h 41) 9 (nI 0))) 41 (upd ((hs h 41 (upd (h 41) 9 (nI 0))) 41) 10 (nI 0))) 41 (upd ((hs (hs h 41 (upd (h 41) 9 (nI 0))) 41 (upd ((hs h 41 (upd (h 41) 9 (nI 0))) 41) 10 (nI 0))) 41) 11 (nI 0))) 41 (upd ((hs (hs (hs h 41 (upd (h 41) 9 (nI 0))) 41 (upd ((hs h 41 (upd (h 41) 9 (nI 0))) 41) 10 (nI 0))) 41 (upd ((hs (hs h 41 (upd (h 41) 9 (nI 0))) 41 (upd ((hs h 41 (upd (h 41) 9 (nI 0))) 41) 10 (nI 0))) 41) 11 (nI 0))) 41) 12 (nI 0))) 41 (upd ((hs (hs (hs (hs h 41 (upd (h 41) 9 (nI 0))) 41 (upd ((hs h 41 (upd (h 41) 9 (nI 0))) 41) 10 (nI 0))) 41 (upd ((hs (hs h 41 (upd (h 41) 9 (nI 0))) 41 (upd ((hs h 41 (upd (h 41) 9 (nI 0))) 41) 10 (nI 0))) 41) 11 (nI 0))) 41 (upd ((hs (hs (hs h 41 (upd (h 41) 9 (nI 0))) 41 (upd ((hs h 41 (upd (h 41) 9 (nI 0))) 41) 10 (nI 0))) 41 (upd ((hs (hs h 41 (upd (h 41) 9 (nI 0))) 41 (upd ((hs h 41 (upd (h 41) 9 (nI 0))) 41) 10 (nI 0))) 41) 11 (nI 0))) 41) 12 (nI 0))) 41) 13 (nI 0))) 41) 14 (nI 0))) 41 (upd ((hs (hs (hs (hs (hs (hs h 41 (upd (h 41) 9 (nI 0))) 41 (upd ((hs h 41 (upd (h 41) 9 (nI 0))) 41) 10 (nI 0))) 41 (upd ((hs (hs h 41 (upd (h 41) 9 (nI 0))) 41 (upd ((hs h 41 (upd (h 41) 9 (nI 0))) 41) 10 (nI 0))) 41) 11 (nI 0))) 41 (upd ((hs (hs (hs h 41 (upd (h 41) 9 (nI 0))) 41 (upd ((hs h 41 (upd (h 41) 9 (nI 0))) 41) 10 (nI 0))) 41 (upd ((hs (hs h 41 (upd (h 41) 9 (nI 0))) 41 (upd ((hs h 41 (upd (h 41) 9 (nI 0))) 41) 10 (nI 0))) 41) 11 (nI 0))) 41) 12 (nI 0))) 41 (upd ((hs (hs (hs (hs h 41 (upd (h 41) 9 (nI 0))) 41 (upd ((hs h 41 (upd (h 41) 9 (nI 0))) 41) 10 (nI 0))) 41 (upd ((hs (hs h 41 (upd (h 41) 9 (nI 0))) 41 (upd ((hs h 41 (upd (h 41) 9 (nI 0))) 41) 10 (nI 0))) 41) 11 (nI 0))) 41 (upd ((hs (hs (hs h 41 (upd (h 41) 9 (nI 0))) 41 (upd ((hs h 41 (upd (h 41) 9 (nI 0))) 41) 10 (nI 0))) 41 (upd ((hs (hs h 41 (upd (h 41) 9 (nI 0))) 41 (upd ((hs h 41 (upd (h 41) 9 (nI 0))) 41) 10 (nI 0))) 41) 11 (nI 0))) 41) 12 (nI 0))) 41) 13 (nI 0))) 41 (upd ((hs (hs (hs (hs (hs h 41 (upd (h 41) 9 (nI 0))) 41 (upd ((hs h 41 (upd (h 41) 9 (nI 0))) 41) 10 (nI 0))) 41 (upd ((hs (hs h 41 (upd (h 41) 9 (nI 0))) 41 (upd ((hs h 41 (upd (h 41) 9 (nI 0))) 41) 10 (nI 0))) 41) 11 (nI 0))) 41 (upd ((hs (hs (hs h 41 (upd (h 41) 9 (nI 0))) 41 (upd ((hs h 41 (upd (h 41) 9 (nI 0))) 41) 10 (nI 0))) 41 (upd ((hs (hs h 41 (upd (h 41) 9 (nI 0))) 41 (upd ((hs h 41 (upd (h 41) 9 (nI 0))) 41) 10 (nI 0))) 41) 11 (nI 0))) 41) 12 (nI 0))) 41 (upd ((hs (hs (hs (hs h 41 (upd (h 41) 9 (nI 0))) 41 (upd ((hs h 41 (upd (h 41) 9 (nI 0))) 41) 10 (nI 0))) 41 (upd ((hs (hs h 41 (upd (h 41) 9 (nI 0))) 41 (upd ((hs h 41 (upd (h 41) 9 (nI 0))) 41) 10 (nI 0))) 41) 11 (nI 0))) 41 (upd ((hs (hs (hs h 41 (upd (h 41) 9 (nI 0))) 41 (upd ((hs h 41 (upd (h 41) 9 (nI 0))) 41) 10 (nI 0))) 41 (upd ((hs (hs h 41 (upd (h 41) 9 (nI 0))) 41 (upd ((hs h 41 (upd (h 41) 9 (nI 0))) 41) 10 (nI 0))) 41) 11 (nI 0))) 41) 12 (nI 0))) 41) 13 (nI 0))) 41) 14 (nI 0))) 41) 4 (-1))) := ⟨_, rfl⟩
  rw [← e1]
  refine tr_aload_n (pc := 35) 0 dX8_start_35 rfl rfl ?_
  refine tr_getR (pc := 36) (q := 47) dX8_start_36 (hS.1 41 (11, 18) rfl) fi_X8_31 rfl (hS.2 41 15 47 rfl) ?_
  refine tr_iconst (pc := 39) (v := nI 0) dX8_start_39 (by decide) ?_
  refine tr_callS (pc := 40) (rest := []) dX8_start_40 ml_X8_79 cs_J7_fill_53178 rfl rfl (Nat.le_of_ble_eq_true rfl) (by decide) (c_fill (hS.1 47 _ rfl) (by decide)) ?_
  rintro v1 S1 h2 ⟨rfl, rfl, f1, hf1, rfl⟩
  show T a 17 mX8_start 43 [(0, rv a 41)] [] S (hs h1 47 f1) _
  refine tr_aload_n (pc := 43) 0 dX8_start_43 rfl rfl ?_
  refine tr_getR (pc := 44) (q := 48) dX8_start_44 (hS.1 41 (11, 18) rfl) fi_X8_34 rfl (hS.2 41 16 48 rfl) ?_
  refine tr_iconst (pc := 47) (v := nI 0) dX8_start_47 (by decide) ?_
  refine tr_callS (pc := 48) (rest := []) dX8_start_48 ml_X8_79 cs_J7_fill_53178 rfl rfl (Nat.le_of_ble_eq_true rfl) (by decide) (c_fill (hS.1 48 _ rfl) (by decide)) ?_
  rintro v1 S1 h2 ⟨rfl, rfl, f2, hf2, rfl⟩
  show T a 17 mX8_start 51 [(0, rv a 41)] [] S (hs (hs h1 47 f1) 48 f2) _
  refine tr_aload_n (pc := 51) 0 dX8_start_51 rfl rfl ?_
  refine tr_getR (pc := 52) (q := 49) dX8_start_52 (hS.1 41 (11, 18) rfl) fi_X8_37 rfl (hS.2 41 17 49 rfl) ?_
  refine tr_iconst (pc := 55) (v := nI 0) dX8_start_55 (by decide) ?_
  refine tr_callS (pc := 56) (rest := []) dX8_start_56 ml_X8_79 cs_J7_fill_53178 rfl rfl (Nat.le_of_ble_eq_true rfl) (by decide) (c_fill (hS.1 49 _ rfl) (by decide)) ?_
  rintro v1 S1 h2 ⟨rfl, rfl, f3, hf3, rfl⟩
  show T a 17 mX8_start 59 [(0, rv a 41)] [] S (hs (hs (hs h1 47 f1) 48 f2) 49 f3) _
  have hT0 : TH (hs (hs (hs h1 47 f1) 48 f2) 49 f3) q R0 false := by
    subst e1
    exact ⟨⟨rfl, rfl, rfl, rfl, rfl, rfl, rfl⟩, fun t ht => absurd ht (Nat.not_lt_zero _), fun s hs => ⟨hf1 s hs, hf2 s hs, hf3 s hs⟩⟩
  have hFt : Ft h (hs (hs (hs h1 47 f1) 48 f2) 49 f3) := by
    subst e1
    intro j j1 j2
    simp only [tL, List.mem_cons, List.not_mem_nil, or_false, not_or] at j2
    simp only [hs, j2, if_false]
  have hMP1 : MP (hs (hs (hs h1 47 f1) 48 f2) 49 f3) 3 P := hMP.ft hFt
  have hFn1 : Fnd (hs (hs (hs h1 47 f1) 48 f2) 49 f3) P := hFn.ft hFt
  refine tr_aload_n (pc := 59) 0 dX8_start_59 rfl rfl ?_
  refine tr_getR (pc := 60) (q := 3) dX8_start_60 (hS.1 41 (11, 18) rfl) fi_X8_40 rfl (hS.2 41 0 3 rfl) ?_
  refine tr_iconst (pc := 63) (v := nI 0) dX8_start_63 (by decide) ?_
  rcases Nat.eq_zero_or_pos P.length with hp | hp
  · skip
    refine tr_callV (pc := 64) (rest := []) (ci := 2) dX8_start_64 ml_X8_85 cv_X2_has rfl rfl (Nat.le_of_ble_eq_true rfl) (hS.1 3 (5, 3) rfl) rfl (by decide) (c_has_out (mo_3 hS) hMP1 hVP.1 (Or.inr (by rw [hp]; decide))) ?_
    rintro _ _ _ ⟨rfl, rfl, rfl⟩
    show T a 17 mX8_start 67 [(0, rv a 41)] [.int (nI 0)] S (hs (hs (hs h1 47 f1) 48 f2) 49 f3) _
    refine tr_if_eq (pc := 67) (tgt := 77) dX8_start_67 (by decide) (nI_z_eq (by omega)) (fun _ => ?_) (fun hcc => absurd (by decide) hcc)
    exact tr_vret (pc := 77) dX8_start_77 rfl (by
        refine ⟨rfl, ⟨q, cap, hQ, ?_, ?_⟩, Sg.rf, hFt⟩
        · unfold runP; rw [if_neg (by omega)]; exact Nat.zero_le _
        · unfold runP; rw [if_neg (by omega)]; exact hT0)
  · skip
    refine tr_callV (pc := 64) (rest := []) (ci := 2) dX8_start_64 ml_X8_85 cv_X2_has rfl rfl (Nat.le_of_ble_eq_true rfl) (hS.1 3 (5, 3) rfl) rfl (by decide) (c_has_in (mo_3 hS) hMP1 hVP.1 hp) ?_
    rintro _ _ _ ⟨rfl, rfl, rfl⟩
    show T a 17 mX8_start 67 [(0, rv a 41)] [.int (nI 1)] S (hs (hs (hs h1 47 f1) 48 f2) 49 f3) _
    refine tr_if_eq (pc := 67) (tgt := 77) dX8_start_67 (by decide) (nI_z_eq (by omega)) (fun hcc => absurd hcc (by decide)) (fun _ => ?_)
    refine tr_aload_n (pc := 70) 0 dX8_start_70 rfl rfl ?_
    refine tr_iconst (pc := 71) (v := nI 0) dX8_start_71 (by decide) ?_
    refine tr_iconst (pc := 72) (v := -1) dX8_start_72 (by decide) ?_
    refine tr_callV (pc := 73) (rest := []) (ci := 8) dX8_start_73 ml_X8_90 cv_X8_callMethod rfl rfl (Nat.le_of_ble_eq_true rfl) (hS.1 41 (11, 18) rfl) rfl (by decide) (cspec 4 S (hs (hs (hs h1 47 f1) 48 f2) 49 f3) q cap P 0 none R0 hS hVP hMP1 hFn1 hQ hT0 wf_0 (Nat.zero_le _) okT.none hp (by decide) (by decide) (by decide) (fun t ht => absurd ht (Nat.not_lt_zero _))) ?_
    rintro v1 S1 h2 ⟨⟨w, rfl, hw⟩, q1, cap1, a1, a2, a3, a4, a5, a6, a7⟩
    show T a 17 mX8_start 76 [(0, rv a 41)] [.int w] S1 h2 _
    refine tr_pop (pc := 76) dX8_start_76 rfl ?_
    exact tr_vret (pc := 77) dX8_start_77 rfl (by
        refine ⟨rfl, ⟨q1, cap1, a1, ?_, ?_⟩, a4, hFt.trans a7⟩
        · unfold runP; rw [if_pos hp]; exact a2
        · unfold runP; rw [if_pos hp]; exact a3)

noncomputable def aRun (P : Prog) (w : Nat) : Int32 := match w with
  | 0 => bI (runP P).2.2
  | 1 => nI ((runP P).1.1 0)
  | 2 => nI ((runP P).1.1 1)
  | 3 => nI ((runP P).1.1 2)
  | 4 => nI ((runP P).1.1 3)
  | _ => nI ((runP P).1.1 4)
noncomputable def aRan (P : Prog) (s w : Nat) : Int32 := match w with
  | 0 => nI ((runP P).1.2.1 2 s)
  | 1 => nI ((runP P).1.2.1 3 s)
  | _ => nI ((runP P).1.2.1 4 s)
noncomputable def aHeld (P : Prog) : Int32 := match (runP P).1.2.2.2 with
  | none => -1
  | some t => nI ((runP P).1.2.1 0 t)
theorem run_wf {P : Prog} (hV : VP P) : WF P (runP P).1 ∧ (runP P).1.1 0 ≤ 4096 := by
  unfold runP
  split
  · have h := (cg_call hV 4 0 none R0 (by decide) wf_0 okT.none).1
    exact ⟨h.1, Nat.le_trans h.2.2.2.1 (by decide)⟩
  · exact ⟨wf_0, Nat.zero_le _⟩
set_option maxHeartbeats 4000000 in
set_option maxRecDepth 100000 in
theorem c_tfailed {a : Am} {S : St} {h : Hp} (hS : IsSt S) {q : Nat} {R : RS} {f : Bool} (hT : TH h q R f) : CT a 0 mX8_failed [rv a 41] S h (Rt (bI f) S h) := by
  refine met_of (by decide +kernel) (Nat.le_of_ble_eq_true rfl) ?_
  show T a 0 mX8_failed 0 [(0, rv a 41)] [] S h _
  refine tr_aload_n (pc := 0) 0 dX8_failed_0 rfl rfl ?_
  refine tr_getI (pc := 1) (x := bI f) dX8_failed_1 (hS.1 41 (11, 18) rfl) fi_X8_52 rfl hT.1.1 ?_
  exact tr_iret (pc := 4) dX8_failed_4 rfl (by cases f <;> decide) (⟨rfl, rfl, rfl⟩)

set_option maxHeartbeats 4000000 in
set_option maxRecDepth 100000 in
theorem c_tmade {a : Am} {S : St} {h : Hp} (hS : IsSt S) {q : Nat} {R : RS} {f : Bool} (hT : TH h q R f) : CT a 0 mX8_made [rv a 41] S h (Rt (nI (R.1 0)) S h) := by
  refine met_of (by decide +kernel) (Nat.le_of_ble_eq_true rfl) ?_
  show T a 0 mX8_made 0 [(0, rv a 41)] [] S h _
  refine tr_aload_n (pc := 0) 0 dX8_made_0 rfl rfl ?_
  refine tr_getI (pc := 1) (x := nI (R.1 0)) dX8_made_1 (hS.1 41 (11, 18) rfl) fi_X8_56 rfl hT.1.2.1 ?_
  exact tr_iret (pc := 4) dX8_made_4 rfl rfl (⟨rfl, rfl, rfl⟩)

set_option maxHeartbeats 4000000 in
set_option maxRecDepth 100000 in
theorem c_tlocks {a : Am} {S : St} {h : Hp} (hS : IsSt S) {q : Nat} {R : RS} {f : Bool} (hT : TH h q R f) : CT a 0 mX8_locks [rv a 41] S h (Rt (nI (R.1 1)) S h) := by
  refine met_of (by decide +kernel) (Nat.le_of_ble_eq_true rfl) ?_
  show T a 0 mX8_locks 0 [(0, rv a 41)] [] S h _
  refine tr_aload_n (pc := 0) 0 dX8_locks_0 rfl rfl ?_
  refine tr_getI (pc := 1) (x := nI (R.1 1)) dX8_locks_1 (hS.1 41 (11, 18) rfl) fi_X8_59 rfl hT.1.2.2.1 ?_
  exact tr_iret (pc := 4) dX8_locks_4 rfl rfl (⟨rfl, rfl, rfl⟩)

set_option maxHeartbeats 4000000 in
set_option maxRecDepth 100000 in
theorem c_tidle {a : Am} {S : St} {h : Hp} (hS : IsSt S) {q : Nat} {R : RS} {f : Bool} (hT : TH h q R f) : CT a 0 mX8_idleLocks [rv a 41] S h (Rt (nI (R.1 2)) S h) := by
  refine met_of (by decide +kernel) (Nat.le_of_ble_eq_true rfl) ?_
  show T a 0 mX8_idleLocks 0 [(0, rv a 41)] [] S h _
  refine tr_aload_n (pc := 0) 0 dX8_idleLocks_0 rfl rfl ?_
  refine tr_getI (pc := 1) (x := nI (R.1 2)) dX8_idleLocks_1 (hS.1 41 (11, 18) rfl) fi_X8_62 rfl hT.1.2.2.2.1 ?_
  exact tr_iret (pc := 4) dX8_idleLocks_4 rfl rfl (⟨rfl, rfl, rfl⟩)

set_option maxHeartbeats 4000000 in
set_option maxRecDepth 100000 in
theorem c_tcalls {a : Am} {S : St} {h : Hp} (hS : IsSt S) {q : Nat} {R : RS} {f : Bool} (hT : TH h q R f) : CT a 0 mX8_calls [rv a 41] S h (Rt (nI (R.1 3)) S h) := by
  refine met_of (by decide +kernel) (Nat.le_of_ble_eq_true rfl) ?_
  show T a 0 mX8_calls 0 [(0, rv a 41)] [] S h _
  refine tr_aload_n (pc := 0) 0 dX8_calls_0 rfl rfl ?_
  refine tr_getI (pc := 1) (x := nI (R.1 3)) dX8_calls_1 (hS.1 41 (11, 18) rfl) fi_X8_65 rfl hT.1.2.2.2.2.1 ?_
  exact tr_iret (pc := 4) dX8_calls_4 rfl rfl (⟨rfl, rfl, rfl⟩)

set_option maxHeartbeats 4000000 in
set_option maxRecDepth 100000 in
theorem c_tleaks {a : Am} {S : St} {h : Hp} (hS : IsSt S) {q : Nat} {R : RS} {f : Bool} (hT : TH h q R f) : CT a 0 mX8_leaks [rv a 41] S h (Rt (nI (R.1 4)) S h) := by
  refine met_of (by decide +kernel) (Nat.le_of_ble_eq_true rfl) ?_
  show T a 0 mX8_leaks 0 [(0, rv a 41)] [] S h _
  refine tr_aload_n (pc := 0) 0 dX8_leaks_0 rfl rfl ?_
  refine tr_getI (pc := 1) (x := nI (R.1 4)) dX8_leaks_1 (hS.1 41 (11, 18) rfl) fi_X8_68 rfl hT.1.2.2.2.2.2.1 ?_
  exact tr_iret (pc := 4) dX8_leaks_4 rfl rfl (⟨rfl, rfl, rfl⟩)

set_option maxHeartbeats 4000000 in
set_option maxRecDepth 100000 in
theorem c_tmadeOf {a : Am} {S : St} {h : Hp} (hS : IsSt S) {q : Nat} {R : RS} {f : Bool} (hT : TH h q R f) {s : Nat} (hs : s < 32) : CT a 1 mX8_madeOf [rv a 41, .int (nI s)] S h (Rt (nI (R.2.1 2 s)) S h) := by
  refine met_of (by decide +kernel) (Nat.le_of_ble_eq_true rfl) ?_
  show T a 1 mX8_madeOf 0 [(0, rv a 41), (1, .int (nI s))] [] S h _
  refine tr_iload_n (pc := 0) 1 dX8_madeOf_0 rfl rfl ?_
  refine tr_bipush (pc := 1) (v := nI 32) dX8_madeOf_1 (by decide) ?_
  refine tr_callSN (pc := 3) (rest := []) dX8_madeOf_3 nl_X8_71 cs_X9_isOutside rfl rfl (Nat.le_of_ble_eq_true rfl) (by omega) (c_isOut_in hs (by omega)) ?_
  rintro _ _ _ ⟨rfl, rfl, rfl⟩
  show T a 1 mX8_madeOf 6 [(0, rv a 41), (1, .int (nI s))] [.int (nI 0)] S h _
  refine tr_if_eq (pc := 6) (tgt := 13) dX8_madeOf_6 (by decide) (nI_z_eq (by omega)) (fun _ => ?_) (fun hcc => absurd (by decide) hcc)
  refine tr_aload_n (pc := 13) 0 dX8_madeOf_13 rfl rfl ?_
  refine tr_getR (pc := 14) (q := 47) dX8_madeOf_14 (hS.1 41 (11, 18) rfl) fi_X8_31 rfl (hS.2 41 15 47 rfl) ?_
  refine tr_iload_n (pc := 17) 1 dX8_madeOf_17 rfl rfl ?_
  refine tr_iald (pc := 18) (v := nI (R.2.1 2 s)) s dX8_madeOf_18 (hS.1 47 (0, 32) rfl) rfl (by omega) (by decide) (hT.2.2 s hs).1 ?_
  exact tr_iret (pc := 19) dX8_madeOf_19 rfl rfl (⟨rfl, rfl, rfl⟩)

set_option maxHeartbeats 4000000 in
set_option maxRecDepth 100000 in
theorem c_tleaksOf {a : Am} {S : St} {h : Hp} (hS : IsSt S) {q : Nat} {R : RS} {f : Bool} (hT : TH h q R f) {s : Nat} (hs : s < 32) : CT a 1 mX8_leaksOf [rv a 41, .int (nI s)] S h (Rt (nI (R.2.1 3 s)) S h) := by
  refine met_of (by decide +kernel) (Nat.le_of_ble_eq_true rfl) ?_
  show T a 1 mX8_leaksOf 0 [(0, rv a 41), (1, .int (nI s))] [] S h _
  refine tr_iload_n (pc := 0) 1 dX8_leaksOf_0 rfl rfl ?_
  refine tr_bipush (pc := 1) (v := nI 32) dX8_leaksOf_1 (by decide) ?_
  refine tr_callSN (pc := 3) (rest := []) dX8_leaksOf_3 nl_X8_71 cs_X9_isOutside rfl rfl (Nat.le_of_ble_eq_true rfl) (by omega) (c_isOut_in hs (by omega)) ?_
  rintro _ _ _ ⟨rfl, rfl, rfl⟩
  show T a 1 mX8_leaksOf 6 [(0, rv a 41), (1, .int (nI s))] [.int (nI 0)] S h _
  refine tr_if_eq (pc := 6) (tgt := 13) dX8_leaksOf_6 (by decide) (nI_z_eq (by omega)) (fun _ => ?_) (fun hcc => absurd (by decide) hcc)
  refine tr_aload_n (pc := 13) 0 dX8_leaksOf_13 rfl rfl ?_
  refine tr_getR (pc := 14) (q := 48) dX8_leaksOf_14 (hS.1 41 (11, 18) rfl) fi_X8_34 rfl (hS.2 41 16 48 rfl) ?_
  refine tr_iload_n (pc := 17) 1 dX8_leaksOf_17 rfl rfl ?_
  refine tr_iald (pc := 18) (v := nI (R.2.1 3 s)) s dX8_leaksOf_18 (hS.1 48 (0, 32) rfl) rfl (by omega) (by decide) (hT.2.2 s hs).2.1 ?_
  exact tr_iret (pc := 19) dX8_leaksOf_19 rfl rfl (⟨rfl, rfl, rfl⟩)

set_option maxHeartbeats 4000000 in
set_option maxRecDepth 100000 in
theorem c_tlocksOf {a : Am} {S : St} {h : Hp} (hS : IsSt S) {q : Nat} {R : RS} {f : Bool} (hT : TH h q R f) {s : Nat} (hs : s < 32) : CT a 1 mX8_locksOf [rv a 41, .int (nI s)] S h (Rt (nI (R.2.1 4 s)) S h) := by
  refine met_of (by decide +kernel) (Nat.le_of_ble_eq_true rfl) ?_
  show T a 1 mX8_locksOf 0 [(0, rv a 41), (1, .int (nI s))] [] S h _
  refine tr_iload_n (pc := 0) 1 dX8_locksOf_0 rfl rfl ?_
  refine tr_bipush (pc := 1) (v := nI 32) dX8_locksOf_1 (by decide) ?_
  refine tr_callSN (pc := 3) (rest := []) dX8_locksOf_3 nl_X8_71 cs_X9_isOutside rfl rfl (Nat.le_of_ble_eq_true rfl) (by omega) (c_isOut_in hs (by omega)) ?_
  rintro _ _ _ ⟨rfl, rfl, rfl⟩
  show T a 1 mX8_locksOf 6 [(0, rv a 41), (1, .int (nI s))] [.int (nI 0)] S h _
  refine tr_if_eq (pc := 6) (tgt := 13) dX8_locksOf_6 (by decide) (nI_z_eq (by omega)) (fun _ => ?_) (fun hcc => absurd (by decide) hcc)
  refine tr_aload_n (pc := 13) 0 dX8_locksOf_13 rfl rfl ?_
  refine tr_getR (pc := 14) (q := 49) dX8_locksOf_14 (hS.1 41 (11, 18) rfl) fi_X8_37 rfl (hS.2 41 17 49 rfl) ?_
  refine tr_iload_n (pc := 17) 1 dX8_locksOf_17 rfl rfl ?_
  refine tr_iald (pc := 18) (v := nI (R.2.1 4 s)) s dX8_locksOf_18 (hS.1 49 (0, 32) rfl) rfl (by omega) (by decide) (hT.2.2 s hs).2.2 ?_
  exact tr_iret (pc := 19) dX8_locksOf_19 rfl rfl (⟨rfl, rfl, rfl⟩)

set_option maxHeartbeats 4000000 in
set_option maxRecDepth 100000 in
theorem c_tsite {a : Am} {S : St} {h : Hp} (hS : IsSt S) {P : Prog} (hVP : VP P) (hTr : TrOk S h P) : CT a 1 mX8_siteInOpenPlace [rv a 41] S h (Rt (aHeld P) S h) := by
  refine met_of (by decide +kernel) (Nat.le_of_ble_eq_true rfl) ?_
  show T a 1 mX8_siteInOpenPlace 0 [(0, rv a 41)] [] S h _
  obtain ⟨q, cap, hQ, hn, hT⟩ := id hTr
  obtain ⟨⟨r5, r6, r7, r8⟩, ⟨z0, z1, z2, z3⟩, hq, hc1, hc2, hlev⟩ := id hQ
  obtain ⟨hW, hn2⟩ := run_wf hVP
  unfold aHeld
  refine tr_aload_n (pc := 0) 0 dX8_siteInOpenPlace_0 rfl rfl ?_
  refine tr_aload_n (pc := 1) 0 dX8_siteInOpenPlace_1 rfl rfl ?_
  refine tr_getI (pc := 2) (x := tv (runP P).1.2.2.2) dX8_siteInOpenPlace_2 (hS.1 41 (11, 18) rfl) fi_X8_15 rfl hT.1.2.2.2.2.2.2 ?_
  cases hx : (runP P).1.2.2.2 with
  | none => ?_
  | some t => ?_
  · skip
    show T a 1 mX8_siteInOpenPlace 5 [(0, rv a 41)] [.int (-1), rv a 41] S h _
    refine tr_callV (pc := 5) (rest := []) (ci := 8) dX8_siteInOpenPlace_5 ml_X8_75 cv_X8_isThing rfl rfl (Nat.le_of_ble_eq_true rfl) (hS.1 41 (11, 18) rfl) rfl (by decide) (c_isT_n hS) ?_
    rintro _ _ _ ⟨rfl, rfl, rfl⟩
    show T a 1 mX8_siteInOpenPlace 8 [(0, rv a 41)] [.int (nI 0)] S h _
    refine tr_if_eq (pc := 8) (tgt := 23) dX8_siteInOpenPlace_8 (by decide) (nI_z_eq (by omega)) (fun _ => ?_) (fun hcc => absurd (by decide) hcc)
    refine tr_iconst (pc := 23) (v := -1) dX8_siteInOpenPlace_23 (by decide) ?_
    exact tr_iret (pc := 24) dX8_siteInOpenPlace_24 rfl rfl (⟨rfl, rfl, rfl⟩)
  · skip
    have ht := hW.2 t hx
    show T a 1 mX8_siteInOpenPlace 5 [(0, rv a 41)] [.int (nI t), rv a 41] S h _
    refine tr_callV (pc := 5) (rest := []) (ci := 8) dX8_siteInOpenPlace_5 ml_X8_75 cv_X8_isThing rfl rfl (Nat.le_of_ble_eq_true rfl) (hS.1 41 (11, 18) rfl) rfl (by decide) (c_isT_s hS hT.1.2.1 (by omega) ht) ?_
    rintro _ _ _ ⟨rfl, rfl, rfl⟩
    show T a 1 mX8_siteInOpenPlace 8 [(0, rv a 41)] [.int (nI 1)] S h _
    refine tr_if_eq (pc := 8) (tgt := 23) dX8_siteInOpenPlace_8 (by decide) (nI_z_eq (by omega)) (fun hcc => absurd hcc (by decide)) (fun _ => ?_)
    refine tr_aload_n (pc := 11) 0 dX8_siteInOpenPlace_11 rfl rfl ?_
    refine tr_getR (pc := 12) (q := q) dX8_siteInOpenPlace_12 (hS.1 41 (11, 18) rfl) fi_X8_19 rfl r5 ?_
    refine tr_aload_n (pc := 15) 0 dX8_siteInOpenPlace_15 rfl rfl ?_
    refine tr_getI (pc := 16) (x := nI t) dX8_siteInOpenPlace_16 (hS.1 41 (11, 18) rfl) fi_X8_15 rfl (by rw [hT.1.2.2.2.2.2.2, hx]; rfl) ?_
    refine tr_iald (pc := 19) (v := nI ((runP P).1.2.1 0 t)) t dX8_siteInOpenPlace_19 z0 rfl (by omega) (by omega) (hT.2.1 t ht).1 ?_
    refine tr_goto (pc := 20) (tgt := 24) dX8_siteInOpenPlace_20 (by decide) ?_
    exact tr_iret (pc := 24) dX8_siteInOpenPlace_24 rfl rfl (⟨rfl, rfl, rfl⟩)

def fL : List Nat := [31, 32, 33, 34, 35, 36, 37, 39, 40, 41, 42, 43, 44, 45, 46, 47, 48, 49]
def Fg (h h' : Hp) : Prop := (∀ o, o ≠ 0 → o < 76 → o ∉ fL → h' o = h o) ∧ ∀ k, k ∉ [12, 13] → h' 0 k = h 0 k
theorem Fg.rf {h : Hp} : Fg h h := ⟨fun _ _ _ _ => rfl, fun _ _ => rfl⟩
theorem Fg.trans {h h1 h2 : Hp} (k1 : Fg h h1) (k2 : Fg h1 h2) : Fg h h2 := ⟨fun o a b c => (k2.1 o a b c).trans (k1.1 o a b c), fun k a => (k2.2 k a).trans (k1.2 k a)⟩
/-- what the class holds of what it has found -/
def CH (S : St) (h : Hp) (P : Prog) : Prop := TQx S ∧ ((h 0 12 = nI 0 ∧ h 0 13 = nI 0) ∨ (h 0 12 = nI 1 ∧ Fnd h P ∧ (h 0 13 = nI 0 ∨ (h 0 13 = nI 1 ∧ TrOk S h P))))
theorem CH.g {S : St} {h : Hp} {P : Prog} (k : CH S h P) : h 0 12 = nI 0 ∨ h 0 12 = nI 1 ∧ Fnd h P := k.2.imp (fun w => w.1) (fun w => ⟨w.1, w.2.1⟩)
theorem CH.fm {S : St} {h h' : Hp} {P : Prog} (k : CH S h P) (h1 : h' 0 12 = nI 1) (h2 : Fnd h' P) (h3 : Fo 0 [12] [31, 32, 33, 34, 35, 36, 37, 39, 40] h h') : CH S h' P := by
  refine ⟨k.1, Or.inr ⟨h1, h2, ?_⟩⟩
  rw [h3.2 13 (by decide)]
  rcases k.2 with w | w
  · exact Or.inl w.2
  · refine w.2.2.imp id (fun z => ⟨z.1, z.2.fr (fun o ho => h3.1 o ?_ ?_)⟩)
    · rcases ho with ho | ho
      · intro e; subst e; revert ho; decide
      · omega
    · intro e
      rcases ho with ho | ho
      · revert ho e
        simp only [tL, List.mem_cons, List.not_mem_nil, or_false]
        omega
      · simp only [List.mem_cons, List.not_mem_nil, or_false] at e; omega
theorem Fo.fg {h h' : Hp} (k : Fo 0 [12] [31, 32, 33, 34, 35, 36, 37, 39, 40] h h') : Fg h h' := ⟨fun o a b c => k.1 o a (fun e => c (by simp only [fL, List.mem_cons, List.not_mem_nil, or_false] at e ⊢; omega)), fun j hj => k.2 j (fun e => hj (by simp only [List.mem_cons, List.not_mem_nil, or_false] at e ⊢; omega))⟩
theorem Ft.fg {h h' : Hp} (k : Ft h h') : Fg h h' := ⟨fun o a b c => k o b (fun e => c (by simp only [fL, tL, List.mem_cons, List.not_mem_nil, or_false] at e ⊢; omega)), fun j _ => by rw [k 0 (by decide) (by decide)]⟩
set_option maxHeartbeats 4000000 in
set_option maxRecDepth 100000 in
theorem c_findRun {a : Am} {S : St} {h : Hp} (hS : IsSt S) {P : Prog} (hVP : VP P) (hMP : MP h 3 P) (hCH : CH S h P) : CT a 18 mX9_findRun [rv a 0] S h (fun v S' h' => v = none ∧ h' 0 12 = nI 1 ∧ h' 0 13 = nI 1 ∧ Fnd h' P ∧ TrOk S' h' P ∧ Sg S S' ∧ Fg h h') := by
  refine met_of (by decide +kernel) (Nat.le_of_ble_eq_true rfl) ?_
  show T a 18 mX9_findRun 0 [(0, rv a 0)] [] S h _
  refine tr_aload_n (pc := 0) 0 dX9_findRun_0 rfl rfl ?_
  refine tr_callV (pc := 1) (rest := []) (ci := 9) dX9_findRun_1 ml_X9_132 cv_X9_findMays rfl rfl (Nat.le_of_ble_eq_true rfl) (hS.1 0 (12, 14) rfl) rfl (by decide) (c_findMays hS hVP hMP hCH.g) ?_
  rintro v1 S1 h1 ⟨rfl, rfl, a1, a2, a3⟩
  have hCH1 := hCH.fm a1 a2 a3
  have hMP1 : MP h1 3 P := hMP.fr a3.fr (by decide) (by decide) (by decide)
  rcases hCH1.2 with z | ⟨-, -, z⟩
  · rw [a1] at z; exact absurd z.1 (by decide)
  show T a 18 mX9_findRun 4 [(0, rv a 0)] [] S h1 _
  rcases z with z | z
  · skip
    refine tr_aload_n (pc := 4) 0 dX9_findRun_4 rfl rfl ?_
    refine tr_getI (pc := 5) (x := nI 0) dX9_findRun_5 (hS.1 0 (12, 14) rfl) fi_X9_279 rfl z ?_
    refine tr_if_ne (pc := 8) (tgt := 23) dX9_findRun_8 (by decide) (nI_z_eq (by omega)) (fun hcc => absurd (by decide) hcc) (fun _ => ?_)
    refine tr_aload_n (pc := 11) 0 dX9_findRun_11 rfl rfl ?_
    refine tr_getR (pc := 12) (q := 41) dX9_findRun_12 (hS.1 0 (12, 14) rfl) fi_X9_72 rfl (hS.2 0 8 41 rfl) ?_
    obtain ⟨q, cap, hQ⟩ := hCH.1
    refine tr_callV (pc := 15) (rest := []) (ci := 8) dX9_findRun_15 ml_X9_289 cv_X8_start rfl rfl (Nat.le_of_ble_eq_true rfl) (hS.1 41 (11, 18) rfl) rfl (by decide) (c_start hS hVP hMP1 a2 hQ) ?_
    rintro v1 S1 h2 ⟨rfl, b1, b2, b3⟩
    have hS1 := hS.sg b2
    show T a 18 mX9_findRun 18 [(0, rv a 0)] [] S1 h2 _
    refine tr_aload_n (pc := 18) 0 dX9_findRun_18 rfl rfl ?_
    refine tr_iconst (pc := 19) (v := nI 1) dX9_findRun_19 (by decide) ?_
    refine tr_putI (pc := 20) (x := nI 1) dX9_findRun_20 (hS1.1 0 _ rfl) fi_X9_279 rfl (by decide) (by decide) ?_
    exact tr_vret (pc := 23) dX9_findRun_23 rfl (by
        refine ⟨rfl, ?_, rfl, ?_, b1.fr (fun o ho => hs_ne (fun e => ?_)), b2, a3.fg.trans (b3.fg.trans ⟨fun o p1 p2 p3 => hs_ne p1, fun k hk => ?_⟩)⟩
        · rw [hs_same, upd_n (by decide), b3 0 (by decide) (by decide)]; exact a1
        · exact (a2.ft b3).fr (L := [0]) (Fr.rf.hs (by decide)) (by decide)
        · subst e; rcases ho with ho | ho
          · revert ho; decide
          · omega
        · rw [hs_same, upd_n (fun e => hk (by subst e; decide))])
  · skip
    refine tr_aload_n (pc := 4) 0 dX9_findRun_4 rfl rfl ?_
    refine tr_getI (pc := 5) (x := nI 1) dX9_findRun_5 (hS.1 0 (12, 14) rfl) fi_X9_279 rfl z.1 ?_
    refine tr_if_ne (pc := 8) (tgt := 23) dX9_findRun_8 (by decide) (nI_z_eq (by omega)) (fun _ => ?_) (fun hcc => absurd hcc (by decide))
    exact tr_vret (pc := 23) dX9_findRun_23 rfl (⟨rfl, a1, z.1, a2, z.2, Sg.rf, a3.fg⟩)

set_option maxHeartbeats 4000000 in
set_option maxRecDepth 100000 in
theorem c_orun0 {a : Am} {S : St} {h : Hp} (hS : IsSt S) {P : Prog} (hTr : TrOk S h P) : CT a 1 mX9_ofRun [rv a 0, .int (nI 0)] S h (Rt (aRun P 0) S h) := by
  obtain ⟨q, cap, hQ, hn, hT⟩ := hTr
  refine met_of (by decide +kernel) (Nat.le_of_ble_eq_true rfl) ?_
  show T a 1 mX9_ofRun 0 [(0, rv a 0), (1, .int (nI 0))] [] S h _
  refine tr_iload_n (pc := 0) 1 dX9_ofRun_0 rfl rfl ?_
  refine tr_tabIn (pc := 1) (off := 35) (tgt := 36) dX9_ofRun_1 (by decide) (by decide) (by decide) (by decide) ?_
  refine tr_aload_n (pc := 36) 0 dX9_ofRun_36 rfl rfl ?_
  refine tr_getR (pc := 37) (q := 41) dX9_ofRun_37 (hS.1 0 (12, 14) rfl) fi_X9_72 rfl (hS.2 0 8 41 rfl) ?_
  refine tr_callV (pc := 40) (rest := []) (ci := 8) dX9_ofRun_40 ml_X9_235 cv_X8_failed rfl rfl (Nat.le_of_ble_eq_true rfl) (hS.1 41 (11, 18) rfl) rfl (by decide) (c_tfailed hS hT) ?_
  rintro _ _ _ ⟨rfl, rfl, rfl⟩
  show T a 1 mX9_ofRun 43 [(0, rv a 0), (1, .int (nI 0))] [.int (bI (runP P).2.2)] S h _
  refine tr_if_eq (pc := 43) (tgt := 50) dX9_ofRun_43 (by decide) Iff.rfl (fun q43 => ?_) (fun q43 => ?_)
  · skip
    refine tr_iconst (pc := 50) (v := nI 0) dX9_ofRun_50 (by decide) ?_
    exact tr_iret (pc := 51) dX9_ofRun_51 rfl rfl (by
        show Rt (bI (runP P).2.2) S h _ _ _
        rw [bz_f q43]; exact ⟨rfl, rfl, rfl⟩)
  · skip
    refine tr_iconst (pc := 46) (v := nI 1) dX9_ofRun_46 (by decide) ?_
    refine tr_goto (pc := 47) (tgt := 51) dX9_ofRun_47 (by decide) ?_
    exact tr_iret (pc := 51) dX9_ofRun_51 rfl rfl (by
        show Rt (bI (runP P).2.2) S h _ _ _
        rw [bz_t q43]; exact ⟨rfl, rfl, rfl⟩)

set_option maxHeartbeats 4000000 in
set_option maxRecDepth 100000 in
theorem c_orun1 {a : Am} {S : St} {h : Hp} (hS : IsSt S) {P : Prog} (hTr : TrOk S h P) : CT a 1 mX9_ofRun [rv a 0, .int (nI 1)] S h (Rt (aRun P 1) S h) := by
  obtain ⟨q, cap, hQ, hn, hT⟩ := hTr
  refine met_of (by decide +kernel) (Nat.le_of_ble_eq_true rfl) ?_
  show T a 1 mX9_ofRun 0 [(0, rv a 0), (1, .int (nI 1))] [] S h _
  refine tr_iload_n (pc := 0) 1 dX9_ofRun_0 rfl rfl ?_
  refine tr_tabIn (pc := 1) (off := 51) (tgt := 52) dX9_ofRun_1 (by decide) (by decide) (by decide) (by decide) ?_
  refine tr_aload_n (pc := 52) 0 dX9_ofRun_52 rfl rfl ?_
  refine tr_getR (pc := 53) (q := 41) dX9_ofRun_53 (hS.1 0 (12, 14) rfl) fi_X9_72 rfl (hS.2 0 8 41 rfl) ?_
  refine tr_callV (pc := 56) (rest := []) (ci := 8) dX9_ofRun_56 ml_X9_238 cv_X8_made rfl rfl (Nat.le_of_ble_eq_true rfl) (hS.1 41 (11, 18) rfl) rfl (by decide) (c_tmade hS hT) ?_
  rintro _ _ _ ⟨rfl, rfl, rfl⟩
  show T a 1 mX9_ofRun 59 [(0, rv a 0), (1, .int (nI 1))] [.int (nI ((runP P).1.1 0))] S h _
  exact tr_iret (pc := 59) dX9_ofRun_59 rfl rfl (⟨rfl, rfl, rfl⟩)

set_option maxHeartbeats 4000000 in
set_option maxRecDepth 100000 in
theorem c_orun2 {a : Am} {S : St} {h : Hp} (hS : IsSt S) {P : Prog} (hTr : TrOk S h P) : CT a 1 mX9_ofRun [rv a 0, .int (nI 2)] S h (Rt (aRun P 2) S h) := by
  obtain ⟨q, cap, hQ, hn, hT⟩ := hTr
  refine met_of (by decide +kernel) (Nat.le_of_ble_eq_true rfl) ?_
  show T a 1 mX9_ofRun 0 [(0, rv a 0), (1, .int (nI 2))] [] S h _
  refine tr_iload_n (pc := 0) 1 dX9_ofRun_0 rfl rfl ?_
  refine tr_tabIn (pc := 1) (off := 59) (tgt := 60) dX9_ofRun_1 (by decide) (by decide) (by decide) (by decide) ?_
  refine tr_aload_n (pc := 60) 0 dX9_ofRun_60 rfl rfl ?_
  refine tr_getR (pc := 61) (q := 41) dX9_ofRun_61 (hS.1 0 (12, 14) rfl) fi_X9_72 rfl (hS.2 0 8 41 rfl) ?_
  refine tr_callV (pc := 64) (rest := []) (ci := 8) dX9_ofRun_64 ml_X9_241 cv_X8_locks rfl rfl (Nat.le_of_ble_eq_true rfl) (hS.1 41 (11, 18) rfl) rfl (by decide) (c_tlocks hS hT) ?_
  rintro _ _ _ ⟨rfl, rfl, rfl⟩
  show T a 1 mX9_ofRun 67 [(0, rv a 0), (1, .int (nI 2))] [.int (nI ((runP P).1.1 1))] S h _
  exact tr_iret (pc := 67) dX9_ofRun_67 rfl rfl (⟨rfl, rfl, rfl⟩)

set_option maxHeartbeats 4000000 in
set_option maxRecDepth 100000 in
theorem c_orun3 {a : Am} {S : St} {h : Hp} (hS : IsSt S) {P : Prog} (hTr : TrOk S h P) : CT a 1 mX9_ofRun [rv a 0, .int (nI 3)] S h (Rt (aRun P 3) S h) := by
  obtain ⟨q, cap, hQ, hn, hT⟩ := hTr
  refine met_of (by decide +kernel) (Nat.le_of_ble_eq_true rfl) ?_
  show T a 1 mX9_ofRun 0 [(0, rv a 0), (1, .int (nI 3))] [] S h _
  refine tr_iload_n (pc := 0) 1 dX9_ofRun_0 rfl rfl ?_
  refine tr_tabIn (pc := 1) (off := 67) (tgt := 68) dX9_ofRun_1 (by decide) (by decide) (by decide) (by decide) ?_
  refine tr_aload_n (pc := 68) 0 dX9_ofRun_68 rfl rfl ?_
  refine tr_getR (pc := 69) (q := 41) dX9_ofRun_69 (hS.1 0 (12, 14) rfl) fi_X9_72 rfl (hS.2 0 8 41 rfl) ?_
  refine tr_callV (pc := 72) (rest := []) (ci := 8) dX9_ofRun_72 ml_X9_244 cv_X8_idleLocks rfl rfl (Nat.le_of_ble_eq_true rfl) (hS.1 41 (11, 18) rfl) rfl (by decide) (c_tidle hS hT) ?_
  rintro _ _ _ ⟨rfl, rfl, rfl⟩
  show T a 1 mX9_ofRun 75 [(0, rv a 0), (1, .int (nI 3))] [.int (nI ((runP P).1.1 2))] S h _
  exact tr_iret (pc := 75) dX9_ofRun_75 rfl rfl (⟨rfl, rfl, rfl⟩)

set_option maxHeartbeats 4000000 in
set_option maxRecDepth 100000 in
theorem c_orun4 {a : Am} {S : St} {h : Hp} (hS : IsSt S) {P : Prog} (hTr : TrOk S h P) : CT a 1 mX9_ofRun [rv a 0, .int (nI 4)] S h (Rt (aRun P 4) S h) := by
  obtain ⟨q, cap, hQ, hn, hT⟩ := hTr
  refine met_of (by decide +kernel) (Nat.le_of_ble_eq_true rfl) ?_
  show T a 1 mX9_ofRun 0 [(0, rv a 0), (1, .int (nI 4))] [] S h _
  refine tr_iload_n (pc := 0) 1 dX9_ofRun_0 rfl rfl ?_
  refine tr_tabIn (pc := 1) (off := 75) (tgt := 76) dX9_ofRun_1 (by decide) (by decide) (by decide) (by decide) ?_
  refine tr_aload_n (pc := 76) 0 dX9_ofRun_76 rfl rfl ?_
  refine tr_getR (pc := 77) (q := 41) dX9_ofRun_77 (hS.1 0 (12, 14) rfl) fi_X9_72 rfl (hS.2 0 8 41 rfl) ?_
  refine tr_callV (pc := 80) (rest := []) (ci := 8) dX9_ofRun_80 ml_X9_247 cv_X8_calls rfl rfl (Nat.le_of_ble_eq_true rfl) (hS.1 41 (11, 18) rfl) rfl (by decide) (c_tcalls hS hT) ?_
  rintro _ _ _ ⟨rfl, rfl, rfl⟩
  show T a 1 mX9_ofRun 83 [(0, rv a 0), (1, .int (nI 4))] [.int (nI ((runP P).1.1 3))] S h _
  exact tr_iret (pc := 83) dX9_ofRun_83 rfl rfl (⟨rfl, rfl, rfl⟩)

set_option maxHeartbeats 4000000 in
set_option maxRecDepth 100000 in
theorem c_orun5 {a : Am} {S : St} {h : Hp} (hS : IsSt S) {P : Prog} (hTr : TrOk S h P) : CT a 1 mX9_ofRun [rv a 0, .int (nI 5)] S h (Rt (aRun P 5) S h) := by
  obtain ⟨q, cap, hQ, hn, hT⟩ := hTr
  refine met_of (by decide +kernel) (Nat.le_of_ble_eq_true rfl) ?_
  show T a 1 mX9_ofRun 0 [(0, rv a 0), (1, .int (nI 5))] [] S h _
  refine tr_iload_n (pc := 0) 1 dX9_ofRun_0 rfl rfl ?_
  refine tr_tabOut (pc := 1) (tgt := 84) dX9_ofRun_1 (by decide) (by decide) ?_
  refine tr_aload_n (pc := 84) 0 dX9_ofRun_84 rfl rfl ?_
  refine tr_getR (pc := 85) (q := 41) dX9_ofRun_85 (hS.1 0 (12, 14) rfl) fi_X9_72 rfl (hS.2 0 8 41 rfl) ?_
  refine tr_callV (pc := 88) (rest := []) (ci := 8) dX9_ofRun_88 ml_X9_250 cv_X8_leaks rfl rfl (Nat.le_of_ble_eq_true rfl) (hS.1 41 (11, 18) rfl) rfl (by decide) (c_tleaks hS hT) ?_
  rintro _ _ _ ⟨rfl, rfl, rfl⟩
  show T a 1 mX9_ofRun 91 [(0, rv a 0), (1, .int (nI 5))] [.int (nI ((runP P).1.1 4))] S h _
  exact tr_iret (pc := 91) dX9_ofRun_91 rfl rfl (⟨rfl, rfl, rfl⟩)

set_option maxHeartbeats 4000000 in
set_option maxRecDepth 100000 in
theorem c_oran0 {a : Am} {S : St} {h : Hp} (hS : IsSt S) {P : Prog} (hTr : TrOk S h P) {s : Nat} (hs : s < 32) : CT a 2 mX9_ofSiteRun [rv a 0, .int (nI s), .int (nI 0)] S h (Rt (aRan P s 0) S h) := by
  obtain ⟨q, cap, hQ, hn, hT⟩ := hTr
  refine met_of (by decide +kernel) (Nat.le_of_ble_eq_true rfl) ?_
  show T a 2 mX9_ofSiteRun 0 [(0, rv a 0), (1, .int (nI s)), (2, .int (nI 0))] [] S h _
  refine tr_iload_n (pc := 0) 2 dX9_ofSiteRun_0 rfl rfl ?_
  refine tr_look (pc := 1) (off := 27) (tgt := 28) dX9_ofSiteRun_1 (by decide) (by decide) (by decide) ?_
  refine tr_aload_n (pc := 28) 0 dX9_ofSiteRun_28 rfl rfl ?_
  refine tr_getR (pc := 29) (q := 41) dX9_ofSiteRun_29 (hS.1 0 (12, 14) rfl) fi_X9_72 rfl (hS.2 0 8 41 rfl) ?_
  refine tr_iload_n (pc := 32) 1 dX9_ofSiteRun_32 rfl rfl ?_
  refine tr_callV (pc := 33) (rest := []) (ci := 8) dX9_ofSiteRun_33 ml_X9_253 cv_X8_madeOf rfl rfl (Nat.le_of_ble_eq_true rfl) (hS.1 41 (11, 18) rfl) rfl (by decide) (c_tmadeOf hS hT hs) ?_
  rintro _ _ _ ⟨rfl, rfl, rfl⟩
  show T a 2 mX9_ofSiteRun 36 [(0, rv a 0), (1, .int (nI s)), (2, .int (nI 0))] [.int (nI ((runP P).1.2.1 2 s))] S h _
  exact tr_iret (pc := 36) dX9_ofSiteRun_36 rfl rfl (⟨rfl, rfl, rfl⟩)

set_option maxHeartbeats 4000000 in
set_option maxRecDepth 100000 in
theorem c_oran1 {a : Am} {S : St} {h : Hp} (hS : IsSt S) {P : Prog} (hTr : TrOk S h P) {s : Nat} (hs : s < 32) : CT a 2 mX9_ofSiteRun [rv a 0, .int (nI s), .int (nI 1)] S h (Rt (aRan P s 1) S h) := by
  obtain ⟨q, cap, hQ, hn, hT⟩ := hTr
  refine met_of (by decide +kernel) (Nat.le_of_ble_eq_true rfl) ?_
  show T a 2 mX9_ofSiteRun 0 [(0, rv a 0), (1, .int (nI s)), (2, .int (nI 1))] [] S h _
  refine tr_iload_n (pc := 0) 2 dX9_ofSiteRun_0 rfl rfl ?_
  refine tr_look (pc := 1) (off := 36) (tgt := 37) dX9_ofSiteRun_1 (by decide) (by decide) (by decide) ?_
  refine tr_aload_n (pc := 37) 0 dX9_ofSiteRun_37 rfl rfl ?_
  refine tr_getR (pc := 38) (q := 41) dX9_ofSiteRun_38 (hS.1 0 (12, 14) rfl) fi_X9_72 rfl (hS.2 0 8 41 rfl) ?_
  refine tr_iload_n (pc := 41) 1 dX9_ofSiteRun_41 rfl rfl ?_
  refine tr_callV (pc := 42) (rest := []) (ci := 8) dX9_ofSiteRun_42 ml_X9_256 cv_X8_leaksOf rfl rfl (Nat.le_of_ble_eq_true rfl) (hS.1 41 (11, 18) rfl) rfl (by decide) (c_tleaksOf hS hT hs) ?_
  rintro _ _ _ ⟨rfl, rfl, rfl⟩
  show T a 2 mX9_ofSiteRun 45 [(0, rv a 0), (1, .int (nI s)), (2, .int (nI 1))] [.int (nI ((runP P).1.2.1 3 s))] S h _
  exact tr_iret (pc := 45) dX9_ofSiteRun_45 rfl rfl (⟨rfl, rfl, rfl⟩)

set_option maxHeartbeats 4000000 in
set_option maxRecDepth 100000 in
theorem c_oran2 {a : Am} {S : St} {h : Hp} (hS : IsSt S) {P : Prog} (hTr : TrOk S h P) {s : Nat} (hs : s < 32) : CT a 2 mX9_ofSiteRun [rv a 0, .int (nI s), .int (nI 2)] S h (Rt (aRan P s 2) S h) := by
  obtain ⟨q, cap, hQ, hn, hT⟩ := hTr
  refine met_of (by decide +kernel) (Nat.le_of_ble_eq_true rfl) ?_
  show T a 2 mX9_ofSiteRun 0 [(0, rv a 0), (1, .int (nI s)), (2, .int (nI 2))] [] S h _
  refine tr_iload_n (pc := 0) 2 dX9_ofSiteRun_0 rfl rfl ?_
  refine tr_look (pc := 1) (off := 45) (tgt := 46) dX9_ofSiteRun_1 (by decide) (by decide) (by decide) ?_
  refine tr_aload_n (pc := 46) 0 dX9_ofSiteRun_46 rfl rfl ?_
  refine tr_getR (pc := 47) (q := 41) dX9_ofSiteRun_47 (hS.1 0 (12, 14) rfl) fi_X9_72 rfl (hS.2 0 8 41 rfl) ?_
  refine tr_iload_n (pc := 50) 1 dX9_ofSiteRun_50 rfl rfl ?_
  refine tr_callV (pc := 51) (rest := []) (ci := 8) dX9_ofSiteRun_51 ml_X9_259 cv_X8_locksOf rfl rfl (Nat.le_of_ble_eq_true rfl) (hS.1 41 (11, 18) rfl) rfl (by decide) (c_tlocksOf hS hT hs) ?_
  rintro _ _ _ ⟨rfl, rfl, rfl⟩
  show T a 2 mX9_ofSiteRun 54 [(0, rv a 0), (1, .int (nI s)), (2, .int (nI 2))] [.int (nI ((runP P).1.2.1 4 s))] S h _
  exact tr_iret (pc := 54) dX9_ofSiteRun_54 rfl rfl (⟨rfl, rfl, rfl⟩)
