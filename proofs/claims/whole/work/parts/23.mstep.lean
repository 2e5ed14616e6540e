theorem mh_make {h h' : Hp} {R : RS} {s c : Nat} (hT : MH h R) (a50 : ∀ k, k ≠ 27 → h' 50 k = h 50 k) (a27 : h' 50 27 = nI (R.1 0 + 1)) (a0 : h' 62 = upd (h 62) (R.1 0) (nI s)) (a1 : h' 63 = upd (h 63) (R.1 0) (-1)) (a2 : h' 64 = upd (h 64) (R.1 0) (nI c)) (a73 : h' 73 = upd (h 73) s (nI (R.2.1 2 s + 1))) (a74 : h' 74 = h 74) (a75 : h' 75 = h 75) : MH h' (rMake R s c) := by
  obtain ⟨⟨t1, t2, t3, t4, t5, t6⟩, tt, ts⟩ := hT
  have m1 : (rMake R s c).1 1 = R.1 1 := by simp [rMake, un]
  have m2 : (rMake R s c).1 2 = R.1 2 := by simp [rMake, un]
  have m4 : (rMake R s c).1 4 = R.1 4 := by simp [rMake, un]
  have b3 : (rMake R s c).2.1 3 = R.2.1 3 := by simp [rMake, ua]
  have b4 : (rMake R s c).2.1 4 = R.2.1 4 := by simp [rMake, ua]
  refine ⟨⟨by rw [mk_n0]; exact a27, by rw [a50 28 (by decide)]; exact t2, by rw [a50 37 (by decide), m1]; exact t3, by rw [a50 38 (by decide), m2]; exact t4, by rw [a50 39 (by decide), mk_n3]; exact t5, by rw [a50 40 (by decide), m4]; exact t6⟩, fun t ht => ?_, fun u hu => ?_⟩
  · rw [mk_n0] at ht
    rw [a0, a1, a2, mk_a0, mk_a1]
    show _ ∧ _ = tv (uo R.2.2.1 (R.1 0) none t) ∧ _
    by_cases e : t = R.1 0
    · rw [e, upd_s, upd_s, upd_s, un_s, un_s, uo_s]; exact ⟨rfl, rfl, rfl⟩
    · rw [upd_n e, upd_n e, upd_n e, un_n e, un_n e, uo_n e]; exact tt t (by omega)
  · rw [a73, a74, a75, mk_a2, b3, b4]
    by_cases e : u = s
    · subst e; rw [upd_s, un_s]; exact ⟨rfl, (ts u hu).2⟩
    · rw [upd_n e, un_n e]; exact ts u hu
theorem mh_lock {h h' : Hp} {R : RS} {t b : Nat} (hT : MH h R) (a50 : ∀ k, k ≠ 37 → k ≠ 38 → h' 50 k = h 50 k) (a37 : h' 50 37 = nI (R.1 1 + 1)) (a38 : h' 50 38 = nI (R.1 2 + b)) (a75 : h' 75 = upd (h 75) (R.2.1 0 t) (nI (R.2.1 4 (R.2.1 0 t) + 1))) (ao : ∀ o, o ≠ 50 → o ≠ 75 → h' o = h o) : MH h' (rLock R t b) := by
  obtain ⟨⟨t1, t2, t3, t4, t5, t6⟩, tt, ts⟩ := hT
  have m0 : (rLock R t b).1 0 = R.1 0 := by simp [rLock, un]
  have m1 : (rLock R t b).1 1 = R.1 1 + 1 := by simp [rLock, un]
  have m2 : (rLock R t b).1 2 = R.1 2 + b := by simp [rLock, un]
  have m3 : (rLock R t b).1 3 = R.1 3 := by simp [rLock, un]
  have m4 : (rLock R t b).1 4 = R.1 4 := by simp [rLock, un]
  have b0 : (rLock R t b).2.1 0 = R.2.1 0 := by simp [rLock, ua]
  have b1 : (rLock R t b).2.1 1 = R.2.1 1 := by simp [rLock, ua]
  have b2 : (rLock R t b).2.1 2 = R.2.1 2 := by simp [rLock, ua]
  have b3 : (rLock R t b).2.1 3 = R.2.1 3 := by simp [rLock, ua]
  have b4 : (rLock R t b).2.1 4 = un (R.2.1 4) (R.2.1 0 t) (R.2.1 4 (R.2.1 0 t) + 1) := by simp [rLock, ua]
  refine ⟨⟨by rw [a50 27 (by decide) (by decide), m0]; exact t1, by rw [a50 28 (by decide) (by decide)]; exact t2, by rw [m1]; exact a37, by rw [m2]; exact a38, by rw [a50 39 (by decide) (by decide), m3]; exact t5, by rw [a50 40 (by decide) (by decide), m4]; exact t6⟩, fun u hu => ?_, fun u hu => ?_⟩
  · rw [m0] at hu
    rw [ao 62 (by decide) (by decide), ao 63 (by decide) (by decide), ao 64 (by decide) (by decide), b0, b1]
    exact tt u hu
  · rw [a75, ao 73 (by decide) (by decide), ao 74 (by decide) (by decide), b2, b3, b4]
    by_cases e : u = R.2.1 0 t
    · subst e; rw [upd_s, un_s]; exact ⟨(ts _ hu).1, (ts _ hu).2.1, rfl⟩
    · rw [upd_n e, un_n e]; exact ts u hu
set_option maxHeartbeats 4000000 in
set_option maxRecDepth 100000 in
theorem c_mmake {a : Am} {S : St} {h : Hp} (hS : IsSt S) {R : RS} (hT : MH h R) (hn : R.1 0 < 4096) {D c s : Nat} (hD : h 50 35 = nI (D + 1)) (hD4 : D < 4) (hc : h 69 D = nI c) (hs32 : s < 32) : CT a 0 mX10_make [rv a 50, .int (nI s)] S h (fun v S' h' => v = some (.int (nI (R.1 0))) ∧ S = S' ∧ MH h' (rMake R s c) ∧ h' 65 = upd (h 65) (R.1 0) (-1) ∧ (∀ o, o ∉ [50, 62, 63, 64, 65, 73] → h' o = h o) ∧ ∀ k, k ≠ 27 → h' 50 k = h 50 k) := by
  refine met_of (by decide +kernel) (Nat.le_of_ble_eq_true rfl) ?_
  show T a 0 mX10_make 0 [(0, rv a 50), (1, .int (nI s))] [] S h _
  refine tr_aload_n (pc := 0) 0 dX10_make_0 rfl rfl ?_
  refine tr_getR (pc := 1) (q := 62) dX10_make_1 (hS.1 50 (13, 45) rfl) fi_X10_43 rfl (hS.2 50 23 62 rfl) ?_
  refine tr_aload_n (pc := 4) 0 dX10_make_4 rfl rfl ?_
  refine tr_getI (pc := 5) (x := nI (R.1 0)) dX10_make_5 (hS.1 50 (13, 45) rfl) fi_X10_236 rfl hT.1.1 ?_
  refine tr_iload_n (pc := 8) 1 dX10_make_8 rfl rfl ?_
  refine tr_iast (pc := 9) (R.1 0) dX10_make_9 (hS.1 62 (0, 4100) rfl) rfl (by omega) (by decide) ?_
  refine tr_aload_n (pc := 10) 0 dX10_make_10 rfl rfl ?_
  refine tr_getR (pc := 11) (q := 63) dX10_make_11 (hS.1 50 (13, 45) rfl) fi_X10_46 rfl (hS.2 50 24 63 rfl) ?_
  refine tr_aload_n (pc := 14) 0 dX10_make_14 rfl rfl ?_
  refine tr_getI (pc := 15) (x := nI (R.1 0)) dX10_make_15 (hS.1 50 (13, 45) rfl) fi_X10_236 rfl hT.1.1 ?_
  refine tr_iconst (pc := 18) (v := -1) dX10_make_18 (by decide) ?_
  refine tr_iast (pc := 19) (R.1 0) dX10_make_19 (hS.1 63 (0, 4100) rfl) rfl (by omega) (by decide) ?_
  refine tr_aload_n (pc := 20) 0 dX10_make_20 rfl rfl ?_
  refine tr_getR (pc := 21) (q := 64) dX10_make_21 (hS.1 50 (13, 45) rfl) fi_X10_49 rfl (hS.2 50 25 64 rfl) ?_
  refine tr_aload_n (pc := 24) 0 dX10_make_24 rfl rfl ?_
  refine tr_getI (pc := 25) (x := nI (R.1 0)) dX10_make_25 (hS.1 50 (13, 45) rfl) fi_X10_236 rfl hT.1.1 ?_
  refine tr_aload_n (pc := 28) 0 dX10_make_28 rfl rfl ?_
  refine tr_getR (pc := 29) (q := 69) dX10_make_29 (hS.1 50 (13, 45) rfl) fi_X10_64 rfl (hS.2 50 32 69 rfl) ?_
  refine tr_aload_n (pc := 32) 0 dX10_make_32 rfl rfl ?_
  refine tr_getI (pc := 33) (x := nI (D + 1)) dX10_make_33 (hS.1 50 (13, 45) rfl) fi_X10_230 rfl hD ?_
  refine tr_iconst (pc := 36) (v := nI 1) dX10_make_36 (by decide) ?_
  refine tr_isub (pc := 37) (v := nI D) dX10_make_37 (by rw [pk_sub (by omega)]; rfl) ?_
  refine tr_iald (pc := 38) (v := nI c) D dX10_make_38 (hS.1 69 (0, 4) rfl) rfl (by omega) (by decide) hc ?_
  refine tr_iast (pc := 39) (R.1 0) dX10_make_39 (hS.1 64 (0, 4100) rfl) rfl (by omega) (by decide) ?_
  refine tr_aload_n (pc := 40) 0 dX10_make_40 rfl rfl ?_
  refine tr_getR (pc := 41) (q := 65) dX10_make_41 (hS.1 50 (13, 45) rfl) fi_X10_52 rfl (hS.2 50 26 65 rfl) ?_
  refine tr_aload_n (pc := 44) 0 dX10_make_44 rfl rfl ?_
  refine tr_getI (pc := 45) (x := nI (R.1 0)) dX10_make_45 (hS.1 50 (13, 45) rfl) fi_X10_236 rfl hT.1.1 ?_
  refine tr_iconst (pc := 48) (v := -1) dX10_make_48 (by decide) ?_
  refine tr_iast (pc := 49) (R.1 0) dX10_make_49 (hS.1 65 (0, 4100) rfl) rfl (by omega) (by decide) ?_
  refine tr_aload_n (pc := 50) 0 dX10_make_50 rfl rfl ?_
  refine tr_getR (pc := 51) (q := 73) dX10_make_51 (hS.1 50 (13, 45) rfl) fi_X10_76 rfl (hS.2 50 42 73 rfl) ?_
  refine tr_iload_n (pc := 54) 1 dX10_make_54 rfl rfl ?_
  refine tr_dup2 (pc := 55) dX10_make_55 rfl rfl ?_
  refine tr_iald (pc := 56) (v := nI (R.2.1 2 s)) s dX10_make_56 (hS.1 73 (0, 32) rfl) rfl (by omega) (by decide) (hT.2.2 s hs32).1 ?_
  refine tr_iconst (pc := 57) (v := nI 1) dX10_make_57 (by decide) ?_
  refine tr_iadd (pc := 58) (v := nI (R.2.1 2 s + 1)) dX10_make_58 (nI_add _ _) ?_
  refine tr_iast (pc := 59) s dX10_make_59 (hS.1 73 (0, 32) rfl) rfl (by omega) (by decide) ?_
  refine tr_aload_n (pc := 60) 0 dX10_make_60 rfl rfl ?_
  refine tr_dup (pc := 61) dX10_make_61 rfl ?_
  refine tr_getI (pc := 62) (x := nI (R.1 0)) dX10_make_62 (hS.1 50 (13, 45) rfl) fi_X10_236 rfl hT.1.1 ?_
  refine tr_iconst (pc := 65) (v := nI 1) dX10_make_65 (by decide) ?_
  refine tr_iadd (pc := 66) (v := nI (R.1 0 + 1)) dX10_make_66 (nI_add _ _) ?_
  refine tr_putI (pc := 67) (x := nI (R.1 0 + 1)) dX10_make_67 (hS.1 50 (13, 45) rfl) fi_X10_236 rfl rfl rfl ?_
  refine tr_aload_n (pc := 70) 0 dX10_make_70 rfl rfl ?_
  refine tr_getI (pc := 71) (x := nI (R.1 0 + 1)) dX10_make_71 (hS.1 50 (13, 45) rfl) fi_X10_236 rfl rfl ?_
  refine tr_iconst (pc := 74) (v := nI 1) dX10_make_74 (by decide) ?_
  refine tr_isub (pc := 75) (v := nI (R.1 0)) dX10_make_75 (by rw [pk_sub (by omega)]; rfl) ?_
  exact tr_iret (pc := 76) dX10_make_76 rfl rfl (by
      refine ⟨rfl, rfl, mh_make hT (fun k hk => ?_) rfl rfl rfl rfl rfl rfl rfl, rfl, fun j hj => ?_, fun k hk => ?_⟩
      · rw [hs_same, upd_n hk]; rfl
      · simp only [List.mem_cons, List.not_mem_nil, or_false, not_or] at hj
        rw [hs_ne (by omega), hs_ne (by omega), hs_ne (by omega), hs_ne (by omega), hs_ne (by omega), hs_ne (by omega)]
      · rw [hs_same, upd_n hk]; rfl)

set_option maxHeartbeats 4000000 in
set_option maxRecDepth 100000 in
theorem c_mlock {a : Am} {S : St} {h : Hp} (hS : IsSt S) {P : Prog} (hV : VB P) {R : RS} (hT : MH h R) (hW : WF P R) (hn : R.1 0 ≤ 4096) {m i t : Nat} (hm : m < 4) (ht : t < R.1 0) (hid : h 72 m = idl P m) : CT a 1 mX10_lock [rv a 50, .int (nI m), .int (nI i), .int (nI t)] S h (fun v S' h' => v = none ∧ S = S' ∧ MH h' (rLock R t (if tb (idl P m) i = true then 1 else 0)) ∧ (∀ o, o ≠ 50 → o ≠ 75 → h' o = h o) ∧ ∀ k, k ≠ 37 → k ≠ 38 → h' 50 k = h 50 k) := by
  have hns := nSt_le hV
  have hso := (hW.1 t ht).1
  refine met_of (by decide +kernel) (Nat.le_of_ble_eq_true rfl) ?_
  show T a 1 mX10_lock 0 [(0, rv a 50), (1, .int (nI m)), (2, .int (nI i)), (3, .int (nI t))] [] S h _
  refine tr_aload_n (pc := 0) 0 dX10_lock_0 rfl rfl ?_
  refine tr_dup (pc := 1) dX10_lock_1 rfl ?_
  refine tr_getI (pc := 2) (x := nI (R.1 1)) dX10_lock_2 (hS.1 50 (13, 45) rfl) fi_X10_248 rfl hT.1.2.2.1 ?_
  refine tr_iconst (pc := 5) (v := nI 1) dX10_lock_5 (by decide) ?_
  refine tr_iadd (pc := 6) (v := nI (R.1 1 + 1)) dX10_lock_6 (nI_add _ _) ?_
  refine tr_putI (pc := 7) (x := nI (R.1 1 + 1)) dX10_lock_7 (hS.1 50 (13, 45) rfl) fi_X10_248 rfl rfl rfl ?_
  refine tr_aload_n (pc := 10) 0 dX10_lock_10 rfl rfl ?_
  refine tr_getR (pc := 11) (q := 75) dX10_lock_11 (hS.1 50 (13, 45) rfl) fi_X10_82 rfl (hS.2 50 44 75 rfl) ?_
  refine tr_aload_n (pc := 14) 0 dX10_lock_14 rfl rfl ?_
  refine tr_getR (pc := 15) (q := 62) dX10_lock_15 (hS.1 50 (13, 45) rfl) fi_X10_43 rfl (hS.2 50 23 62 rfl) ?_
  refine tr_iload_n (pc := 18) 3 dX10_lock_18 rfl rfl ?_
  refine tr_iald (pc := 19) (v := nI (R.2.1 0 t)) t dX10_lock_19 (hS.1 62 (0, 4100) rfl) rfl (by omega) (by decide) (hT.2.1 t ht).1 ?_
  refine tr_dup2 (pc := 20) dX10_lock_20 rfl rfl ?_
  refine tr_iald (pc := 21) (v := nI (R.2.1 4 (R.2.1 0 t))) (R.2.1 0 t) dX10_lock_21 (hS.1 75 (0, 32) rfl) rfl (by omega) (by decide) (hT.2.2 _ (by omega)).2.2 ?_
  refine tr_iconst (pc := 22) (v := nI 1) dX10_lock_22 (by decide) ?_
  refine tr_iadd (pc := 23) (v := nI (R.2.1 4 (R.2.1 0 t) + 1)) dX10_lock_23 (nI_add _ _) ?_
  refine tr_iast (pc := 24) (R.2.1 0 t) dX10_lock_24 (hS.1 75 (0, 32) rfl) rfl (by omega) (by decide) ?_
  refine tr_aload_n (pc := 25) 0 dX10_lock_25 rfl rfl ?_
  refine tr_dup (pc := 26) dX10_lock_26 rfl ?_
  refine tr_getI (pc := 27) (x := nI (R.1 2)) dX10_lock_27 (hS.1 50 (13, 45) rfl) fi_X10_251 rfl hT.1.2.2.2.1 ?_
  refine tr_aload_n (pc := 30) 0 dX10_lock_30 rfl rfl ?_
  refine tr_getR (pc := 31) (q := 72) dX10_lock_31 (hS.1 50 (13, 45) rfl) fi_X10_73 rfl (hS.2 50 41 72 rfl) ?_
  refine tr_iload_n (pc := 34) 1 dX10_lock_34 rfl rfl ?_
  refine tr_iald (pc := 35) (v := idl P m) m dX10_lock_35 (hS.1 72 (0, 4) rfl) rfl (by omega) (by decide) hid ?_
  refine tr_iload_n (pc := 36) 2 dX10_lock_36 rfl rfl ?_
  cases ht1 : tb (idl P m) i with
  | true => ?_
  | false => ?_
  · skip
    refine tr_callS (pc := 37) (rest := [.int (nI (R.1 2)), rv a 50]) dX10_lock_37 ml_X10_186 cs_X10_has rfl rfl (Nat.le_of_ble_eq_true rfl) (by decide) (c_mhas_y ht1) ?_
    rintro _ _ _ ⟨rfl, rfl, rfl⟩
    show T a 1 mX10_lock 40 [(0, rv a 50), (1, .int (nI m)), (2, .int (nI i)), (3, .int (nI t))] [.int (nI 1), .int (nI (R.1 2)), rv a 50] S (hs (hs h 50 (upd (h 50) 37 (nI (R.1 1 + 1)))) 75 (upd ((hs h 50 (upd (h 50) 37 (nI (R.1 1 + 1)))) 75) (R.2.1 0 t) (nI (R.2.1 4 (R.2.1 0 t) + 1)))) _
    refine tr_if_eq (pc := 40) (tgt := 47) dX10_lock_40 (by decide) (nI_z_eq (by omega)) (fun hcc => absurd hcc (by decide)) (fun _ => ?_)
    refine tr_iconst (pc := 43) (v := nI 1) dX10_lock_43 (by decide) ?_
    refine tr_goto (pc := 44) (tgt := 48) dX10_lock_44 (by decide) ?_
    refine tr_iadd (pc := 48) (v := nI (R.1 2 + 1)) dX10_lock_48 (nI_add _ _) ?_
    refine tr_putI (pc := 49) (x := nI (R.1 2 + 1)) dX10_lock_49 (hS.1 50 (13, 45) rfl) fi_X10_251 rfl rfl rfl ?_
    exact tr_vret (pc := 52) dX10_lock_52 rfl (by
        refine ⟨rfl, rfl, ?_, fun j j1 j2 => ?_, fun k k1 k2 => ?_⟩
        · rw [if_pos rfl]
          refine mh_lock hT (fun k k1 k2 => ?_) rfl rfl rfl (fun j j1 j2 => ?_)
          · rw [hs_same, upd_n k2, hs_ne (by decide), hs_same, upd_n k1]
          · rw [hs_ne j1, hs_ne j2, hs_ne j1]
        · rw [hs_ne j1, hs_ne j2, hs_ne j1]
        · rw [hs_same, upd_n k2, hs_ne (by decide), hs_same, upd_n k1])
  · skip
    refine tr_callS (pc := 37) (rest := [.int (nI (R.1 2)), rv a 50]) dX10_lock_37 ml_X10_186 cs_X10_has rfl rfl (Nat.le_of_ble_eq_true rfl) (by decide) (c_mhas_n ht1) ?_
    rintro _ _ _ ⟨rfl, rfl, rfl⟩
    show T a 1 mX10_lock 40 [(0, rv a 50), (1, .int (nI m)), (2, .int (nI i)), (3, .int (nI t))] [.int (nI 0), .int (nI (R.1 2)), rv a 50] S (hs (hs h 50 (upd (h 50) 37 (nI (R.1 1 + 1)))) 75 (upd ((hs h 50 (upd (h 50) 37 (nI (R.1 1 + 1)))) 75) (R.2.1 0 t) (nI (R.2.1 4 (R.2.1 0 t) + 1)))) _
    refine tr_if_eq (pc := 40) (tgt := 47) dX10_lock_40 (by decide) (nI_z_eq (by omega)) (fun _ => ?_) (fun hcc => absurd (by decide) hcc)
    refine tr_iconst (pc := 47) (v := nI 0) dX10_lock_47 (by decide) ?_
    refine tr_iadd (pc := 48) (v := nI (R.1 2 + 0)) dX10_lock_48 (nI_add _ _) ?_
    refine tr_putI (pc := 49) (x := nI (R.1 2 + 0)) dX10_lock_49 (hS.1 50 (13, 45) rfl) fi_X10_251 rfl rfl rfl ?_
    exact tr_vret (pc := 52) dX10_lock_52 rfl (by
        refine ⟨rfl, rfl, ?_, fun j j1 j2 => ?_, fun k k1 k2 => ?_⟩
        · rw [if_neg (by decide)]
          refine mh_lock hT (fun k k1 k2 => ?_) rfl rfl rfl (fun j j1 j2 => ?_)
          · rw [hs_same, upd_n k2, hs_ne (by decide), hs_same, upd_n k1]
          · rw [hs_ne j1, hs_ne j2, hs_ne j1]
        · rw [hs_ne j1, hs_ne j2, hs_ne j1]
        · rw [hs_same, upd_n k2, hs_ne (by decide), hs_same, upd_n k1])

set_option maxHeartbeats 4000000 in
set_option maxRecDepth 100000 in
theorem c_mcall {a : Am} {S : St} {h : Hp} (hS : IsSt S) {R : RS} (hT : MH h R) {D m : Nat} {g : OT} (hD : h 50 35 = nI D) (hD4 : D < 4) : CT a 0 mX10_call [rv a 50, .int (nI m), .int (tv g)] S h (fun v S' h' => v = none ∧ S = S' ∧ h' 50 35 = nI (D + 1) ∧ h' 50 36 = h 50 36 ∧ MH h' (rCall R) ∧ FA h' D m 0 (R.1 3) g (R.1 0) (E0 g) ∧ Lw D h h' ∧ h' 65 = h 65 ∧ Fm mF mL h h') := by
  refine met_of (by decide +kernel) (Nat.le_of_ble_eq_true rfl) ?_
  show T a 0 mX10_call 0 [(0, rv a 50), (1, .int (nI m)), (2, .int (tv g))] [] S h _
  refine tr_iconst (pc := 0) (v := nI 0) dX10_call_0 (by decide) ?_
  refine tr_istore_n (pc := 1) (lv' := [(3, .int (nI 0)), (0, rv a 50), (1, .int (nI m)), (2, .int (tv g))]) dX10_call_1 rfl (by decide) rfl ?_
  refine tr_iload_n (pc := 2) 0 dX10_call_2 rfl rfl ?_
  refine tr_iconst (pc := 3) (v := nI 4) dX10_call_3 (by decide) ?_
  refine tr_icmp_ge (pc := 4) (tgt := 35) dX10_call_4 (by decide) (nI_leI (by omega) (by omega)) (fun hcc => absurd hcc (by decide)) (fun _ => ?_)
  refine tr_aload_n (pc := 7) 1 dX10_call_7 rfl rfl ?_
  refine tr_getR (pc := 8) (q := 66) dX10_call_8 (hS.1 50 (13, 45) rfl) fi_X10_55 rfl (hS.2 50 29 66 rfl) ?_
  refine tr_iconst (pc := 11) (v := nI 4) dX10_call_11 (by decide) ?_
  refine tr_aload_n (pc := 12) 1 dX10_call_12 rfl rfl ?_
  refine tr_getI (pc := 13) (x := nI D) dX10_call_13 (hS.1 50 (13, 45) rfl) fi_X10_230 rfl hD ?_
  refine tr_imul (pc := 16) (v := nI (4 * D)) dX10_call_16 (pk_mul _ _) ?_
  refine tr_iload_n (pc := 17) 0 dX10_call_17 rfl rfl ?_
  refine tr_iadd (pc := 18) (v := nI (4 * D + 0)) dX10_call_18 (nI_add _ _) ?_
  refine tr_iload_n (pc := 19) 0 dX10_call_19 rfl rfl ?_
  refine tr_if_ne (pc := 20) (tgt := 27) dX10_call_20 (by decide) (nI_z_eq (by omega)) (fun hcc => absurd (by decide) hcc) (fun _ => ?_)
  refine tr_iload_n (pc := 23) 3 dX10_call_23 rfl rfl ?_
  refine tr_goto (pc := 24) (tgt := 28) dX10_call_24 (by decide) ?_
  refine tr_iast (pc := 28) (4 * D + 0) dX10_call_28 (hS.1 66 (0, 16) rfl) rfl (by omega) (by decide) ?_
  refine tr_iinc (pc := 29) (v := nI 1) (lv' := [(3, .int (nI 1)), (0, rv a 50), (1, .int (nI m)), (2, .int (tv g))]) 0 dX10_call_29 rfl (by rw [show Int32.ofInt 1 = nI 1 from by decide, nI_add]) (by decide) rfl ?_
  refine tr_goto (pc := 32) (tgt := 2) dX10_call_32 (by decide) ?_
  refine tr_iload_n (pc := 2) 0 dX10_call_2 rfl rfl ?_
  refine tr_iconst (pc := 3) (v := nI 4) dX10_call_3 (by decide) ?_
  refine tr_icmp_ge (pc := 4) (tgt := 35) dX10_call_4 (by decide) (nI_leI (by omega) (by omega)) (fun hcc => absurd hcc (by decide)) (fun _ => ?_)
  refine tr_aload_n (pc := 7) 1 dX10_call_7 rfl rfl ?_
  refine tr_getR (pc := 8) (q := 66) dX10_call_8 (hS.1 50 (13, 45) rfl) fi_X10_55 rfl (hS.2 50 29 66 rfl) ?_
  refine tr_iconst (pc := 11) (v := nI 4) dX10_call_11 (by decide) ?_
  refine tr_aload_n (pc := 12) 1 dX10_call_12 rfl rfl ?_
  refine tr_getI (pc := 13) (x := nI D) dX10_call_13 (hS.1 50 (13, 45) rfl) fi_X10_230 rfl hD ?_
  refine tr_imul (pc := 16) (v := nI (4 * D)) dX10_call_16 (pk_mul _ _) ?_
  refine tr_iload_n (pc := 17) 0 dX10_call_17 rfl rfl ?_
  refine tr_iadd (pc := 18) (v := nI (4 * D + 1)) dX10_call_18 (nI_add _ _) ?_
  refine tr_iload_n (pc := 19) 0 dX10_call_19 rfl rfl ?_
  refine tr_if_ne (pc := 20) (tgt := 27) dX10_call_20 (by decide) (nI_z_eq (by omega)) (fun _ => ?_) (fun hcc => absurd hcc (by decide))
  refine tr_iconst (pc := 27) (v := -1) dX10_call_27 (by decide) ?_
  refine tr_iast (pc := 28) (4 * D + 1) dX10_call_28 (hS.1 66 (0, 16) rfl) rfl (by omega) (by decide) ?_
  refine tr_iinc (pc := 29) (v := nI 2) (lv' := [(3, .int (nI 2)), (0, rv a 50), (1, .int (nI m)), (2, .int (tv g))]) 0 dX10_call_29 rfl (by rw [show Int32.ofInt 1 = nI 1 from by decide, nI_add]) (by decide) rfl ?_
  refine tr_goto (pc := 32) (tgt := 2) dX10_call_32 (by decide) ?_
  refine tr_iload_n (pc := 2) 0 dX10_call_2 rfl rfl ?_
  refine tr_iconst (pc := 3) (v := nI 4) dX10_call_3 (by decide) ?_
  refine tr_icmp_ge (pc := 4) (tgt := 35) dX10_call_4 (by decide) (nI_leI (by omega) (by omega)) (fun hcc => absurd hcc (by decide)) (fun _ => ?_)
  refine tr_aload_n (pc := 7) 1 dX10_call_7 rfl rfl ?_
  refine tr_getR (pc := 8) (q := 66) dX10_call_8 (hS.1 50 (13, 45) rfl) fi_X10_55 rfl (hS.2 50 29 66 rfl) ?_
  refine tr_iconst (pc := 11) (v := nI 4) dX10_call_11 (by decide) ?_
  refine tr_aload_n (pc := 12) 1 dX10_call_12 rfl rfl ?_
  refine tr_getI (pc := 13) (x := nI D) dX10_call_13 (hS.1 50 (13, 45) rfl) fi_X10_230 rfl hD ?_
  refine tr_imul (pc := 16) (v := nI (4 * D)) dX10_call_16 (pk_mul _ _) ?_
  refine tr_iload_n (pc := 17) 0 dX10_call_17 rfl rfl ?_
  refine tr_iadd (pc := 18) (v := nI (4 * D + 2)) dX10_call_18 (nI_add _ _) ?_
  refine tr_iload_n (pc := 19) 0 dX10_call_19 rfl rfl ?_
  refine tr_if_ne (pc := 20) (tgt := 27) dX10_call_20 (by decide) (nI_z_eq (by omega)) (fun _ => ?_) (fun hcc => absurd hcc (by decide))
  refine tr_iconst (pc := 27) (v := -1) dX10_call_27 (by decide) ?_
  refine tr_iast (pc := 28) (4 * D + 2) dX10_call_28 (hS.1 66 (0, 16) rfl) rfl (by omega) (by decide) ?_
  refine tr_iinc (pc := 29) (v := nI 3) (lv' := [(3, .int (nI 3)), (0, rv a 50), (1, .int (nI m)), (2, .int (tv g))]) 0 dX10_call_29 rfl (by rw [show Int32.ofInt 1 = nI 1 from by decide, nI_add]) (by decide) rfl ?_
  refine tr_goto (pc := 32) (tgt := 2) dX10_call_32 (by decide) ?_
  refine tr_iload_n (pc := 2) 0 dX10_call_2 rfl rfl ?_
  refine tr_iconst (pc := 3) (v := nI 4) dX10_call_3 (by decide) ?_
  refine tr_icmp_ge (pc := 4) (tgt := 35) dX10_call_4 (by decide) (nI_leI (by omega) (by omega)) (fun hcc => absurd hcc (by decide)) (fun _ => ?_)
  refine tr_aload_n (pc := 7) 1 dX10_call_7 rfl rfl ?_
  refine tr_getR (pc := 8) (q := 66) dX10_call_8 (hS.1 50 (13, 45) rfl) fi_X10_55 rfl (hS.2 50 29 66 rfl) ?_
  refine tr_iconst (pc := 11) (v := nI 4) dX10_call_11 (by decide) ?_
  refine tr_aload_n (pc := 12) 1 dX10_call_12 rfl rfl ?_
  refine tr_getI (pc := 13) (x := nI D) dX10_call_13 (hS.1 50 (13, 45) rfl) fi_X10_230 rfl hD ?_
  refine tr_imul (pc := 16) (v := nI (4 * D)) dX10_call_16 (pk_mul _ _) ?_
  refine tr_iload_n (pc := 17) 0 dX10_call_17 rfl rfl ?_
  refine tr_iadd (pc := 18) (v := nI (4 * D + 3)) dX10_call_18 (nI_add _ _) ?_
  refine tr_iload_n (pc := 19) 0 dX10_call_19 rfl rfl ?_
  refine tr_if_ne (pc := 20) (tgt := 27) dX10_call_20 (by decide) (nI_z_eq (by omega)) (fun _ => ?_) (fun hcc => absurd hcc (by decide))
  refine tr_iconst (pc := 27) (v := -1) dX10_call_27 (by decide) ?_
  refine tr_iast (pc := 28) (4 * D + 3) dX10_call_28 (hS.1 66 (0, 16) rfl) rfl (by omega) (by decide) ?_
  refine tr_iinc (pc := 29) (v := nI 4) (lv' := [(3, .int (nI 4)), (0, rv a 50), (1, .int (nI m)), (2, .int (tv g))]) 0 dX10_call_29 rfl (by rw [show Int32.ofInt 1 = nI 1 from by decide, nI_add]) (by decide) rfl ?_
  refine tr_goto (pc := 32) (tgt := 2) dX10_call_32 (by decide) ?_
  refine tr_iload_n (pc := 2) 0 dX10_call_2 rfl rfl ?_
  refine tr_iconst (pc := 3) (v := nI 4) dX10_call_3 (by decide) ?_
  refine tr_icmp_ge (pc := 4) (tgt := 35) dX10_call_4 (by decide) (nI_leI (by omega) (by omega)) (fun _ => ?_) (fun hcc => absurd (by decide) hcc)
  refine tr_aload_n (pc := 35) 1 dX10_call_35 rfl rfl ?_
  refine tr_getR (pc := 36) (q := 67) dX10_call_36 (hS.1 50 (13, 45) rfl) fi_X10_58 rfl (hS.2 50 30 67 rfl) ?_
  refine tr_aload_n (pc := 39) 1 dX10_call_39 rfl rfl ?_
  refine tr_getI (pc := 40) (x := nI D) dX10_call_40 (hS.1 50 (13, 45) rfl) fi_X10_230 rfl hD ?_
  refine tr_iload_n (pc := 43) 2 dX10_call_43 rfl rfl ?_
  refine tr_iast (pc := 44) D dX10_call_44 (hS.1 67 (0, 4) rfl) rfl (by omega) (by decide) ?_
  refine tr_aload_n (pc := 45) 1 dX10_call_45 rfl rfl ?_
  refine tr_getR (pc := 46) (q := 68) dX10_call_46 (hS.1 50 (13, 45) rfl) fi_X10_61 rfl (hS.2 50 31 68 rfl) ?_
  refine tr_aload_n (pc := 49) 1 dX10_call_49 rfl rfl ?_
  refine tr_getI (pc := 50) (x := nI D) dX10_call_50 (hS.1 50 (13, 45) rfl) fi_X10_230 rfl hD ?_
  refine tr_iconst (pc := 53) (v := nI 0) dX10_call_53 (by decide) ?_
  refine tr_iast (pc := 54) D dX10_call_54 (hS.1 68 (0, 4) rfl) rfl (by omega) (by decide) ?_
  refine tr_aload_n (pc := 55) 1 dX10_call_55 rfl rfl ?_
  refine tr_getR (pc := 56) (q := 69) dX10_call_56 (hS.1 50 (13, 45) rfl) fi_X10_64 rfl (hS.2 50 32 69 rfl) ?_
  refine tr_aload_n (pc := 59) 1 dX10_call_59 rfl rfl ?_
  refine tr_getI (pc := 60) (x := nI D) dX10_call_60 (hS.1 50 (13, 45) rfl) fi_X10_230 rfl hD ?_
  refine tr_aload_n (pc := 63) 1 dX10_call_63 rfl rfl ?_
  refine tr_getI (pc := 64) (x := nI (R.1 3)) dX10_call_64 (hS.1 50 (13, 45) rfl) fi_X10_233 rfl hT.1.2.2.2.2.1 ?_
  refine tr_iast (pc := 67) D dX10_call_67 (hS.1 69 (0, 4) rfl) rfl (by omega) (by decide) ?_
  refine tr_aload_n (pc := 68) 1 dX10_call_68 rfl rfl ?_
  refine tr_getR (pc := 69) (q := 70) dX10_call_69 (hS.1 50 (13, 45) rfl) fi_X10_67 rfl (hS.2 50 33 70 rfl) ?_
  refine tr_aload_n (pc := 72) 1 dX10_call_72 rfl rfl ?_
  refine tr_getI (pc := 73) (x := nI D) dX10_call_73 (hS.1 50 (13, 45) rfl) fi_X10_230 rfl hD ?_
  refine tr_iload_n (pc := 76) 3 dX10_call_76 rfl rfl ?_
  refine tr_iast (pc := 77) D dX10_call_77 (hS.1 70 (0, 4) rfl) rfl (by omega) (by decide) ?_
  refine tr_aload_n (pc := 78) 1 dX10_call_78 rfl rfl ?_
  refine tr_getR (pc := 79) (q := 71) dX10_call_79 (hS.1 50 (13, 45) rfl) fi_X10_70 rfl (hS.2 50 34 71 rfl) ?_
  refine tr_aload_n (pc := 82) 1 dX10_call_82 rfl rfl ?_
  refine tr_getI (pc := 83) (x := nI D) dX10_call_83 (hS.1 50 (13, 45) rfl) fi_X10_230 rfl hD ?_
  refine tr_aload_n (pc := 86) 1 dX10_call_86 rfl rfl ?_
  refine tr_getI (pc := 87) (x := nI (R.1 0)) dX10_call_87 (hS.1 50 (13, 45) rfl) fi_X10_236 rfl hT.1.1 ?_
  refine tr_iast (pc := 90) D dX10_call_90 (hS.1 71 (0, 4) rfl) rfl (by omega) (by decide) ?_
  refine tr_aload_n (pc := 91) 1 dX10_call_91 rfl rfl ?_
  refine tr_dup (pc := 92) dX10_call_92 rfl ?_
  refine tr_getI (pc := 93) (x := nI (R.1 3)) dX10_call_93 (hS.1 50 (13, 45) rfl) fi_X10_233 rfl hT.1.2.2.2.2.1 ?_
  refine tr_iconst (pc := 96) (v := nI 1) dX10_call_96 (by decide) ?_
  refine tr_iadd (pc := 97) (v := nI (R.1 3 + 1)) dX10_call_97 (nI_add _ _) ?_
  refine tr_putI (pc := 98) (x := nI (R.1 3 + 1)) dX10_call_98 (hS.1 50 (13, 45) rfl) fi_X10_233 rfl rfl rfl ?_
  refine tr_aload_n (pc := 101) 1 dX10_call_101 rfl rfl ?_
  refine tr_dup (pc := 102) dX10_call_102 rfl ?_
  refine tr_getI (pc := 103) (x := nI D) dX10_call_103 (hS.1 50 (13, 45) rfl) fi_X10_230 rfl hD ?_
  refine tr_iconst (pc := 106) (v := nI 1) dX10_call_106 (by decide) ?_
  refine tr_iadd (pc := 107) (v := nI (D + 1)) dX10_call_107 (nI_add _ _) ?_
  refine tr_putI (pc := 108) (x := nI (D + 1)) dX10_call_108 (hS.1 50 (13, 45) rfl) fi_X10_230 rfl rfl rfl ?_
  obtain ⟨hz, ez⟩ : ∃ X, X = (hs (hs (hs (hs (hs (hs (hs (hs (hs (hs (hs h 66 (upd (h 66) (4 * D + 0) (tv g))) 66 (upd ((hs h 66 (upd (h 66) (4 * D + 0) (tv g))) 66) (4 * D + 1) (-1))) 66 (upd ((hs (hs h 66 (upd (h 66) (4 * D + 0) (tv g))) 66 (upd ((hs h 66 (upd (h 66) (4 * D + 0) (tv g))) 66) (4 * D + 1) (-1))) 66) (4 * D + 2) (-1))) 66 (upd ((hs (hs (hs h 66 (upd (h 66) (4 * D + 0) (tv g))) 66 (upd ((hs h 66 (upd (h 66) (4 * D + 0) (tv g))) 66) (4 * D + 1) (-1))) 66 (upd ((hs (hs h 66 (upd (h 66) (4 * D + 0) (tv g))) 66 (upd ((hs h 66 (upd (h 66) (4 * D + 0) (tv g))) 66) (4 * D + 1) (-1))) 66) (4 * D + 2) (-1))) 66) (4 * D + 3) (-1))) 67 (upd ((hs (hs (hs (hs h 66 (upd (h 66) (4 * D + 0) (tv g))) 66 (upd ((hs h 66 (upd (h 66) (4 * D + 0) (tv g))) 66) (4 * D + 1) (-1))) 66 (upd ((hs (hs h 66 (upd (h 66) (4 * D + 0) (tv g))) 66 (upd ((hs h 66 (upd (h 66) (4 * D + 0) (tv g))) 66) (4 * D + 1) (-1))) 66) (4 * D + 2) (-1))) 66 (upd ((hs (hs (hs h 66 (upd (h 66) (4 * D + 0) (tv g))) 66 (upd ((hs h 66 (upd (h 66) (4 * D + 0) (tv g))) 66) (4 * D + 1) (-1))) 66 (upd ((hs (hs h 66 (upd (h 66) (4 * D + 0) (tv g))) 66 (upd ((hs h 66 (upd (h 66) (4 * D + 0) (tv g))) 66) (4 * D + 1) (-1))) 66) (4 * D + 2) (-1))) 66) (4 * D + 3) (-1))) 67) D (nI m))) 68 (upd ((hs (hs (hs (hs (hs h 66 (upd (h 66) (4 * D + 0) (tv g))) 66 (upd ((hs h 66 (upd (h 66) (4 * D + 0) (tv g))) 66) (4 * D + 1) (-1))) 66 (upd ((hs (hs h 66 (upd (h 66) (4 * D + 0) (tv g))) 66 (upd ((hs h 66 (upd (h 66) (4 * D + 0) (tv g))) 66) (4 * D + 1) (-1))) 66) (4 * D + 2) (-1))) 66 (upd ((hs (hs (hs h 66 (upd (h 66) (4 * D + 0) (tv g))) 66 (upd ((hs h 66 (upd (h 66) (4 * D + 0) (tv g))) 66) (4 * D + 1) (-1))) 66 (upd ((hs (hs h 66 (upd (h 66) (4 * D + 0) (tv g))) 66 (upd ((hs h 66 (upd (h 66) (4 * D + 0) (tv g))) 66) (4 * D + 1) (-1))) 66) (4 * D + 2) (-1))) 66) (4 * D + 3) (-1))) 67 (upd ((hs (hs (hs (hs h 66 (upd (h 66) (4 * D + 0) (tv g))) 66 (upd ((hs h 66 (upd (h 66) (4 * D + 0) (tv g))) 66) (4 * D + 1) (-1))) 66 (upd ((hs (hs h 66 (upd (h 66) (4 * D + 0) (tv g))) 66 (upd ((hs h 66 (upd (h 66) (4 * D + 0) (tv g))) 66) (4 * D + 1) (-1))) 66) (4 * D + 2) (-1))) 66 (upd ((hs (hs (hs h 66 (upd (h 66) (4 * D + 0) (tv g))) 66 (upd ((hs h 66 (upd (h 66) (4 * D + 0) (tv g))) 66) (4 * D + 1) (-1))) 66 (upd ((hs (hs h 66 (upd (h 66) (4 * D + 0) (tv g))) 66 (upd ((hs h 66 (upd (h 66) (4 * D + 0) (tv g))) 66) (4 * D + 1) (-1))) 66) (4 * D + 2) (-1))) 66) (4 * D + 3) (-1))) 67) D (nI m))) 68) D (nI 0))) 69 (upd ((hs (hs (hs (hs (hs (hs h 66 (upd (h 66) (4 * D + 0) (tv g))) 66 (upd ((hs h 66 (upd (h 66) (4 * D + 0) (tv g))) 66) (4 * D + 1) (-1))) 66 (upd ((hs (hs h 66 (upd (h 66) (4 * D + 0) (tv g))) 66 (upd ((hs h 66 (upd (h 66) (4 * D + 0) (tv g))) 66) (4 * D + 1) (-1))) 66) (4 * D + 2) (-1))) 66 (upd ((hs (hs (hs h 66 (upd (h 66) (4 * D + 0) (tv g))) 66 (upd ((hs h 66 (upd (h 66) (4 * D + 0) (tv g))) 66) (4 * D + 1) (-1))) 66 (upd ((hs (hs h 66 (upd (h 66) (4 * D + 0) (tv g))) 66 (upd ((hs h 66 (upd (h 66) (4 * D + 0) (tv g))) 66) (4 * D + 1) (-1))) 66) (4 * D + 2) (-1))) 66) (4 * D + 3) (-1))) 67 (upd ((hs (hs (hs (hs h 66 (upd (h 66) (4 * D + 0) (tv g))) 66 (upd ((hs h 66 (upd (h 66) (4 * D + 0) (tv g))) 66) (4 * D + 1) (-1))) 66 (upd ((hs (hs h 66 (upd (h 66) (4 * D + 0) (tv g))) 66 (upd ((hs h 66 (upd (h 66) (4 * D + 0) (tv g))) 66) (4 * D + 1) (-1))) 66) (4 * D + 2) (-1))) 66 (upd ((hs (hs (hs h 66 (upd (h 66) (4 * D + 0) (tv g))) 66 (upd ((hs h 66 (upd (h 66) (4 * D + 0) (tv g))) 66) (4 * D + 1) (-1))) 66 (upd ((hs (hs h 66 (upd (h 66) (4 * D + 0) (tv g))) 66 (upd ((hs h 66 (upd (h 66) (4 * D + 0) (tv g))) 66) (4 * D + 1) (-1))) 66) (4 * D + 2) (-1))) 66) (4 * D + 3) (-1))) 67) D (nI m))) 68 (upd ((hs (hs (hs (hs (hs h 66 (upd (h 66) (4 * D + 0) (tv g))) 66 (upd ((hs h 66 (upd (h 66) (4 * D + 0) (tv g))) 66) (4 * D + 1) (-1))) 66 (upd ((hs (hs h 66 (upd (h 66) (4 * D + 0) (tv g))) 66 (upd ((hs h 66 (upd (h 66) (4 * D + 0) (tv g))) 66) (4 * D + 1) (-1))) 66) (4 * D + 2) (-1))) 66 (upd ((hs (hs (hs h 66 (upd (h 66) (4 * D + 0) (tv g))) 66 (upd ((hs h 66 (upd (h 66) (4 * D + 0) (tv g))) 66) (4 * D + 1) (-1))) 66 (upd ((hs (hs h 66 (upd (h 66) (4 * D + 0) (tv g))) 66 (upd ((hs h 66 (upd (h 66) (4 * D + 0) (tv g))) 66) (4 * D + 1) (-1))) 66) (4 * D + 2) (-1))) 66) (4 * D + 3) (-1))) 67 (upd ((hs (hs (hs (hs h 66 (upd (h 66) (4 * D + 0) (tv g))) 66 (upd ((hs h 66 (upd (h 66) (4 * D + 0) (tv g))) 66) (4 * D + 1) (-1))) 66 (upd ((hs (hs h 66 (upd (h 66) (4 * D + 0) (tv g))) 66 (upd ((hs h 66 (upd (h 66) (4 * D + 0) (tv g))) 66) (4 * D + 1) (-1))) 66) (4 * D + 2) (-1))) 66 (upd ((hs (hs (hs h 66 (upd (h 66) (4 * D + 0) (tv g))) 66 (upd ((hs h 66 (upd (h 66) (4 * D + 0) (tv g))) 66) (4 * D + 1) (-1))) 66 (upd ((hs (hs h 66 (upd (h 66) (4 * D + 0) (tv g))) 66 (upd ((hs h 66 (upd (h 66) (4 * D + 0) (tv g))) 66) (4 * D + 1) (-1))) 66) (4 * D + 2) (-1))) 66) (4 * D + 3) (-1))) 67) D (nI m))) 68) D (nI 0))) 69) D (nI (R.1 3)))) 70 (upd ((hs (hs (hs (hs (hs (hs (hs h 66 (upd (h 66) (4 * D + 0) (tv g))) 66 (upd ((hs h 66 (upd (h 66) (4 * D + 0) (tv g))) 66) (4 * D + 1) (-1))) 66 (upd ((hs (hs h 66 (upd (h 66) (4 * D + 0) (tv g))) 66 (upd ((hs h 66 (upd (h 66) (4 * D + 0) (tv g))) 66) (4 * D + 1) (-1))) 66) (4 * D + 2) (-1))) 66 (upd ((hs (hs (hs h 66 (upd (h 66) (4 * D + 0) (tv g))) 66 (upd ((hs h 66 (upd (h 66) (4 * D + 0) (tv g))) 66) (4 * D + 1) (-1))) 66 (upd ((hs (hs h 66 (upd (h 66) (4 * D + 0) (tv g))) 66 (upd ((hs h 66 (upd (h 66) (4 * D + 0) (tv g))) 66) (4 * D + 1) (-1))) 66) (4 * D + 2) (-1))) 66) (4 * D + 3) (-1))) 67 (upd ((hs (hs (hs (hs h 66 (upd (h 66) (4 * D + 0) (tv g))) 66 (upd ((hs h 66 (upd (h 66) (4 * D + 0) (tv g))) 66) (4 * D + 1) (-1))) 66 (upd ((hs (hs h 66 (upd (h 66) (4 * D + 0) (tv g))) 66 (upd ((hs h 66 (upd (h 66) (4 * D + 0) (tv g))) 66) (4 * D + 1) (-1))) 66) (4 * D + 2) (-1))) 66 (upd ((hs (hs (hs h 66 (upd (h 66) (4 * D + 0) (tv g))) 66 (upd ((hs h 66 (upd (h 66) (4 * D + 0) (tv g))) 66) (4 * D + 1) (-1))) 66 (upd ((hs (hs h 66 (upd (h 66) (4 * D + 0) (tv g))) 66 (upd ((hs h 66 (upd (h 66) (4 * D + 0) (tv g))) 66) (4 * D + 1) (-1))) 66) (4 * D + 2) (-1))) 66) (4 * D + 3) (-1))) 67) D (nI m))) 68 (upd ((hs (hs (hs (hs (hs h 66 (upd (h 66) (4 * D + 0) (tv g))) 66 (upd ((hs h 66 (upd (h 66) (4 * D + 0) (tv g))) 66) (4 * D + 1) (-1))) 66 (upd ((hs (hs h 66 (upd (h 66) (4 * D + 0) (tv g))) 66 (upd ((hs h 66 (upd (h 66) (4 * D + 0) (tv g))) 66) (4 * D + 1) (-1))) 66) (4 * D + 2) (-1))) 66 (upd ((hs (hs (hs h 66 (upd (h 66) (4 * D + 0) (tv g))) 66 (upd ((hs h 66 (upd (h 66) (4 * D + 0) (tv g))) 66) (4 * D + 1) (-1))) 66 (upd ((hs (hs h 66 (upd (h 66) (4 * D + 0) (tv g))) 66 (upd ((hs h 66 (upd (h 66) (4 * D + 0) (tv g))) 66) (4 * D + 1) (-1))) 66) (4 * D + 2) (-1))) 66) (4 * D + 3) (-1))) 67 (upd ((hs (hs (hs (hs h 66 (upd (h 66) (4 * D + 0) (tv g))) 66 (upd ((hs h 66 (upd (h 66) (4 * D + 0) (tv g))) 66) (4 * D + 1) (-1))) 66 (upd ((hs (hs h 66 (upd (h 66) (4 * D + 0) (tv g))) 66 (upd ((hs h 66 (upd (h 66) (4 * D + 0) (tv g))) 66) (4 * D + 1) (-1))) 66) (4 * D + 2) (-1))) 66 (upd ((hs (hs (hs h 66 (upd (h 66) (4 * D + 0) (tv g))) 66 (upd ((hs h 66 (upd (h 66) (4 * D + 0) (tv g))) 66) (4 * D + 1) (-1))) 66 (upd ((hs (hs h 66 (upd (h 66) (4 * D + 0) (tv g))) 66 (upd ((hs h 66 (upd (h 66) (4 * D + 0) (tv g))) 66) (4 * D + 1) (-1))) 66) (4 * D + 2) (-1))) 66) (4 * D + 3) (-1))) 67) D (nI m))) 68) D (nI 0))) 69 (upd ((hs (hs (hs (hs (hs (hs h 66 (upd (h 66) (4 * D + 0) (tv g))) 66 (upd ((hs h 66 (upd (h 66) (4 * D + 0) (tv g))) 66) (4 * D + 1) (-1))) 66 (upd ((hs (hs h 66 (upd (h 66) (4 * D + 0) (tv g))) 66 (upd ((hs h 66 (upd (h 66) (4 * D + 0) (tv g))) 66) (4 * D + 1) (-1))) 66) (4 * D + 2) (-1))) 66 (upd ((hs (hs (hs h 66 (upd (h 66) (4 * D + 0) (tv g))) 66 (upd ((hs h 66 (upd (h 66) (4 * D + 0) (tv g))) 66) (4 * D + 1) (-1))) 66 (upd ((hs (hs h 66 (upd (h 66) (4 * D + 0) (tv g))) 66 (upd ((hs h 66 (upd (h 66) (4 * D + 0) (tv g))) 66) (4 * D + 1) (-1))) 66) (4 * D + 2) (-1))) 66) (4 * D + 3) (-1))) 67 (upd ((hs (hs (hs (hs h 66 (upd (h 66) (4 * D + 0) (tv g))) 66 (upd ((hs h 66 (upd (h 66) (4 * D + 0) (tv g))) 66) (4 * D + 1) (-1))) 66 (upd ((hs (hs h 66 (upd (h 66) (4 * D + 0) (tv g))) 66 (upd ((hs h 66 (upd (h 66) (4 * D + 0) (tv g))) 66) (4 * D + 1) (-1))) 66) (4 * D + 2) (-1))) 66 (upd ((hs (hs (hs h 66 (upd (h 66) (4 * D + 0) (tv g))) 66 (upd ((hs h 66 (upd (h 66) (4 * D + 0) (tv g))) 66) (4 * D + 1) (-1))) 66 (upd ((hs (hs h 66 (upd (h 66) (4 * D + 0) (tv g))) 66 (upd ((hs h 66 (upd (h 66) (4 * D + 0) (tv g))) 66) (4 * D + 1) (-1))) 66) (4 * D + 2) (-1))) 66) (4 * D + 3) (-1))) 67) D (nI m))) 68 (upd ((hs (hs (hs (hs (hs h 66 (upd (h 66) (4 * D + 0) (tv g))) 66 (upd ((hs h 66 (upd (h 66) (4 * D + 0) (tv g))) 66) (4 * D + 1) (-1))) 66 (upd ((hs (hs h 66 (upd (h 66) (4 * D + 0) (tv g))) 66 (upd ((hs h 66 (upd (h 66) (4 * D + 0) (tv g))) 66) (4 * D + 1) (-1))) 66) (4 * D + 2) (-1))) 66 (upd ((hs (hs (hs h 66 (upd (h 66) (4 * D + 0) (tv g))) 66 (upd ((hs h 66 (upd (h 66) (4 * D + 0) (tv g))) 66) (4 * D + 1) (-1))) 66 (upd ((hs (hs h 66 (upd (h 66) (4 * D + 0) (tv g))) 66 (upd ((hs h 66 (upd (h 66) (4 * D + 0) (tv g))) 66) (4 * D + 1) (-1))) 66) (4 * D + 2) (-1))) 66) (4 * D + 3) (-1))) 67 (upd ((hs (hs (hs (hs h 66 (upd (h 66) (4 * D + 0) (tv g))) 66 (upd ((hs h 66 (upd (h 66) (4 * D + 0) (tv g))) 66) (4 * D + 1) (-1))) 66 (upd ((hs (hs h 66 (upd (h 66) (4 * D + 0) (tv g))) 66 (upd ((hs h 66 (upd (h 66) (4 * D + 0) (tv g))) 66) (4 * D + 1) (-1))) 66) (4 * D + 2) (-1))) 66 (upd ((hs (hs (hs h 66 (upd (h 66) (4 * D + 0) (tv g))) 66 (upd ((hs h 66 (upd (h 66) (4 * D + 0) (tv g))) 66) (4 * D + 1) (-1))) 66 (upd ((hs (hs h 66 (upd (h 66) (4 * D + 0) (tv g))) 66 (upd ((hs h 66 (upd (h 66) (4 * D + 0) (tv g))) 66) (4 * D + 1) (-1))) 66) (4 * D + 2) (-1))) 66) (4 * D + 3) (-1))) 67) D (nI m))) 68) D (nI 0))) 69) D (nI (R.1 3)))) 70) D (tv g))) 71 (upd ((hs (hs (hs (hs (hs (hs (hs (hs h 66 (upd (h 66) (4 * D + 0) (tv g))) 66 (upd ((hs h 66 (upd (h 66) (4 * D + 0) (tv g))) 66) (4 * D + 1) (-1))) 66 (upd ((hs (hs h 66 (upd (h 66) (4 * D + 0) (tv g))) 66 (upd ((hs h 66 (upd (h 66) (4 * D + 0) (tv g))) 66) (4 * D + 1) (-1))) 66) (4 * D + 2) (-1))) 66 (upd ((hs (hs (hs h 66 (upd (h 66) (4 * D + 0) (tv g))) 66 (upd ((hs h 66 (upd (h 66) (4 * D + 0) (tv g))) 66) (4 * D + 1) (-1))) 66 (upd ((hs (hs h 66 (upd (h 66) (4 * D + 0) (tv g))) 66 (upd ((hs h 66 (upd (h 66) (4 * D + 0) (tv g))) 66) (4 * D + 1) (-1))) 66) (4 * D + 2) (-1))) 66) (4 * D + 3) (-1))) 67 (upd ((hs (hs (hs (hs h 66 (upd (h 66) (4 * D + 0) (tv g))) 66 (upd ((hs h 66 (upd (h 66) (4 * D + 0) (tv g))) 66) (4 * D + 1) (-1))) 66 (upd ((hs (hs h 66 (upd (h 66) (4 * D + 0) (tv g))) 66 (upd ((hs h 66 (upd (h 66) (4 * D + 0) (tv g))) 66) (4 * D + 1) (-1))) 66) (4 * D + 2) (-1))) 66 (upd ((hs (hs (hs h 66 (upd (h 66) (4 * D + 0) (tv g))) 66 (upd ((hs h 66 (upd (h 66) (4 * D + 0) (tv g))) 66) (4 * D + 1) (-1))) 66 (upd ((hs (hs h 66 (upd (h 66) (4 * D + 0) (tv g))) 66 (upd ((hs h 66 (upd (h 66) (4 * D + 0) (tv g))) 66) (4 * D + 1) (-1))) 66) (4 * D + 2) (-1))) 66) (4 * D + 3) (-1))) 67) D (nI m))) 68 (upd ((hs (hs (hs (hs (hs h 66 (upd (h 66) (4 * D + 0) (tv g))) 66 (upd ((hs h 66 (upd (h 66) (4 * D + 0) (tv g))) 66) (4 * D + 1) (-1))) 66 (upd ((hs (hs h 66 (upd (h 66) (4 * D + 0) (tv g))) 66 (upd ((hs h 66 (upd (h 66) (4 * D + 0) (tv g))) 66) (4 * D + 1) (-1))) 66) (4 * D + 2) (-1))) 66 (upd ((hs (hs (hs h 66 (upd (h 66) (4 * D + 0) (tv g))) 66 (upd ((hs h 66 (upd (h 66) (4 * D + 0) (tv g))) 66) (4 * D + 1) (-1))) 66 (upd ((hs (hs h 66 (upd (h 66) (4 * D + 0) (tv g))) 66 (upd ((hs h 66 (upd (h 66) (4 * D + 0) (tv g))) 66) (4 * D + 1) (-1))) 66) (4 * D + 2) (-1))) 66) (4 * D + 3) (-1))) 67 (upd ((hs (hs (hs (hs h 66 (upd (h 66) (4 * D + 0) (tv g))) 66 (upd ((hs h 66 (upd (h 66) (4 * D + 0) (tv g))) 66) (4 * D + 1) (-1))) 66 (upd ((hs (hs h 66 (upd (h 66) (4 * D + 0) (tv g))) 66 (upd ((hs h 66 (upd (h 66) (4 * D + 0) (tv g))) 66) (4 * D + 1) (-1))) 66) (4 * D + 2) (-1))) 66 (upd ((hs (hs (hs h 66 (upd (h 66) (4 * D + 0) (tv g))) 66 (upd ((hs h 66 (upd (h 66) (4 * D + 0) (tv g))) 66) (4 * D + 1) (-1))) 66 (upd ((hs (hs h 66 (upd (h 66) (4 * D + 0) (tv g))) 66 (upd ((hs h 66 (upd (h 66) (4 * D + 0) (tv g))) 66) (4 * D + 1) (-1))) 66) (4 * D + 2) (-1))) 66) (4 * D + 3) (-1))) 67) D (nI m))) 68) D (nI 0))) 69 (upd ((hs (hs (hs (hs (hs (hs h 66 (upd (h 66) (4 * D + 0) (tv g))) 66 (upd ((hs h 66 (upd (h 66) (4 * D + 0) (tv g))) 66) (4 * D + 1) (-1))) 66 (upd ((hs (hs h 66 (upd (h 66) (4 * D + 0) (tv g))) 66 (upd ((hs h 66 (upd (h 66) (4 * D + 0) (tv g))) 66) (4 * D + 1) (-1))) 66) (4 * D + 2) (-1))) 66 (upd ((hs (hs (hs h 66 (upd (h 66) (4 * D + 0) (tv g))) 66 (upd ((hs h 66 (upd (h 66) (4 * D + 0) (tv g))) 66) (4 * D + 1) (-1))) 66 (upd ((hs (hs h 66 (upd (h 66) (4 * D + 0) (tv g))) 66 (upd ((hs h 66 (upd (h 66) (4 * D + 0) (tv g))) 66) (4 * D + 1) (-1))) 66) (4 * D + 2) (-1))) 66) (4 * D + 3) (-1))) 67 (upd ((hs (hs (hs (hs h 66 (upd (h 66) (4 * D + 0) (tv g))) 66 (upd ((hs h 66 (upd (h 66) (4 * D + 0) (tv g))) 66) (4 * D + 1) (-1))) 66 (upd ((hs (hs h 66 (upd (h 66) (4 * D + 0) (tv g))) 66 (upd ((hs h 66 (upd (h 66) (4 * D + 0) (tv g))) 66) (4 * D + 1) (-1))) 66) (4 * D + 2) (-1))) 66 (upd ((hs (hs (hs h 66 (upd (h 66) (4 * D + 0) (tv g))) 66 (upd ((hs h 66 (upd (h 66) (4 * D + 0) (tv g))) 66) (4 * D + 1) (-1))) 66 (upd ((hs (hs h 66 (upd (h 66) (4 * D + 0) (tv g))) 66 (upd ((hs h 66 (upd (h 66) (4 * D + 0) (tv g))) 66) (4 * D + 1) (-1))) 66) (4 * D + 2) (-1))) 66) (4 * D + 3) (-1))) 67) D (nI m))) 68 (upd ((hs (hs (hs (hs (hs h 66 (upd (h 66) (4 * D + 0) (tv g))) 66 (upd ((hs h 66 (upd (h 66) (4 * D + 0) (tv g))) 66) (4 * D + 1) (-1))) 66 (upd ((hs (hs h 66 (upd (h 66) (4 * D + 0) (tv g))) 66 (upd ((hs h 66 (upd (h 66) (4 * D + 0) (tv g))) 66) (4 * D + 1) (-1))) 66) (4 * D + 2) (-1))) 66 (upd ((hs (hs (hs h 66 (upd (h 66) (4 * D + 0) (tv g))) 66 (upd ((hs h 66 (upd (h 66) (4 * D + 0) (tv g))) 66) (4 * D + 1) (-1))) 66 (upd ((hs (hs h 66 (upd (h 66) (4 * D + 0) (tv g))) 66 (upd ((hs h 66 (upd (h 66) (4 * D + 0) (tv g))) 66) (4 * D + 1) (-1))) 66) (4 * D + 2) (-1))) 66) (4 * D + 3) (-1))) 67 (upd ((hs (hs (hs (hs h 66 (upd (h 66) (4 * D + 0) (tv g))) 66 (upd ((hs h 66 (upd (h 66) (4 * D + 0) (tv g))) 66) (4 * D + 1) (-1))) 66 (upd ((hs (hs h 66 (upd (h 66) (4 * D + 0) (tv g))) 66 (upd ((hs h 66 (upd (h 66) (4 * D + 0) (tv g))) 66) (4 * D + 1) (-1))) 66) (4 * D + 2) (-1))) 66 (upd ((hs (hs (hs h 66 (upd (h 66) (4 * D + 0) (tv g))) 66 (upd ((hs h 66 (upd (h 66) (4 * D + 0) (tv g))) 66) (4 * D + 1) (-1))) 66 (upd ((hs (hs h 66 (upd (h 66) (4 * D + 0) (tv g))) 66 (upd ((hs h 66 (upd (h 66) (4 * D + 0) (tv g))) 66) (4 * D + 1) (-1))) 66) (4 * D + 2) (-1))) 66) (4 * D + 3) (-1))) 67) D (nI m))) 68) D (nI 0))) 69) D (nI (R.1 3)))) 70 (upd ((hs (hs (hs (hs (hs (hs (hs h 66 (upd (h 66) (4 * D + 0) (tv g))) 66 (upd ((hs h 66 (upd (h 66) (4 * D + 0) (tv g))) 66) (4 * D + 1) (-1))) 66 (upd ((hs (hs h 66 (upd (h 66) (4 * D + 0) (tv g))) 66 (upd ((hs h 66 (upd (h 66) (4 * D + 0) (tv g))) 66) (4 * D + 1) (-1))) 66) (4 * D + 2) (-1))) 66 (upd ((hs (hs (hs h 66 (upd (h 66) (4 * D + 0) (tv g))) 66 (upd ((hs h 66 (upd (h 66) (4 * D + 0) (tv g))) 66) (4 * D + 1) (-1))) 66 (upd ((hs (hs h 66 (upd (h 66) (4 * D + 0) (tv g))) 66 (upd ((hs h 66 (upd (h 66) (4 * D + 0) (tv g))) 66) (4 * D + 1) (-1))) 66) (4 * D + 2) (-1))) 66) (4 * D + 3) (-1))) 67 (upd ((hs (hs (hs (hs h 66 (upd (h 66) (4 * D + 0) (tv g))) 66 (upd ((hs h 66 (upd (h 66) (4 * D + 0) (tv g))) 66) (4 * D + 1) (-1))) 66 (upd ((hs (hs h 66 (upd (h 66) (4 * D + 0) (tv g))) 66 (upd ((hs h 66 (upd (h 66) (4 * D + 0) (tv g))) 66) (4 * D + 1) (-1))) 66) (4 * D + 2) (-1))) 66 (upd ((hs (hs (hs h 66 (upd (h 66) (4 * D + 0) (tv g))) 66 (upd ((hs h 66 (upd (h 66) (4 * D + 0) (tv g))) 66) (4 * D + 1) (-1))) 66 (upd ((hs (hs h 66 (upd (h 66) (4 * D + 0) (tv g))) 66 (upd ((hs h 66 (upd (h 66) (4 * D + 0) (tv g))) 66) (4 * D + 1) (-1))) 66) (4 * D + 2) (-1))) 66) (4 * D + 3) (-1))) 67) D (nI m))) 68 (upd ((hs (hs (hs (hs (hs h 66 (upd (h 66) (4 * D + 0) (tv g))) 66 (upd ((hs h 66 (upd (h 66) (4 * D + 0) (tv g))) 66) (4 * D + 1) (-1))) 66 (upd ((hs (hs h 66 (upd (h 66) (4 * D + 0) (tv g))) 66 (upd ((hs h 66 (upd (h 66) (4 * D + 0) (tv g))) 66) (4 * D + 1) (-1))) 66) (4 * D + 2) (-1))) 66 (upd ((hs (hs (hs h 66 (upd (h 66) (4 * D + 0) (tv g))) 66 (upd ((hs h 66 (upd (h 66) (4 * D + 0) (tv g))) 66) (4 * D + 1) (-1))) 66 (upd ((hs (hs h 66 (upd (h 66) (4 * D + 0) (tv g))) 66 (upd ((hs h 66 (upd (h 66) (4 * D + 0) (tv g))) 66) (4 * D + 1) (-1))) 66) (4 * D + 2) (-1))) 66) (4 * D + 3) (-1))) 67 (upd ((hs (hs (hs (hs h 66 (upd (h 66) (4 * D + 0) (tv g))) 66 (upd ((hs h 66 (upd (h 66) (4 * D + 0) (tv g))) 66) (4 * D + 1) (-1))) 66 (upd ((hs (hs h 66 (upd (h 66) (4 * D + 0) (tv g))) 66 (upd ((hs h 66 (upd (h 66) (4 * D + 0) (tv g))) 66) (4 * D + 1) (-1))) 66) (4 * D + 2) (-1))) 66 (upd ((hs (hs (hs h 66 (upd (h 66) (4 * D + 0) (tv g))) 66 (upd ((hs h 66 (upd (h 66) (4 * D + 0) (tv g))) 66) (4 * D + 1) (-1))) 66 (upd ((hs (hs h 66 (upd (h 66) (4 * D + 0) (tv g))) 66 (upd ((hs h 66 (upd (h 66) (4 * D + 0) (tv g))) 66) (4 * D + 1) (-1))) 66) (4 * D + 2) (-1))) 66) (4 * D + 3) (-1))) 67) D (nI m))) 68) D (nI 0))) 69 (upd ((hs (hs (hs (hs (hs (hs h 66 (upd (h 66) (4 * D + 0) (tv g))) 66 (upd ((hs h 66 (upd (h 66) (4 * D + 0) (tv g))) 66) (4 * D + 1) (-1))) 66 (upd ((hs (hs h 66 (upd (h 66) (4 * D + 0) (tv g))) 66 (upd ((hs h 66 (upd (h 66) (4 * D + 0) (tv g))) 66) (4 * D + 1) (-1))) 66) (4 * D + 2) (-1))) 66 (upd ((hs (hs (hs h 66 (upd (h 66) (4 * D + 0) (tv g))) 66 (upd ((hs h 66 (upd (h 66) (4 * D + 0) (tv g))) 66) (4 * D + 1) (-1))) 66 (upd ((hs (hs h 66 (upd (h 66) (4 * D + 0) (tv g))) 66 (upd ((hs h 66 (upd (h 66) (4 * D + 0) (tv g))) 66) (4 * D + 1) (-1))) 66) (4 * D + 2) (-1))) 66) (4 * D + 3) (-1))) 67 (upd ((hs (hs (hs (hs h 66 (upd (h 66) (4 * D + 0) (tv g))) 66 (upd ((hs h 66 (upd (h 66) (4 * D + 0) (tv g))) 66) (4 * D + 1) (-1))) 66 (upd ((hs (hs h 66 (upd (h 66) (4 * D + 0) (tv g))) 66 (upd ((hs h 66 (upd (h 66) (4 * D + 0) (tv g))) 66) (4 * D + 1) (-1))) 66) (4 * D + 2) (-1))) 66 (upd ((hs (hs (hs h 66 (upd (h 66) (4 * D + 0) (tv g))) 66 (upd ((hs h 66 (upd (h 66) (4 * D + 0) (tv g))) 66) (4 * D + 1) (-1))) 66 (upd ((hs (hs h 66 (upd (h 66) (4 * D + 0) (tv g))) 66 (upd ((hs h 66 (upd (h 66) (4 * D + 0) (tv g))) 66) (4 * D + 1) (-1))) 66) (4 * D + 2) (-1))) 66) (4 * D + 3) (-1))) 67) D (nI m))) 68 (upd ((hs (hs (hs (hs (hs h 66 (upd (h 66) (4 * D + 0) (tv g))) 66 (upd ((hs h 66 (upd (h 66) (4 * D + 0) (tv g))) 66) (4 * D + 1) (-1))) 66 (upd ((hs (hs h 66 (upd (h 66) (4 * D + 0) (tv g))) 66 (upd ((hs h 66 (upd (h 66) (4 * D + 0) (tv g))) 66) (4 * D + 1) (-1))) 66) (4 * D + 2) (-1))) 66 (upd ((hs (hs (hs h 66 (upd (h 66) (4 * D + 0) (tv g))) 66 (upd ((hs h 66 (upd (h 66) (4 * D + 0) (tv g))) 66) (4 * D + 1) (-1))) 66 (upd ((hs (hs h 66 (upd (h 66) (4 * D + 0) (tv g))) 66 (upd ((hs h 66 (upd (h 66) (4 * D + 0) (tv g))) 66) (4 * D + 1) (-1))) 66) (4 * D + 2) (-1))) 66) (4 * D + 3) (-1))) 67 (upd ((hs (hs (hs (hs h 66 (upd (h 66) (4 * D + 0) (tv g))) 66 (upd ((hs h 66 (upd (h 66) (4 * D + 0) (tv g))) 66) (4 * D + 1) (-1))) 66 (upd ((hs (hs h 66 (upd (h 66) (4 * D + 0) (tv g))) 66 (upd ((hs h 66 (upd (h 66) (4 * D + 0) (tv g))) 66) (4 * D + 1) (-1))) 66) (4 * D + 2) (-1))) 66 (upd ((hs (hs (hs h 66 (upd (h 66) (4 * D + 0) (tv g))) 66 (upd ((hs h 66 (upd (h 66) (4 * D + 0) (tv g))) 66) (4 * D + 1) (-1))) 66 (upd ((hs (hs h 66 (upd (h 66) (4 * D + 0) (tv g))) 66 (upd ((hs h 66 (upd (h 66) (4 * D + 0) (tv g))) 66) (4 * D + 1) (-1))) 66) (4 * D + 2) (-1))) 66) (4 * D + 3) (-1))) 67) D (nI m))) 68) D (nI 0))) 69) D (nI (R.1 3)))) 70) D (tv g))) 71) D (nI (R.1 0)))) 50 (upd ((hs (hs (hs (hs (hs (hs (hs (hs (hs h 66 (upd (h 66) (4 * D + 0) (tv g))) 66 (upd ((hs h 66 (upd (h 66) (4 * D + 0) (tv g))) 66) (4 * D + 1) (-1))) 66 (upd ((hs (hs h 66 (upd (h 66) (4 * D + 0) (tv g))) 66 (upd ((hs h 66 (upd (h 66) (4 * D + 0) (tv g))) 66) (4 * D + 1) (-1))) 66) (4 * D + 2) (-1))) 66 (upd ((hs (hs (hs h 66 (upd (h 66) (4 * D + 0) (tv g))) 66 (upd ((hs h 66 (upd (h 66) (4 * D + 0) (tv g))) 66) (4 * D + 1) (-1))) 66 (upd ((hs (hs h 66 (upd (h 66) (4 * D + 0) (tv g))) 66 (upd ((hs h 66 (upd (h 66) (4 * D + 0) (tv g))) 66) (4 * D + 1) (-1))) 66) (4 * D + 2) (-1))) 66) (4 * D + 3) (-1))) 67 (upd ((hs (hs (hs (hs h 66 (upd (h 66) (4 * D + 0) (tv g))) 66 (upd ((hs h 66 (upd (h 66) (4 * D + 0) (tv g))) 66) (4 * D + 1) (-1))) 66 (upd ((hs (hs h 66 (upd (h 66) (4 * D + 0) (tv g))) 66 (upd ((hs h 66 (upd (h 66) (4 * D + 0) (tv g))) 66) (4 * D + 1) (-1))) 66) (4 * D + 2) (-1))) 66 (upd ((hs (hs (hs h 66 (upd (h 66) (4 * D + 0) (tv g))) 66 (upd ((hs h 66 (upd (h 66) (4 * D + 0) (tv g))) 66) (4 * D + 1) (-1))) 66 (upd ((hs (hs h 66 (upd (h 66) (4 * D + 0) (tv g))) 66 (upd ((hs h 66 (upd (h 66) (4 * D + 0) (tv g))) 66) (4 * D + 1) (-1))) 66) (4 * D + 2) (-1))) 66) (4 * D + 3) (-1))) 67) D (nI m))) 68 (upd ((hs (hs (hs (hs (hs h 66 (upd (h 66) (4 * D + 0) (tv g))) 66 (upd ((hs h 66 (upd (h 66) (4 * D + 0) (tv g))) 66) (4 * D + 1) (-1))) 66 (upd ((hs (hs h 66 (upd (h 66) (4 * D + 0) (tv g))) 66 (upd ((hs h 66 (upd (h 66) (4 * D + 0) (tv g))) 66) (4 * D + 1) (-1))) 66) (4 * D + 2) (-1))) 66 (upd ((hs (hs (hs h 66 (upd (h 66) (4 * D + 0) (tv g))) 66 (upd ((hs h 66 (upd (h 66) (4 * D + 0) (tv g))) 66) (4 * D + 1) (-1))) 66 (upd ((hs (hs h 66 (upd (h 66) (4 * D + 0) (tv g))) 66 (upd ((hs h 66 (upd (h 66) (4 * D + 0) (tv g))) 66) (4 * D + 1) (-1))) 66) (4 * D + 2) (-1))) 66) (4 * D + 3) (-1))) 67 (upd ((hs (hs (hs (hs h 66 (upd (h 66) (4 * D + 0) (tv g))) 66 (upd ((hs h 66 (upd (h 66) (4 * D + 0) (tv g))) 66) (4 * D + 1) (-1))) 66 (upd ((hs (hs h 66 (upd (h 66) (4 * D + 0) (tv g))) 66 (upd ((hs h 66 (upd (h 66) (4 * D + 0) (tv g))) 66) (4 * D + 1) (-1))) 66) (4 * D + 2) (-1))) 66 (upd ((hs (hs (hs h 66 (upd (h 66) (4 * D + 0) (tv g))) 66 (upd ((hs h 66 (upd (h 66) (4 * D + 0) (tv g))) 66) (4 * D + 1) (-1))) 66 (upd ((hs (hs h 66 (upd (h 66) (4 * D + 0) (tv g))) 66 (upd ((hs h 66 (upd (h 66) (4 * D + 0) (tv g))) 66) (4 * D + 1) (-1))) 66) (4 * D + 2) (-1))) 66) (4 * D + 3) (-1))) 67) D (nI m))) 68) D (nI 0))) 69 (upd ((hs (hs (hs (hs (hs (hs h 66 (upd (h 66) (4 * D + 0) (tv g))) 66 (upd ((hs h 66 (upd (h 66) (4 * D + 0) (tv g))) 66) (4 * D + 1) (-1))) 66 (upd ((hs (hs h 66 (upd (h 66) (4 * D + 0) (tv g))) 66 (upd ((hs h 66 (upd (h 66) (4 * D + 0) (tv g))) 66) (4 * D + 1) (-1))) 66) (4 * D + 2) (-1))) 66 (upd ((hs (hs (hs h 66 (upd (h 66) (4 * D + 0) (tv g))) 66 (upd ((hs h 66 (upd (h 66) (4 * D + 0) (tv g))) 66) (4 * D + 1) (-1))) 66 (upd ((hs (hs h 66 (upd (h 66) (4 * D + 0) (tv g))) 66 (upd ((hs h 66 (upd (h 66) (4 * D + 0) (tv g))) 66) (4 * D + 1) (-1))) 66) (4 * D + 2) (-1))) 66) (4 * D + 3) (-1))) 67 (upd ((hs (hs (hs (hs h 66 (upd (h 66) (4 * D + 0) (tv g))) 66 (upd ((hs h 66 (upd (h 66) (4 * D + 0) (tv g))) 66) (4 * D + 1) (-1))) 66 (upd ((hs (hs h 66 (upd (h 66) (4 * D + 0) (tv g))) 66 (upd ((hs h 66 (upd (h 66) (4 * D + 0) (tv g))) 66) (4 * D + 1) (-1))) 66) (4 * D + 2) (-1))) 66 (upd ((hs (hs (hs h 66 (upd (h 66) (4 * D + 0) (tv g))) 66 (upd ((hs h 66 (upd (h 66) (4 * D + 0) (tv g))) 66) (4 * D + 1) (-1))) 66 (upd ((hs (hs h 66 (upd (h 66) (4 * D + 0) (tv g))) 66 (upd ((hs h 66 (upd (h 66) (4 * D + 0) (tv g))) 66) (4 * D + 1) (-1))) 66) (4 * D + 2) (-1))) 66) (4 * D + 3) (-1))) 67) D (nI m))) 68 (upd ((hs (hs (hs (hs (hs h 66 (upd (h 66) (4 * D + 0) (tv g))) 66 (upd ((hs h 66 (upd (h 66) (4 * D + 0) (tv g))) 66) (4 * D + 1) (-1))) 66 (upd ((hs (hs h 66 (upd (h 66) (4 * D + 0) (tv g))) 66 (upd ((hs h 66 (upd (h 66) (4 * D + 0) (tv g))) 66) (4 * D + 1) (-1))) 66) (4 * D + 2) (-1))) 66 (upd ((hs (hs (hs h 66 (upd (h 66) (4 * D + 0) (tv g))) 66 (upd ((hs h 66 (upd (h 66) (4 * D + 0) (tv g))) 66) (4 * D + 1) (-1))) 66 (upd ((hs (hs h 66 (upd (h 66) (4 * D + 0) (tv g))) 66 (upd ((hs h 66 (upd (h 66) (4 * D + 0) (tv g))) 66) (4 * D + 1) (-1))) 66) (4 * D + 2) (-1))) 66) (4 * D + 3) (-1))) 67 (upd ((hs (hs (hs (hs h 66 (upd (h 66) (4 * D + 0) (tv g))) 66 (upd ((hs h 66 (upd (h 66) (4 * D + 0) (tv g))) 66) (4 * D + 1) (-1))) 66 (upd ((hs (hs h 66 (upd (h 66) (4 * D + 0) (tv g))) 66 (upd ((hs h 66 (upd (h 66) (4 * D + 0) (tv g))) 66) (4 * D + 1) (-1))) 66) (4 * D + 2) (-1))) 66 (upd ((hs (hs (hs h 66 (upd (h 66) (4 * D + 0) (tv g))) 66 (upd ((hs h 66 (upd (h 66) (4 * D + 0) (tv g))) 66) (4 * D + 1) (-1))) 66 (upd ((hs (hs h 66 (upd (h 66) (4 * D + 0) (tv g))) 66 (upd ((hs h 66 (upd (h 66) (4 * D + 0) (tv g))) 66) (4 * D + 1) (-1))) 66) (4 * D + 2) (-1))) 66) (4 * D + 3) (-1))) 67) D (nI m))) 68) D (nI 0))) 69) D (nI (R.1 3)))) 70 (upd ((hs (hs (hs (hs (hs (hs (hs h 66 (upd (h 66) (4 * D + 0) (tv g))) 66 (upd ((hs h 66 (upd (h 66) (4 * D + 0) (tv g))) 66) (4 * D + 1) (-1))) 66 (upd ((hs (hs h 66 (upd (h 66) (4 * D + 0) (tv g))) 66 (upd ((hs h 66 (upd (h 66) (4 * D + 0) (tv g))) 66) (4 * D + 1) (-1))) 66) (4 * D + 2) (-1))) 66 (upd ((hs (hs (hs h 66 (upd (h 66) (4 * D + 0) (tv g))) 66 (upd ((hs h 66 (upd (h 66) (4 * D + 0) (tv g))) 66) (4 * D + 1) (-1))) 66 (upd ((hs (hs h 66 (upd (h 66) (4 * D + 0) (tv g))) 66 (upd ((hs h 66 (upd (h 66) (4 * D + 0) (tv g))) 66) (4 * D + 1) (-1))) 66) (4 * D + 2) (-1))) 66) (4 * D + 3) (-1))) 67 (upd ((hs (hs (hs (hs h 66 (upd (h 66) (4 * D + 0) (tv g))) 66 (upd ((hs h 66 (upd (h 66) (4 * D + 0) (tv g))) 66) (4 * D + 1) (-1))) 66 (upd ((hs (hs h 66 (upd (h 66) (4 * D + 0) (tv g))) 66 (upd ((hs h 66 (upd (h 66) (4 * D + 0) (tv g))) 66) (4 * D + 1) (-1))) 66) (4 * D + 2) (-1))) 66 (upd ((hs (hs (hs h 66 (upd (h 66) (4 * D + 0) (tv g))) 66 (upd ((hs h 66 (upd (h 66) (4 * D + 0) (tv g))) 66) (4 * D + 1) (-1))) 66 (upd ((hs (hs h 66 (upd (h 66) (4 * D + 0) (tv g))) 66 (upd ((hs h 66 (upd (h 66) (4 * D + 0) (tv g))) 66) (4 * D + 1) (-1))) 66) (4 * D + 2) (-1))) 66) (4 * D + 3) (-1))) 67) D (nI m))) 68 (upd ((hs (hs (hs (hs (hs h 66 (upd (h 66) (4 * D + 0) (tv g))) 66 (upd ((hs h 66 (upd (h 66) (4 * D + 0) (tv g))) 66) (4 * D + 1) (-1))) 66 (upd ((hs (hs h 66 (upd (h 66) (4 * D + 0) (tv g))) 66 (upd ((hs h 66 (upd (h 66) (4 * D + 0) (tv g))) 66) (4 * D + 1) (-1))) 66) (4 * D + 2) (-1))) 66 (upd ((hs (hs (hs h 66 (upd (h 66) (4 * D + 0) (tv g))) 66 (upd ((hs h 66 (upd (h 66) (4 * D + 0) (tv g))) 66) (4 * D + 1) (-1))) 66 (upd ((hs (hs h 66 (upd (h 66) (4 * D + 0) (tv g))) 66 (upd ((hs h 66 (upd (h 66) (4 * D + 0) (tv g))) 66) (4 * D + 1) (-1))) 66) (4 * D + 2) (-1))) 66) (4 * D + 3) (-1))) 67 (upd ((hs (hs (hs (hs h 66 (upd (h 66) (4 * D + 0) (tv g))) 66 (upd ((hs h 66 (upd (h 66) (4 * D + 0) (tv g))) 66) (4 * D + 1) (-1))) 66 (upd ((hs (hs h 66 (upd (h 66) (4 * D + 0) (tv g))) 66 (upd ((hs h 66 (upd (h 66) (4 * D + 0) (tv g))) 66) (4 * D + 1) (-1))) 66) (4 * D + 2) (-1))) 66 (upd ((hs (hs (hs h 66 (upd (h 66) (4 * D + 0) (tv g))) 66 (upd ((hs h 66 (upd (h 66) (4 * D + 0) (tv g))) 66) (4 * D + 1) (-1))) 66 (upd ((hs (hs h 66 (upd (h 66) (4 * D + 0) (tv g))) 66 (upd ((hs h 66 (upd (h 66) (4 * D + 0) (tv g))) 66) (4 * D + 1) (-1))) 66) (4 * D + 2) (-1))) 66) (4 * D + 3) (-1))) 67) D (nI m))) 68) D (nI 0))) 69 (upd ((hs (hs (hs (hs (hs (hs h 66 (upd (h 66) (4 * D + 0) (tv g))) 66 (upd ((hs h 66 (upd (h 66) (4 * D + 0) (tv g))) 66) (4 * D + 1) (-1))) 66 (upd ((hs (hs h 66 (upd (h 66) (4 * D + 0) (tv g))) 66 (upd ((hs h 66 (upd (h 66) (4 * D + 0) (tv g))) 66) (4 * D + 1) (-1))) 66) (4 * D + 2) (-1))) 66 (upd ((hs (hs (hs h 66 (upd (h 66) (4 * D + 0) (tv g))) 66 (upd ((hs h 66 (upd (h 66) (4 * D + 0) (tv g))) 66) (4 * D + 1) (-1))) 66 (upd ((hs (hs h 66 (upd (h 66) (4 * D + 0) (tv g))) 66 (upd ((hs h 66 (upd (h 66) (4 * D + 0) (tv g))) 66) (4 * D + 1) (-1))) 66) (4 * D + 2) (-1))) 66) (4 * D + 3) (-1))) 67 (upd ((hs (hs (hs (hs h 66 (upd (h 66) (4 * D + 0) (tv g))) 66 (upd ((hs h 66 (upd (h 66) (4 * D + 0) (tv g))) 66) (4 * D + 1) (-1))) 66 (upd ((hs (hs h 66 (upd (h 66) (4 * D + 0) (tv g))) 66 (upd ((hs h 66 (upd (h 66) (4 * D + 0) (tv g))) 66) (4 * D + 1) (-1))) 66) (4 * D + 2) (-1))) 66 (upd ((hs (hs (hs h 66 (upd (h 66) (4 * D + 0) (tv g))) 66 (upd ((hs h 66 (upd (h 66) (4 * D + 0) (tv g))) 66) (4 * D + 1) (-1))) 66 (upd ((hs (hs h 66 (upd (h 66) (4 * D + 0) (tv g))) 66 (upd ((hs h 66 (upd (h 66) (4 * D + 0) (tv g))) 66) (4 * D + 1) (-1))) 66) (4 * D + 2) (-1))) 66) (4 * D + 3) (-1))) 67) D (nI m))) 68 (upd ((hs (hs (hs (hs (hs h 66 (upd (h 66) (4 * D + 0) (tv g))) 66 (upd ((hs h 66 (upd (h 66) (4 * D + 0) (tv g))) 66) (4 * D + 1) (-1))) 66 (upd ((hs (hs h 66 (upd (h 66) (4 * D + 0) (tv g))) 66 (upd ((hs h 66 (upd (h 66) (4 * D + 0) (tv g))) 66) (4 * D + 1) (-1))) 66) (4 * D + 2) (-1))) 66 (upd ((hs (hs (hs h 66 (upd (h 66) (4 * D + 0) (tv g))) 66 (upd ((hs h 66 (upd (h 66) (4 * D + 0) (tv g))) 66) (4 * D + 1) (-1))) 66 (upd ((hs (hs h 66 (upd (h 66) (4 * D + 0) (tv g))) 66 (upd ((hs h 66 (upd (h 66) (4 * D + 0) (tv g))) 66) (4 * D + 1) (-1))) 66) (4 * D + 2) (-1))) 66) (4 * D + 3) (-1))) 67 (upd ((hs (hs (hs (hs h 66 (upd (h 66) (4 * D + 0) (tv g))) 66 (upd ((hs h 66 (upd (h 66) (4 * D + 0) (tv g))) 66) (4 * D + 1) (-1))) 66 (upd ((hs (hs h 66 (upd (h 66) (4 * D + 0) (tv g))) 66 (upd ((hs h 66 (upd (h 66) (4 * D + 0) (tv g))) 66) (4 * D + 1) (-1))) 66) (4 * D + 2) (-1))) 66 (upd ((hs (hs (hs h 66 (upd (h 66) (4 * D + 0) (tv g))) 66 (upd ((hs h 66 (upd (h 66) (4 * D + 0) (tv g))) 66) (4 * D + 1) (-1))) 66 (upd ((hs (hs h 66 (upd (h 66) (4 * D + 0) (tv g))) 66 (upd ((hs h 66 (upd (h 66) (4 * D + 0) (tv g))) 66) (4 * D + 1) (-1))) 66) (4 * D + 2) (-1))) 66) (4 * D + 3) (-1))) 67) D (nI m))) 68) D (nI 0))) 69) D (nI (R.1 3)))) 70) D (tv g))) 71 (upd ((hs (hs (hs (hs (hs (hs (hs (hs h 66 (upd (h 66) (4 * D + 0) (tv g))) 66 (upd ((hs h 66 (upd (h 66) (4 * D + 0) (tv g))) 66) (4 * D + 1) (-1))) 66 (upd ((hs (hs h 66 (upd (h 66) (4 * D + 0) (tv g))) 66 (upd ((hs h 66 (upd (h 66) (4 * D + 0) (tv g))) 66) (4 * D + 1) (-1))) 66) (4 * D + 2) (-1))) 66 (upd ((hs (hs (hs h 66 (upd (h 66) (4 * D + 0) (tv g))) 66 (upd ((hs h 66 (upd (h 66) (4 * D + 0) (tv g))) 66) (4 * D + 1) (-1))) 66 (upd ((hs (hs h 66 (upd (h 66) (4 * D + 0) (tv g))) 66 (upd ((hs h 66 (upd (h 66) (4 * D + 0) (tv g))) 66) (4 * D + 1) (-1))) 66) (4 * D + 2) (-1))) 66) (4 * D + 3) (-1))) 67 (upd ((hs (hs (hs (hs h 66 (upd (h 66) (4 * D + 0) (tv g))) 66 (upd ((hs h 66 (upd (h 66) (4 * D + 0) (tv g))) 66) (4 * D + 1) (-1))) 66 (upd ((hs (hs h 66 (upd (h 66) (4 * D + 0) (tv g))) 66 (upd ((hs h 66 (upd (h 66) (4 * D + 0) (tv g))) 66) (4 * D + 1) (-1))) 66) (4 * D + 2) (-1))) 66 (upd ((hs (hs (hs h 66 (upd (h 66) (4 * D + 0) (tv g))) 66 (upd ((hs h 66 (upd (h 66) (4 * D + 0) (tv g))) 66) (4 * D + 1) (-1))) 66 (upd ((hs (hs h 66 (upd (h 66) (4 * D + 0) (tv g))) 66 (upd ((hs h 66 (upd (h 66) (4 * D + 0) (tv g))) 66) (4 * D + 1) (-1))) 66) (4 * D + 2) (-1))) 66) (4 * D + 3) (-1))) 67) D (nI m))) 68 (upd ((hs (hs (hs (hs (hs h 66 (upd (h 66) (4 * D + 0) (tv g))) 66 (upd ((hs h 66 (upd (h 66) (4 * D + 0) (tv g))) 66) (4 * D + 1) (-1))) 66 (upd ((hs (hs h 66 (upd (h 66) (4 * D + 0) (tv g))) 66 (upd ((hs h 66 (upd (h 66) (4 * D + 0) (tv g))) 66) (4 * D + 1) (-1))) 66) (4 * D + 2) (-1))) 66 (upd ((hs (hs (hs h 66 (upd (h 66) (4 * D + 0) (tv g))) 66 (upd ((hs h 66 (upd (h 66) (4 * D + 0) (tv g))) 66) (4 * D + 1) (-1))) 66 (upd ((hs (hs h 66 (upd (h 66) (4 * D + 0) (tv g))) 66 (upd ((hs h 66 (upd (h 66) (4 * D + 0) (tv g))) 66) (4 * D + 1) (-1))) 66) (4 * D + 2) (-1))) 66) (4 * D + 3) (-1))) 67 (upd ((hs (hs (hs (hs h 66 (upd (h 66) (4 * D + 0) (tv g))) 66 (upd ((hs h 66 (upd (h 66) (4 * D + 0) (tv g))) 66) (4 * D + 1) (-1))) 66 (upd ((hs (hs h 66 (upd (h 66) (4 * D + 0) (tv g))) 66 (upd ((hs h 66 (upd (h 66) (4 * D + 0) (tv g))) 66) (4 * D + 1) (-1))) 66) (4 * D + 2) (-1))) 66 (upd ((hs (hs (hs h 66 (upd (h 66) (4 * D + 0) (tv g))) 66 (upd ((hs h 66 (upd (h 66) (4 * D + 0) (tv g))) 66) (4 * D + 1) (-1))) 66 (upd ((hs (hs h 66 (upd (h 66) (4 * D + 0) (tv g))) 66 (upd ((hs h 66 (upd (h 66) (4 * D + 0) (tv g))) 66) (4 * D + 1) (-1))) 66) (4 * D + 2) (-1))) 66) (4 * D + 3) (-1))) 67) D (nI m))) 68) D (nI 0))) 69 (upd ((hs (hs (hs (hs (hs (hs h 66 (upd (h 66) (4 * D + 0) (tv g))) 66 (upd ((hs h 66 (upd (h 66) (4 * D + 0) (tv g))) 66) (4 * D + 1) (-1))) 66 (upd ((hs (hs h 66 (upd (h 66) (4 * D + 0) (tv g))) 66 (upd ((hs h 66 (upd (h 66) (4 * D + 0) (tv g))) 66) (4 * D + 1) (-1))) 66) (4 * D + 2) (-1))) 66 (upd ((hs (hs (hs h 66 (upd (h 66) (4 * D + 0) (tv g))) 66 (upd ((hs h 66 (upd (h 66) (4 * D + 0) (tv g))) 66) (4 * D + 1) (-1))) 66 (upd ((hs (hs h 66 (upd (h 66) (4 * D + 0) (tv g))) 66 (upd ((hs h 66 (upd (h 66) (4 * D + 0) (tv g))) 66) (4 * D + 1) (-1))) 66) (4 * D + 2) (-1))) 66) (4 * D + 3) (-1))) 67 (upd ((hs (hs (hs (hs h 66 (upd (h 66) (4 * D + 0) (tv g))) 66 (upd ((hs h 66 (upd (h 66) (4 * D + 0) (tv g))) 66) (4 * D + 1) (-1))) 66 (upd ((hs (hs h 66 (upd (h 66) (4 * D + 0) (tv g))) 66 (upd ((hs h 66 (upd (h 66) (4 * D + 0) (tv g))) 66) (4 * D + 1) (-1))) 66) (4 * D + 2) (-1))) 66 (upd ((hs (hs (hs h 66 (upd (h 66) (4 * D + 0) (tv g))) 66 (upd ((hs h 66 (upd (h 66) (4 * D + 0) (tv g))) 66) (4 * D + 1) (-1))) 66 (upd ((hs (hs h 66 (upd (h 66) (4 * D + 0) (tv g))) 66 (upd ((hs h 66 (upd (h 66) (4 * D + 0) (tv g))) 66) (4 * D + 1) (-1))) 66) (4 * D + 2) (-1))) 66) (4 * D + 3) (-1))) 67) D (nI m))) 68 (upd ((hs (hs (hs (hs (hs h 66 (upd (h 66) (4 * D + 0) (tv g))) 66 (upd ((hs h 66 (upd (h 66) (4 * D + 0) (tv g))) 66) (4 * D + 1) (-1))) 66 (upd ((hs (hs h 66 (upd (h 66) (4 * D + 0) (tv g))) 66 (upd ((hs h 66 (upd (h 66) (4 * D + 0) (tv g))) 66) (4 * D + 1) (-1))) 66) (4 * D + 2) (-1))) 66 (upd ((hs (hs (hs h 66 (upd (h 66) (4 * D + 0) (tv g))) 66 (upd ((hs h 66 (upd (h 66) (4 * D + 0) (tv g))) 66) (4 * D + 1) (-1))) 66 (upd ((hs (hs h 66 (upd (h 66) (4 * D + 0) (tv g))) 66 (upd ((hs h 66 (upd (h 66) (4 * D + 0) (tv g))) 66) (4 * D + 1) (-1))) 66) (4 * D + 2) (-1))) 66) (4 * D + 3) (-1))) 67 (upd ((hs (hs (hs (hs h 66 (upd (h 66) (4 * D + 0) (tv g))) 66 (upd ((hs h 66 (upd (h 66) (4 * D + 0) (tv g))) 66) (4 * D + 1) (-1))) 66 (upd ((hs (hs h 66 (upd (h 66) (4 * D + 0) (tv g))) 66 (upd ((hs h 66 (upd (h 66) (4 * D + 0) (tv g))) 66) (4 * D + 1) (-1))) 66) (4 * D + 2) (-1))) 66 (upd ((hs (hs (hs h 66 (upd (h 66) (4 * D + 0) (tv g))) 66 (upd ((hs h 66 (upd (h 66) (4 * D + 0) (tv g))) 66) (4 * D + 1) (-1))) 66 (upd ((hs (hs h 66 (upd (h 66) (4 * D + 0) (tv g))) 66 (upd ((hs h 66 (upd (h 66) (4 * D + 0) (tv g))) 66) (4 * D + 1) (-1))) 66) (4 * D + 2) (-1))) 66) (4 * D + 3) (-1))) 67) D (nI m))) 68) D (nI 0))) 69) D (nI (R.1 3)))) 70 (upd ((hs (hs (hs (hs (hs (hs (hs h 66 (upd (h 66) (4 * D + 0) (tv g))) 66 (upd ((hs h 66 (upd (h 66) (4 * D + 0) (tv g))) 66) (4 * D + 1) (-1))) 66 (upd ((hs (hs h 66 (upd (h 66) (4 * D + 0) (tv g))) 66 (upd ((hs h 66 (upd (h 66) (4 * D + 0) (tv g))) 66) (4 * D + 1) (-1))) 66) (4 * D + 2) (-1))) 66 (upd ((hs (hs (hs h 66 (upd (h 66) (4 * D + 0) (tv g))) 66 (upd ((hs h 66 (upd (h 66) (4 * D + 0) (tv g))) 66) (4 * D + 1) (-1))) 66 (upd ((hs (hs h 66 (upd (h 66) (4 * D + 0) (tv g))) 66 (upd ((hs h 66 (upd (h 66) (4 * D + 0) (tv g))) 66) (4 * D + 1) (-1))) 66) (4 * D + 2) (-1))) 66) (4 * D + 3) (-1))) 67 (upd ((hs (hs (hs (hs h 66 (upd (h 66) (4 * D + 0) (tv g))) 66 (upd ((hs h 66 (upd (h 66) (4 * D + 0) (tv g))) 66) (4 * D + 1) (-1))) 66 (upd ((hs (hs h 66 (upd (h 66) (4 * D + 0) (tv g))) 66 (upd ((hs h 66 (upd (h 66) (4 * D + 0) (tv g))) 66) (4 * D + 1) (-1))) 66) (4 * D + 2) (-1))) 66 (upd ((hs (hs (hs h 66 (upd (h 66) (4 * D + 0) (tv g))) 66 (upd ((hs h 66 (upd (h 66) (4 * D + 0) (tv g))) 66) (4 * D + 1) (-1))) 66 (upd ((hs (hs h 66 (upd (h 66) (4 * D + 0) (tv g))) 66 (upd ((hs h 66 (upd (h 66) (4 * D + 0) (tv g))) 66) (4 * D + 1) (-1))) 66) (4 * D + 2) (-1))) 66) (4 * D + 3) (-1))) 67) D (nI m))) 68 (upd ((hs (hs (hs (hs (hs h 66 (upd (h 66) (4 * D + 0) (tv g))) 66 (upd ((hs h 66 (upd (h 66) (4 * D + 0) (tv g))) 66) (4 * D + 1) (-1))) 66 (upd ((hs (hs h 66 (upd (h 66) (4 * D + 0) (tv g))) 66 (upd ((hs h 66 (upd (h 66) (4 * D + 0) (tv g))) 66) (4 * D + 1) (-1))) 66) (4 * D + 2) (-1))) 66 (upd ((hs (hs (hs h 66 (upd (h 66) (4 * D + 0) (tv g))) 66 (upd ((hs h 66 (upd (h 66) (4 * D + 0) (tv g))) 66) (4 * D + 1) (-1))) 66 (upd ((hs (hs h 66 (upd (h 66) (4 * D + 0) (tv g))) 66 (upd ((hs h 66 (upd (h 66) (4 * D + 0) (tv g))) 66) (4 * D + 1) (-1))) 66) (4 * D + 2) (-1))) 66) (4 * D + 3) (-1))) 67 (upd ((hs (hs (hs (hs h 66 (upd (h 66) (4 * D + 0) (tv g))) 66 (upd ((hs h 66 (upd (h 66) (4 * D + 0) (tv g))) 66) (4 * D + 1) (-1))) 66 (upd ((hs (hs h 66 (upd (h 66) (4 * D + 0) (tv g))) 66 (upd ((hs h 66 (upd (h 66) (4 * D + 0) (tv g))) 66) (4 * D + 1) (-1))) 66) (4 * D + 2) (-1))) 66 (upd ((hs (hs (hs h 66 (upd (h 66) (4 * D + 0) (tv g))) 66 (upd ((hs h 66 (upd (h 66) (4 * D + 0) (tv g))) 66) (4 * D + 1) (-1))) 66 (upd ((hs (hs h 66 (upd (h 66) (4 * D + 0) (tv g))) 66 (upd ((hs h 66 (upd (h 66) (4 * D + 0) (tv g))) 66) (4 * D + 1) (-1))) 66) (4 * D + 2) (-1))) 66) (4 * D + 3) (-1))) 67) D (nI m))) 68) D (nI 0))) 69 (upd ((hs (hs (hs (hs (hs (hs h 66 (upd (h 66) (4 * D + 0) (tv g))) 66 (upd ((hs h 66 (upd (h 66) (4 * D + 0) (tv g))) 66) (4 * D + 1) (-1))) 66 (upd ((hs (hs h 66 (upd (h 66) (4 * D + 0) (tv g))) 66 (upd ((hs h 66 (upd (h 66) (4 * D + 0) (tv g))) 66) (4 * D + 1) (-1))) 66) (4 * D + 2) (-1))) 66 (upd ((hs (hs (hs h 66 (upd (h 66) (4 * D + 0) (tv g))) 66 (upd ((hs h 66 (upd (h 66) (4 * D + 0) (tv g))) 66) (4 * D + 1) (-1))) 66 (upd ((hs (hs h 66 (upd (h 66) (4 * D + 0) (tv g))) 66 (upd ((hs h 66 (upd (h 66) (4 * D + 0) (tv g))) 66) (4 * D + 1) (-1))) 66) (4 * D + 2) (-1))) 66) (4 * D + 3) (-1))) 67 (upd ((hs (hs (hs (hs h 66 (upd (h 66) (4 * D + 0) (tv g))) 66 (upd ((hs h 66 (upd (h 66) (4 * D + 0) (tv g))) 66) (4 * D + 1) (-1))) 66 (upd ((hs (hs h 66 (upd (h 66) (4 * D + 0) (tv g))) 66 (upd ((hs h 66 (upd (h 66) (4 * D + 0) (tv g))) 66) (4 * D + 1) (-1))) 66) (4 * D + 2) (-1))) 66 (upd ((hs (hs (hs h 66 (upd (h 66) (4 * D + 0) (tv g))) 66 (upd ((hs h 66 (upd (h 66) (4 * D + 0) (tv g))) 66) (4 * D + 1) (-1))) 66 (upd ((hs (hs h 66 (upd (h 66) (4 * D + 0) (tv g))) 66 (upd ((hs h 66 (upd (h 66) (4 * D + 0) (tv g))) 66) (4 * D + 1) (-1))) 66) (4 * D + 2) (-1))) 66) (4 * D + 3) (-1))) 67) D (nI m))) 68 (upd ((hs (hs (hs (hs (hs h 66 (upd (h 66) (4 * D + 0) (tv g))) 66 (upd ((hs h 66 (upd (h 66) (4 * D + 0) (tv g))) 66) (4 * D + 1) (-1))) 66 (upd ((hs (hs h 66 (upd (h 66) (4 * D + 0) (tv g))) 66 (upd ((hs h 66 (upd (h 66) (4 * D + 0) (tv g))) 66) (4 * D + 1) (-1))) 66) (4 * D + 2) (-1))) 66 (upd ((hs (hs (hs h 66 (upd (h 66) (4 * D + 0) (tv g))) 66 (upd ((hs h 66 (upd (h 66) (4 * D + 0) (tv g))) 66) (4 * D + 1) (-1))) 66 (upd ((hs (hs h 66 (upd (h 66) (4 * D + 0) (tv g))) 66 (upd ((hs h 66 (upd (h 66) (4 * D + 0) (tv g))) 66) (4 * D + 1) (-1))) 66) (4 * D + 2) (-1))) 66) (4 * D + 3) (-1))) 67 (upd ((hs (hs (hs (hs h 66 (upd (h 66) (4 * D + 0) (tv g))) 66 (upd ((hs h 66 (upd (h 66) (4 * D + 0) (tv g))) 66) (4 * D + 1) (-1))) 66 (upd ((hs (hs h 66 (upd (h 66) (4 * D + 0) (tv g))) 66 (upd ((hs h 66 (upd (h 66) (4 * D + 0) (tv g))) 66) (4 * D + 1) (-1))) 66) (4 * D + 2) (-1))) 66 (upd ((hs (hs (hs h 66 (upd (h 66) (4 * D + 0) (tv g))) 66 (upd ((hs h 66 (upd (h 66) (4 * D + 0) (tv g))) 66) (4 * D + 1) (-1))) 66 (upd ((hs (hs h 66 (upd (h 66) (4 * D + 0) (tv g))) 66 (upd ((hs h 66 (upd (h 66) (4 * D + 0) (tv g))) 66) (4 * D + 1) (-1))) 66) (4 * D + 2) (-1))) 66) (4 * D + 3) (-1))) 67) D (nI m))) 68) D (nI 0))) 69) D (nI (R.1 3)))) 70) D (tv g))) 71) D (nI (R.1 0)))) 50) 39 (nI (R.1 3 + 1)))) 50 (upd ((hs (hs (hs (hs (hs (hs (hs (hs (hs (hs h 66 (upd (h 66) (4 * D + 0) (tv g))) 66 (upd ((hs h 66 (upd (h 66) (4 * D + 0) (tv g))) 66) (4 * D + 1) (-1))) 66 (upd ((hs (hs h 66 (upd (h 66) (4 * D + 0) (tv g))) 66 (upd ((hs h 66 (upd (h 66) (4 * D + 0) (tv g))) 66) (4 * D + 1) (-1))) 66) (4 * D + 2) (-1))) 66 (upd ((hs (hs (hs h 66 (upd (h 66) (4 * D + 0) (tv g))) 66 (upd ((hs h 66 (upd (h 66) (4 * D + 0) (tv g))) 66) (4 * D + 1) (-1))) 66 (upd ((hs (hs h 66 (upd (h 66) (4 * D + 0) (tv g))) 66 (upd ((hs h 66 (upd (h 66) (4 * D + 0) (tv g))) 66) (4 * D + 1) (-1))) 66) (4 * D + 2) (-1))) 66) (4 * D + 3) (-1))) 67 (upd ((hs (hs (hs (hs h 66 (upd (h 66) (4 * D + 0) (tv g))) 66 (upd ((hs h 66 (upd (h 66) (4 * D + 0) (tv g))) 66) (4 * D + 1) (-1))) 66 (upd ((hs (hs h 66 (upd (h 66) (4 * D + 0) (tv g))) 66 (upd ((hs h 66 (upd (h 66) (4 * D + 0) (tv g))) 66) (4 * D + 1) (-1))) 66) (4 * D + 2) (-1))) 66 (upd ((hs (hs (hs h 66 (upd (h 66) (4 * D + 0) (tv g))) 66 (upd ((hs h 66 (upd (h 66) (4 * D + 0) (tv g))) 66) (4 * D + 1) (-1))) 66 (upd ((hs (hs h 66 (upd (h 66) (4 * D + 0) (tv g))) 66 (upd ((hs h 66 (upd (h 66) (4 * D + 0) (tv g))) 66) (4 * D + 1) (-1))) 66) (4 * D + 2) (-1))) 66) (4 * D + 3) (-1))) 67) D (nI m))) 68 (upd ((hs (hs (hs (hs (hs h 66 (upd (h 66) (4 * D + 0) (tv g))) 66 (upd ((hs h 66 (upd (h 66) (4 * D + 0) (tv g))) 66) (4 * D + 1) (-1))) 66 (upd ((hs (hs h 66 (upd (h 66) (4 * D + 0) (tv g))) 66 (upd ((hs h 66 (upd (h 66) (4 * D + 0) (tv g))) 66) (4 * D + 1) (-1))) 66) (4 * D + 2) (-1))) 66 (upd ((hs (hs (hs h 66 (upd (h 66) (4 * D + 0) (tv g))) 66 (upd ((hs h 66 (upd (h 66) (4 * D + 0) (tv g))) 66) (4 * D + 1) (-1))) 66 (upd ((hs (hs h 66 (upd (h 66) (4 * D + 0) (tv g))) 66 (upd ((hs h 66 (upd (h 66) (4 * D + 0) (tv g))) 66) (4 * D + 1) (-1))) 66) (4 * D + 2) (-1))) 66) (4 * D + 3) (-1))) 67 (upd ((hs (hs (hs (hs h 66 (upd (h 66) (4 * D + 0) (tv g))) 66 (upd ((hs h 66 (upd (h 66) (4 * D + 0) (tv g))) 66) (4 * D + 1) (-1))) 66 (upd ((hs (hs h 66 (upd (h 66) (4 * D + 0) (tv g))) 66 (upd ((hs h 66 (upd (h 66) (4 * D + 0) (tv g))) 66) (4 * D + 1) (-1))) 66) (4 * D + 2) (-1))) 66 (upd ((hs (hs (hs h 66 (upd (h 66) (4 * D + 0) (tv g))) 66 (upd ((hs h 66 (upd (h 66) (4 * D + 0) (tv g))) 66) (4 * D + 1) (-1))) 66 (upd ((hs (hs h 66 (upd (h 66) (4 * D + 0) (tv g))) 66 (upd ((hs h 66 (upd (h 66) (4 * D + 0) (tv g))) 66) (4 * D + 1) (-1))) 66) (4 * D + 2) (-1))) 66) (4 * D + 3) (-1))) 67) D (nI m))) 68) D (nI 0))) 69 (upd ((hs (hs (hs (hs (hs (hs h 66 (upd (h 66) (4 * D + 0) (tv g))) 66 (upd ((hs h 66 (upd (h 66) (4 * D + 0) (tv g))) 66) (4 * D + 1) (-1))) 66 (upd ((hs (hs h 66 (upd (h 66) (4 * D + 0) (tv g))) 66 (upd ((hs h 66 (upd (h 66) (4 * D + 0) (tv g))) 66) (4 * D + 1) (-1))) 66) (4 * D + 2) (-1))) 66 (upd ((hs (hs (hs h 66 (upd (h 66) (4 * D + 0) (tv g))) 66 (upd ((hs h 66 (upd (h 66) (4 * D + 0) (tv g))) 66) (4 * D + 1) (-1))) 66 (upd ((hs (hs h 66 (upd (h 66) (4 * D + 0) (tv g))) 66 (upd ((hs h 66 (upd (h 66) (4 * D + 0) (tv g))) 66) (4 * D + 1) (-1))) 66) (4 * D + 2) (-1))) 66) (4 * D + 3) (-1))) 67 (upd ((hs (hs (hs (hs h 66 (upd (h 66) (4 * D + 0) (tv g))) 66 (upd ((hs h 66 (upd (h 66) (4 * D + 0) (tv g))) 66) (4 * D + 1) (-1))) 66 (upd ((hs (hs h 66 (upd (h 66) (4 * D + 0) (tv g))) 66 (upd ((hs h 66 (upd (h 66) (4 * D + 0) (tv g))) 66) (4 * D + 1) (-1))) 66) (4 * D + 2) (-1))) 66 (upd ((hs (hs (hs h 66 (upd (h 66) (4 * D + 0) (tv g))) 66 (upd ((hs h 66 (upd (h 66) (4 * D + 0) (tv g))) 66) (4 * D + 1) (-1))) 66 (upd ((hs (hs h 66 (upd (h 66) (4 * D + 0) (tv g))) 66 (upd ((hs h 66 (upd (h 66) (4 * D + 0) (tv g))) 66) (4 * D + 1) (-1))) 66) (4 * D + 2) (-1))) 66) (4 * D + 3) (-1))) 67) D (nI m))) 68 (upd ((hs (hs (hs (hs (hs h 66 (upd (h 66) (4 * D + 0) (tv g))) 66 (upd ((hs h 66 (upd (h 66) (4 * D + 0) (tv g))) 66) (4 * D + 1) (-1))) 66 (upd ((hs (hs h 66 (upd (h 66) (4 * D + 0) (tv g))) 66 (upd ((hs h 66 (upd (h 66) (4 * D + 0) (tv g))) 66) (4 * D + 1) (-1))) 66) (4 * D + 2) (-1))) 66 (upd ((hs (hs (hs h 66 (upd (h 66) (4 * D + 0) (tv g))) 66 (upd ((hs h 66 (upd (h 66) (4 * D + 0) (tv g))) 66) (4 * D + 1) (-1))) 66 (upd ((hs (hs h 66 (upd (h 66) (4 * D + 0) (tv g))) 66 (upd ((hs h 66 (upd (h 66) (4 * D + 0) (tv g))) 66) (4 * D + 1) (-1))) 66) (4 * D + 2) (-1))) 66) (4 * D + 3) (-1))) 67 (upd ((hs (hs (hs (hs h 66 (upd (h 66) (4 * D + 0) (tv g))) 66 (upd ((hs h 66 (upd (h 66) (4 * D + 0) (tv g))) 66) (4 * D + 1) (-1))) 66 (upd ((hs (hs h 66 (upd (h 66) (4 * D + 0) (tv g))) 66 (upd ((hs h 66 (upd (h 66) (4 * D + 0) (tv g))) 66) (4 * D + 1) (-1))) 66) (4 * D + 2) (-1))) 66 (upd ((hs (hs (hs h 66 (upd (h 66) (4 * D + 0) (tv g))) 66 (upd ((hs h 66 (upd (h 66) (4 * D + 0) (tv g))) 66) (4 * D + 1) (-1))) 66 (upd ((hs (hs h 66 (upd (h 66) (4 * D + 0) (tv g))) 66 (upd ((hs h 66 (upd (h 66) (4 * D + 0) (tv g))) 66) (4 * D + 1) (-1))) 66) (4 * D + 2) (-1))) 66) (4 * D + 3) (-1))) 67) D (nI m))) 68) D (nI 0))) 69) D (nI (R.1 3)))) 70 (upd ((hs (hs (hs (hs (hs (hs (hs h 66 (upd (h 66) (4 * D + 0) (tv g))) 66 (upd ((hs h 66 (upd (h 66) (4 * D + 0) (tv g))) 66) (4 * D + 1) (-1))) 66 (upd ((hs (hs h 66 (upd (h 66) (4 * D + 0) (tv g))) 66 (upd ((hs h 66 (upd (h 66) (4 * D + 0) (tv g))) 66) (4 * D + 1) (-1))) 66) (4 * D + 2) (-1))) 66 (upd ((hs (hs (hs h 66 (upd (h 66) (4 * D + 0) (tv g))) 66 (upd ((hs h 66 (upd (h 66) (4 * D + 0) (tv g))) 66) (4 * D + 1) (-1))) 66 (upd ((hs (hs h 66 (upd (h 66) (4 * D + 0) (tv g))) 66 (upd ((hs h 66 (upd (h 66) (4 * D + 0) (tv g))) 66) (4 * D + 1) (-1))) 66) (4 * D + 2) (-1))) 66) (4 * D + 3) (-1))) 67 (upd ((hs (hs (hs (hs h 66 (upd (h 66) (4 * D + 0) (tv g))) 66 (upd ((hs h 66 (upd (h 66) (4 * D + 0) (tv g))) 66) (4 * D + 1) (-1))) 66 (upd ((hs (hs h 66 (upd (h 66) (4 * D + 0) (tv g))) 66 (upd ((hs h 66 (upd (h 66) (4 * D + 0) (tv g))) 66) (4 * D + 1) (-1))) 66) (4 * D + 2) (-1))) 66 (upd ((hs (hs (hs h 66 (upd (h 66) (4 * D + 0) (tv g))) 66 (upd ((hs h 66 (upd (h 66) (4 * D + 0) (tv g))) 66) (4 * D + 1) (-1))) 66 (upd ((hs (hs h 66 (upd (h 66) (4 * D + 0) (tv g))) 66 (upd ((hs h 66 (upd (h 66) (4 * D + 0) (tv g))) 66) (4 * D + 1) (-1))) 66) (4 * D + 2) (-1))) 66) (4 * D + 3) (-1))) 67) D (nI m))) 68 (upd ((hs (hs (hs (hs (hs h 66 (upd (h 66) (4 * D + 0) (tv g))) 66 (upd ((hs h 66 (upd (h 66) (4 * D + 0) (tv g))) 66) (4 * D + 1) (-1))) 66 (upd ((hs (hs h 66 (upd (h 66) (4 * D + 0) (tv g))) 66 (upd ((hs h 66 (upd (h 66) (4 * D + 0) (tv g))) 66) (4 * D + 1) (-1))) 66) (4 * D + 2) (-1))) 66 (upd ((hs (hs (hs h 66 (upd (h 66) (4 * D + 0) (tv g))) 66 (upd ((hs h 66 (upd (h 66) (4 * D + 0) (tv g))) 66) (4 * D + 1) (-1))) 66 (upd ((hs (hs h 66 (upd (h 66) (4 * D + 0) (tv g))) 66 (upd ((hs h 66 (upd (h 66) (4 * D + 0) (tv g))) 66) (4 * D + 1) (-1))) 66) (4 * D + 2) (-1))) 66) (4 * D + 3) (-1))) 67 (upd ((hs (hs (hs (hs h 66 (upd (h 66) (4 * D + 0) (tv g))) 66 (upd ((hs h 66 (upd (h 66) (4 * D + 0) (tv g))) 66) (4 * D + 1) (-1))) 66 (upd ((hs (hs h 66 (upd (h 66) (4 * D + 0) (tv g))) 66 (upd ((hs h 66 (upd (h 66) (4 * D + 0) (tv g))) 66) (4 * D + 1) (-1))) 66) (4 * D + 2) (-1))) 66 (upd ((hs (hs (hs h 66 (upd (h 66) (4 * D + 0) (tv g))) 66 (upd ((hs h 66 (upd (h 66) (4 * D + 0) (tv g))) 66) (4 * D + 1) (-1))) 66 (upd ((hs (hs h 66 (upd (h 66) (4 * D + 0) (tv g))) 66 (upd ((hs h 66 (upd (h 66) (4 * D + 0) (tv g))) 66) (4 * D + 1) (-1))) 66) (4 * D + 2) (-1))) 66) (4 * D + 3) (-1))) 67) D (nI m))) 68) D (nI 0))) 69 (upd ((hs (hs (hs (hs (hs (hs h 66 (upd (h 66) (4 * D + 0) (tv g))) 66 (upd ((hs h 66 (upd (h 66) (4 * D + 0) (tv g))) 66) (4 * D + 1) (-1))) 66 (upd ((hs (hs h 66 (upd (h 66) (4 * D + 0) (tv g))) 66 (upd ((hs h 66 (upd (h 66) (4 * D + 0) (tv g))) 66) (4 * D + 1) (-1))) 66) (4 * D + 2) (-1))) 66 (upd ((hs (hs (hs h 66 (upd (h 66) (4 * D + 0) (tv g))) 66 (upd ((hs h 66 (upd (h 66) (4 * D + 0) (tv g))) 66) (4 * D + 1) (-1))) 66 (upd ((hs (hs h 66 (upd (h 66) (4 * D + 0) (tv g))) 66 (upd ((hs h 66 (upd (h 66) (4 * D + 0) (tv g))) 66) (4 * D + 1) (-1))) 66) (4 * D + 2) (-1))) 66) (4 * D + 3) (-1))) 67 (upd ((hs (hs (hs (hs h 66 (upd (h 66) (4 * D + 0) (tv g))) 66 (upd ((hs h 66 (upd (h 66) (4 * D + 0) (tv g))) 66) (4 * D + 1) (-1))) 66 (upd ((hs (hs h 66 (upd (h 66) (4 * D + 0) (tv g))) 66 (upd ((hs h 66 (upd (h 66) (4 * D + 0) (tv g))) 66) (4 * D + 1) (-1))) 66) (4 * D + 2) (-1))) 66 (upd ((hs (hs (hs h 66 (upd (h 66) (4 * D + 0) (tv g))) 66 (upd ((hs h 66 (upd (h 66) (4 * D + 0) (tv g))) 66) (4 * D + 1) (-1))) 66 (upd ((hs (hs h 66 (upd (h 66) (4 * D + 0) (tv g))) 66 (upd ((hs h 66 (upd (h 66) (4 * D + 0) (tv g))) 66) (4 * D + 1) (-1))) 66) (4 * D + 2) (-1))) 66) (4 * D + 3) (-1))) 67) D (nI m))) 68 (upd ((hs (hs (hs (hs (hs h 66 (upd (h 66) (4 * D + 0) (tv g))) 66 (upd ((hs h 66 (upd (h 66) (4 * D + 0) (tv g))) 66) (4 * D + 1) (-1))) 66 (upd ((hs (hs h 66 (upd (h 66) (4 * D + 0) (tv g))) 66 (upd ((hs h 66 (upd (h 66) (4 * D + 0) (tv g))) 66) (4 * D + 1) (-1))) 66) (4 * D + 2) (-1))) 66 (upd ((hs (hs (hs h 66 (upd (h 66) (4 * D + 0) (tv g))) 66 (upd ((hs h 66 (upd (h 66) (4 * D + 0) (tv g))) 66) (4 * D + 1) (-1))) 66 (upd ((hs (hs h 66 (upd (h 66) (4 * D + 0) (tv g))) 66 (upd ((hs h 66 (upd (h 66) (4 * D + 0) (tv g))) 66) (4 * D + 1) (-1))) 66) (4 * D + 2) (-1))) 66) (4 * D + 3) (-1))) 67 (upd ((hs (hs (hs (hs h 66 (upd (h 66) (4 * D + 0) (tv g))) 66 (upd ((hs h 66 (upd (h 66) (4 * D + 0) (tv g))) 66) (4 * D + 1) (-1))) 66 (upd ((hs (hs h 66 (upd (h 66) (4 * D + 0) (tv g))) 66 (upd ((hs h 66 (upd (h 66) (4 * D + 0) (tv g))) 66) (4 * D + 1) (-1))) 66) (4 * D + 2) (-1))) 66 (upd ((hs (hs (hs h 66 (upd (h 66) (4 * D + 0) (tv g))) 66 (upd ((hs h 66 (upd (h 66) (4 * D + 0) (tv g))) 66) (4 * D + 1) (-1))) 66 (upd ((hs (hs h 66 (upd (h 66) (4 * D + 0) (tv g))) 66 (upd ((hs h 66 (upd (h 66) (4 * D + 0) (tv g))) 66) (4 * D + 1) (-1))) 66) (4 * D + 2) (-1))) 66) (4 * D + 3) (-1))) 67) D (nI m))) 68) D (nI 0))) 69) D (nI (R.1 3)))) 70) D (tv g))) 71 (upd ((hs (hs (hs (hs (hs (hs (hs (hs h 66 (upd (h 66) (4 * D + 0) (tv g))) 66 (upd ((hs h 66 (upd (h 66) (4 * D + 0) (tv g))) 66) (4 * D + 1) (-1))) 66 (upd ((hs (hs h 66 (upd (h 66) (4 * D + 0) (tv g))) 66 (upd ((hs h 66 (upd (h 66) (4 * D + 0) (tv g))) 66) (4 * D + 1) (-1))) 66) (4 * D + 2) (-1))) 66 (upd ((hs (hs (hs h 66 (upd (h 66) (4 * D + 0) (tv g))) 66 (upd ((hs h 66 (upd (h 66) (4 * D + 0) (tv g))) 66) (4 * D + 1) (-1))) 66 (upd ((hs (hs h 66 (upd (h 66) (4 * D + 0) (tv g))) 66 (upd ((hs h 66 (upd (h 66) (4 * D + 0) (tv g))) 66) (4 * D + 1) (-1))) 66) (4 * D + 2) (-1))) 66) (4 * D + 3) (-1))) 67 (upd ((hs (hs (hs (hs h 66 (upd (h 66) (4 * D + 0) (tv g))) 66 (upd ((hs h 66 (upd (h 66) (4 * D + 0) (tv g))) 66) (4 * D + 1) (-1))) 66 (upd ((hs (hs h 66 (upd (h 66) (4 * D + 0) (tv g))) 66 (upd ((hs h 66 (upd (h 66) (4 * D + 0) (tv g))) 66) (4 * D + 1) (-1))) 66) (4 * D + 2) (-1))) 66 (upd ((hs (hs (hs h 66 (upd (h 66) (4 * D + 0) (tv g))) 66 (upd ((hs h 66 (upd (h 66) (4 * D + 0) (tv g))) 66) (4 * D + 1) (-1))) 66 (upd ((hs (hs h 66 (upd (h 66) (4 * D + 0) (tv g))) 66 (upd ((hs h 66 (upd (h 66) (4 * D + 0) (tv g))) 66) (4 * D + 1) (-1))) 66) (4 * D + 2) (-1))) 66) (4 * D + 3) (-1))) 67) D (nI m))) 68 (upd ((hs (hs (hs (hs (hs h 66 (upd (h 66) (4 * D + 0) (tv g))) 66 (upd ((hs h 66 (upd (h 66) (4 * D + 0) (tv g))) 66) (4 * D + 1) (-1))) 66 (upd ((hs (hs h 66 (upd (h 66) (4 * D + 0) (tv g))) 66 (upd ((hs h 66 (upd (h 66) (4 * D + 0) (tv g))) 66) (4 * D + 1) (-1))) 66) (4 * D + 2) (-1))) 66 (upd ((hs (hs (hs h 66 (upd (h 66) (4 * D + 0) (tv g))) 66 (upd ((hs h 66 (upd (h 66) (4 * D + 0) (tv g))) 66) (4 * D + 1) (-1))) 66 (upd ((hs (hs h 66 (upd (h 66) (4 * D + 0) (tv g))) 66 (upd ((hs h 66 (upd (h 66) (4 * D + 0) (tv g))) 66) (4 * D + 1) (-1))) 66) (4 * D + 2) (-1))) 66) (4 * D + 3) (-1))) 67 (upd ((hs (hs (hs (hs h 66 (upd (h 66) (4 * D + 0) (tv g))) 66 (upd ((hs h 66 (upd (h 66) (4 * D + 0) (tv g))) 66) (4 * D + 1) (-1))) 66 (upd ((hs (hs h 66 (upd (h 66) (4 * D + 0) (tv g))) 66 (upd ((hs h 66 (upd (h 66) (4 * D + 0) (tv g))) 66) (4 * D + 1) (-1))) 66) (4 * D + 2) (-1))) 66 (upd ((hs (hs (hs h 66 (upd (h 66) (4 * D + 0) (tv g))) 66 (upd ((hs h 66 (upd (h 66) (4 * D + 0) (tv g))) 66) (4 * D + 1) (-1))) 66 (upd ((hs (hs h 66 (upd (h 66) (4 * D + 0) (tv g))) 66 (upd ((hs h 66 (upd (h 66) (4 * D + 0) (tv g))) 66) (4 * D + 1) (-1))) 66) (4 * D + 2) (-1))) 66) (4 * D + 3) (-1))) 67) D (nI m))) 68) D (nI 0))) 69 (upd ((hs (hs (hs (hs (hs (hs h 66 (upd (h 66) (4 * D + 0) (tv g))) 66 (upd ((hs h 66 (upd (h 66) (4 * D + 0) (tv g))) 66) (4 * D + 1) (-1))) 66 (upd ((hs (hs h 66 (upd (h 66) (4 * D + 0) (tv g))) 66 (upd ((hs h 66 (upd (h 66) (4 * D + 0) (tv g))) 66) (4 * D + 1) (-1))) 66) (4 * D + 2) (-1))) 66 (upd ((hs (hs (hs h 66 (upd (h 66) (4 * D + 0) (tv g))) 66 (upd ((hs h 66 (upd (h 66) (4 * D + 0) (tv g))) 66) (4 * D + 1) (-1))) 66 (upd ((hs (hs h 66 (upd (h 66) (4 * D + 0) (tv g))) 66 (upd ((hs h 66 (upd (h 66) (4 * D + 0) (tv g))) 66) (4 * D + 1) (-1))) 66) (4 * D + 2) (-1))) 66) (4 * D + 3) (-1))) 67 (upd ((hs (hs (hs (hs h 66 (upd (h 66) (4 * D + 0) (tv g))) 66 (upd ((hs h 66 (upd (h 66) (4 * D + 0) (tv g))) 66) (4 * D + 1) (-1))) 66 (upd ((hs (hs h 66 (upd (h 66) (4 * D + 0) (tv g))) 66 (upd ((hs h 66 (upd (h 66) (4 * D + 0) (tv g))) 66) (4 * D + 1) (-1))) 66) (4 * D + 2) (-1))) 66 (upd ((hs (hs (hs h 66 (upd (h 66) (4 * D + 0) (tv g))) 66 (upd ((hs h 66 (upd (h 66) (4 * D + 0) (tv g))) 66) (4 * D + 1) (-1))) 66 (upd ((hs (hs h 66 (upd (h 66) (4 * D + 0) (tv g))) 66 (upd ((hs h 66 (upd (h 66) (4 * D + 0) (tv g))) 66) (4 * D + 1) (-1))) 66) (4 * D + 2) (-1))) 66) (4 * D + 3) (-1))) 67) D (nI m))) 68 (upd ((hs (hs (hs (hs (hs h 66 (upd (h 66) (4 * D + 0) (tv g))) 66 (upd ((hs h 66 (upd (h 66) (4 * D + 0) (tv g))) 66) (4 * D + 1) (-1))) 66 (upd ((hs (hs h 66 (upd (h 66) (4 * D + 0) (tv g))) 66 (upd ((hs h 66 (upd (h 66) (4 * D + 0) (tv g))) 66) (4 * D + 1) (-1))) 66) (4 * D + 2) (-1))) 66 (upd ((hs (hs (hs h 66 (upd (h 66) (4 * D + 0) (tv g))) 66 (upd ((hs h 66 (upd (h 66) (4 * D + 0) (tv g))) 66) (4 * D + 1) (-1))) 66 (upd ((hs (hs h 66 (upd (h 66) (4 * D + 0) (tv g))) 66 (upd ((hs h 66 (upd (h 66) (4 * D + 0) (tv g))) 66) (4 * D + 1) (-1))) 66) (4 * D + 2) (-1))) 66) (4 * D + 3) (-1))) 67 (upd ((hs (hs (hs (hs h 66 (upd (h 66) (4 * D + 0) (tv g))) 66 (upd ((hs h 66 (upd (h 66) (4 * D + 0) (tv g))) 66) (4 * D + 1) (-1))) 66 (upd ((hs (hs h 66 (upd (h 66) (4 * D + 0) (tv g))) 66 (upd ((hs h 66 (upd (h 66) (4 * D + 0) (tv g))) 66) (4 * D + 1) (-1))) 66) (4 * D + 2) (-1))) 66 (upd ((hs (hs (hs h 66 (upd (h 66) (4 * D + 0) (tv g))) 66 (upd ((hs h 66 (upd (h 66) (4 * D + 0) (tv g))) 66) (4 * D + 1) (-1))) 66 (upd ((hs (hs h 66 (upd (h 66) (4 * D + 0) (tv g))) 66 (upd ((hs h 66 (upd (h 66) (4 * D + 0) (tv g))) 66) (4 * D + 1) (-1))) 66) (4 * D + 2) (-1))) 66) (4 * D + 3) (-1))) 67) D (nI m))) 68) D (nI 0))) 69) D (nI (R.1 3)))) 70 (upd ((hs (hs (hs (hs (hs (hs (hs h 66 (upd (h 66) (4 * D + 0) (tv g))) 66 (upd ((hs h 66 (upd (h 66) (4 * D + 0) (tv g))) 66) (4 * D + 1) (-1))) 66 (upd ((hs (hs h 66 (upd (h 66) (4 * D + 0) (tv g))) 66 (upd ((hs h 66 (upd (h 66) (4 * D + 0) (tv g))) 66) (4 * D + 1) (-1))) 66) (4 * D + 2) (-1))) 66 (upd ((hs (hs (hs h 66 (upd (h 66) (4 * D + 0) (tv g))) 66 (upd ((hs h 66 (upd (h 66) (4 * D + 0) (tv g))) 66) (4 * D + 1) (-1))) 66 (upd ((hs (hs h 66 (upd (h 66) (4 * D + 0) (tv g))) 66 (upd ((hs h 66 (upd (h 66) (4 * D + 0) (tv g))) 66) (4 * D + 1) (-1))) 66) (4 * D + 2) (-1))) 66) (4 * D + 3) (-1))) 67 (upd ((hs (hs (hs (hs h 66 (upd (h 66) (4 * D + 0) (tv g))) 66 (upd ((hs h 66 (upd (h 66) (4 * D + 0) (tv g))) 66) (4 * D + 1) (-1))) 66 (upd ((hs (hs h 66 (upd (h 66) (4 * D + 0) (tv g))) 66 (upd ((hs h 66 (upd (h 66) (4 * D + 0) (tv g))) 66) (4 * D + 1) (-1))) 66) (4 * D + 2) (-1))) 66 (upd ((hs (hs (hs h 66 (upd (h 66) (4 * D + 0) (tv g))) 66 (upd ((hs h 66 (upd (h 66) (4 * D + 0) (tv g))) 66) (4 * D + 1) (-1))) 66 (upd ((hs (hs h 66 (upd (h 66) (4 * D + 0) (tv g))) 66 (upd ((hs h 66 (upd (h 66) (4 * D + 0) (tv g))) 66) (4 * D + 1) (-1))) 66) (4 * D + 2) (-1))) 66) (4 * D + 3) (-1))) 67) D (nI m))) 68 (upd ((hs (hs (hs (hs (hs h 66 (upd (h 66) (4 * D + 0) (tv g))) 66 (upd ((hs h 66 (upd (h 66) (4 * D + 0) (tv g))) 66) (4 * D + 1) (-1))) 66 (upd ((hs (hs h 66 (upd (h 66) (4 * D + 0) (tv g))) 66 (upd ((hs h 66 (upd (h 66) (4 * D + 0) (tv g))) 66) (4 * D + 1) (-1))) 66) (4 * D + 2) (-1))) 66 (upd ((hs (hs (hs h 66 (upd (h 66) (4 * D + 0) (tv g))) 66 (upd ((hs h 66 (upd (h 66) (4 * D + 0) (tv g))) 66) (4 * D + 1) (-1))) 66 (upd ((hs (hs h 66 (upd (h 66) (4 * D + 0) (tv g))) 66 (upd ((hs h 66 (upd (h 66) (4 * D + 0) (tv g))) 66) (4 * D + 1) (-1))) 66) (4 * D + 2) (-1))) 66) (4 * D + 3) (-1))) 67 (upd ((hs (hs (hs (hs h 66 (upd (h 66) (4 * D + 0) (tv g))) 66 (upd ((hs h 66 (upd (h 66) (4 * D + 0) (tv g))) 66) (4 * D + 1) (-1))) 66 (upd ((hs (hs h 66 (upd (h 66) (4 * D + 0) (tv g))) 66 (upd ((hs h 66 (upd (h 66) (4 * D + 0) (tv g))) 66) (4 * D + 1) (-1))) 66) (4 * D + 2) (-1))) 66 (upd ((hs (hs (hs h 66 (upd (h 66) (4 * D + 0) (tv g))) 66 (upd ((hs h 66 (upd (h 66) (4 * D + 0) (tv g))) 66) (4 * D + 1) (-1))) 66 (upd ((hs (hs h 66 (upd (h 66) (4 * D + 0) (tv g))) 66 (upd ((hs h 66 (upd (h 66) (4 * D + 0) (tv g))) 66) (4 * D + 1) (-1))) 66) (4 * D + 2) (-1))) 66) (4 * D + 3) (-1))) 67) D (nI m))) 68) D (nI 0))) 69 (upd ((hs (hs (hs (hs (hs (hs h 66 (upd (h 66) (4 * D + 0) (tv g))) 66 (upd ((hs h 66 (upd (h 66) (4 * D + 0) (tv g))) 66) (4 * D + 1) (-1))) 66 (upd ((hs (hs h 66 (upd (h 66) (4 * D + 0) (tv g))) 66 (upd ((hs h 66 (upd (h 66) (4 * D + 0) (tv g))) 66) (4 * D + 1) (-1))) 66) (4 * D + 2) (-1))) 66 (upd ((hs (hs (hs h 66 (upd (h 66) (4 * D + 0) (tv g))) 66 (upd ((hs h 66 (upd (h 66) (4 * D + 0) (tv g))) 66) (4 * D + 1) (-1))) 66 (upd ((hs (hs h 66 (upd (h 66) (4 * D + 0) (tv g))) 66 (upd ((hs h 66 (upd (h 66) (4 * D + 0) (tv g))) 66) (4 * D + 1) (-1))) 66) (4 * D + 2) (-1))) 66) (4 * D + 3) (-1))) 67 (upd ((hs (hs (hs (hs h 66 (upd (h 66) (4 * D + 0) (tv g))) 66 (upd ((hs h 66 (upd (h 66) (4 * D + 0) (tv g))) 66) (4 * D + 1) (-1))) 66 (upd ((hs (hs h 66 (upd (h 66) (4 * D + 0) (tv g))) 66 (upd ((hs h 66 (upd (h 66) (4 * D + 0) (tv g))) 66) (4 * D + 1) (-1))) 66) (4 * D + 2) (-1))) 66 (upd ((hs (hs (hs h 66 (upd (h 66) (4 * D + 0) (tv g))) 66 (upd ((hs h 66 (upd (h 66) (4 * D + 0) (tv g))) 66) (4 * D + 1) (-1))) 66 (upd ((hs (hs h 66 (upd (h 66) (4 * D + 0) (tv g))) 66 (upd ((hs h 66 (upd (h 66) (4 * D + 0) (tv g))) 66) (4 * D + 1) (-1))) 66) (4 * D + 2) (-1))) 66) (4 * D + 3) (-1))) 67) D (nI m))) 68 (upd ((hs (hs (hs (hs (hs h 66 (upd (h 66) (4 * D + 0) (tv g))) 66 (upd ((hs h 66 (upd (h 66) (4 * D + 0) (tv g))) 66) (4 * D + 1) (-1))) 66 (upd ((hs (hs h 66 (upd (h 66) (4 * D + 0) (tv g))) 66 (upd ((hs h 66 (upd (h 66) (4 * D + 0) (tv g))) 66) (4 * D + 1) (-1))) 66) (4 * D + 2) (-1))) 66 (upd ((hs (hs (hs h 66 (upd (h 66) (4 * D + 0) (tv g))) 66 (upd ((hs h 66 (upd (h 66) (4 * D + 0) (tv g))) 66) (4 * D + 1) (-1))) 66 (upd ((hs (hs h 66 (upd (h 66) (4 * D + 0) (tv g))) 66 (upd ((hs h 66 (upd (h 66) (4 * D + 0) (tv g))) 66) (4 * D + 1) (-1))) 66) (4 * D + 2) (-1))) 66) (4 * D + 3) (-1))) 67 (upd ((hs (hs (hs (hs h 66 (upd (h 66) (4 * D + 0) (tv g))) 66 (upd ((hs h 66 (upd (h 66) (4 * D + 0) (tv g))) 66) (4 * D + 1) (-1))) 66 (upd ((hs (hs h 66 (upd (h 66) (4 * D + 0) (tv g))) 66 (upd ((hs h 66 (upd (h 66) (4 * D + 0) (tv g))) 66) (4 * D + 1) (-1))) 66) (4 * D + 2) (-1))) 66 (upd ((hs (hs (hs h 66 (upd (h 66) (4 * D + 0) (tv g))) 66 (upd ((hs h 66 (upd (h 66) (4 * D + 0) (tv g))) 66) (4 * D + 1) (-1))) 66 (upd ((hs (hs h 66 (upd (h 66) (4 * D + 0) (tv g))) 66 (upd ((hs h 66 (upd (h 66) (4 * D + 0) (tv g))) 66) (4 * D + 1) (-1))) 66) (4 * D + 2) (-1))) 66) (4 * D + 3) (-1))) 67) D (nI m))) 68) D (nI 0))) 69) D (nI (R.1 3)))) 70) D (tv g))) 71) D (nI (R.1 0)))) 50 (upd ((hs (hs (hs (hs (hs (hs (hs (hs (hs h 66 (upd (h 66) (4 * D + 0) (tv g))) 66 (upd ((hs h 66 (upd (h 66) (4 * D + 0) (tv g))) 66) (4 * D + 1) (-1))) 66 (upd ((hs (hs h 66 (upd (h 66) (4 * D + 0) (tv g))) 66 (upd ((hs h 66 (upd (h 66) (4 * D + 0) (tv g))) 66) (4 * D + 1) (-1))) 66) (4 * D + 2) (-1))) 66 (upd ((hs (hs (hs h 66 (upd (h 66) (4 * D + 0) (tv g))) 66 (upd ((hs h 66 (upd (h 66) (4 * D + 0) (tv g))) 66) (4 * D + 1) (-1))) 66 (upd ((hs (hs h 66 (upd (h 66) (4 * D + 0) (tv g))) 66 (upd ((hs h 66 (upd (h 66) (4 * D + 0) (tv g))) 66) (4 * D + 1) (-1))) 66) (4 * D + 2) (-1))) 66) (4 * D + 3) (-1))) 67 (upd ((hs (hs (hs (hs h 66 (upd (h 66) (4 * D + 0) (tv g))) 66 (upd ((hs h 66 (upd (h 66) (4 * D + 0) (tv g))) 66) (4 * D + 1) (-1))) 66 (upd ((hs (hs h 66 (upd (h 66) (4 * D + 0) (tv g))) 66 (upd ((hs h 66 (upd (h 66) (4 * D + 0) (tv g))) 66) (4 * D + 1) (-1))) 66) (4 * D + 2) (-1))) 66 (upd ((hs (hs (hs h 66 (upd (h 66) (4 * D + 0) (tv g))) 66 (upd ((hs h 66 (upd (h 66) (4 * D + 0) (tv g))) 66) (4 * D + 1) (-1))) 66 (upd ((hs (hs h 66 (upd (h 66) (4 * D + 0) (tv g))) 66 (upd ((hs h 66 (upd (h 66) (4 * D + 0) (tv g))) 66) (4 * D + 1) (-1))) 66) (4 * D + 2) (-1))) 66) (4 * D + 3) (-1))) 67) D (nI m))) 68 (upd ((hs (hs (hs (hs (hs h 66 (upd (h 66) (4 * D + 0) (tv g))) 66 (upd ((hs h 66 (upd (h 66) (4 * D + 0) (tv g))) 66) (4 * D + 1) (-1))) 66 (upd ((hs (hs h 66 (upd (h 66) (4 * D + 0) (tv g))) 66 (upd ((hs h 66 (upd (h 66) (4 * D + 0) (tv g))) 66) (4 * D + 1) (-1))) 66) (4 * D + 2) (-1))) 66 (upd ((hs (hs (hs h 66 (upd (h 66) (4 * D + 0) (tv g))) 66 (upd ((hs h 66 (upd (h 66) (4 * D + 0) (tv g))) 66) (4 * D + 1) (-1))) 66 (upd ((hs (hs h 66 (upd (h 66) (4 * D + 0) (tv g))) 66 (upd ((hs h 66 (upd (h 66) (4 * D + 0) (tv g))) 66) (4 * D + 1) (-1))) 66) (4 * D + 2) (-1))) 66) (4 * D + 3) (-1))) 67 (upd ((hs (hs (hs (hs h 66 (upd (h 66) (4 * D + 0) (tv g))) 66 (upd ((hs h 66 (upd (h 66) (4 * D + 0) (tv g))) 66) (4 * D + 1) (-1))) 66 (upd ((hs (hs h 66 (upd (h 66) (4 * D + 0) (tv g))) 66 (upd ((hs h 66 (upd (h 66) (4 * D + 0) (tv g))) 66) (4 * D + 1) (-1))) 66) (4 * D + 2) (-1))) 66 (upd ((hs (hs (hs h 66 (upd (h 66) (4 * D + 0) (tv g))) 66 (upd ((hs h 66 (upd (h 66) (4 * D + 0) (tv g))) 66) (4 * D + 1) (-1))) 66 (upd ((hs (hs h 66 (upd (h 66) (4 * D + 0) (tv g))) 66 (upd ((hs h 66 (upd (h 66) (4 * D + 0) (tv g))) 66) (4 * D + 1) (-1))) 66) (4 * D + 2) (-1))) 66) (4 * D + 3) (-1))) 67) D (nI m))) 68) D (nI 0))) 69 (upd ((hs (hs (hs (hs (hs (hs h 66 (upd (h 66) (4 * D + 0) (tv g))) 66 (upd ((hs h 66 (upd (h 66) (4 * D + 0) (tv g))) 66) (4 * D + 1) (-1))) 66 (upd ((hs (hs h 66 (upd (h 66) (4 * D + 0) (tv g))) 66 (upd ((hs h 66 (upd (h 66) (4 * D + 0) (tv g))) 66) (4 * D + 1) (-1))) 66) (4 * D + 2) (-1))) 66 (upd ((hs (hs (hs h 66 (upd (h 66) (4 * D + 0) (tv g))) 66 (upd ((hs h 66 (upd (h 66) (4 * D + 0) (tv g))) 66) (4 * D + 1) (-1))) 66 (upd ((hs (hs h 66 (upd (h 66) (4 * D + 0) (tv g))) 66 (upd ((hs h 66 (upd (h 66) (4 * D + 0) (tv g))) 66) (4 * D + 1) (-1))) 66) (4 * D + 2) (-1))) 66) (4 * D + 3) (-1))) 67 (upd ((hs (hs (hs (hs h 66 (upd (h 66) (4 * D + 0) (tv g))) 66 (upd ((hs h 66 (upd (h 66) (4 * D + 0) (tv g))) 66) (4 * D + 1) (-1))) 66 (upd ((hs (hs h 66 (upd (h 66) (4 * D + 0) (tv g))) 66 (upd ((hs h 66 (upd (h 66) (4 * D + 0) (tv g))) 66) (4 * D + 1) (-1))) 66) (4 * D + 2) (-1))) 66 (upd ((hs (hs (hs h 66 (upd (h 66) (4 * D + 0) (tv g))) 66 (upd ((hs h 66 (upd (h 66) (4 * D + 0) (tv g))) 66) (4 * D + 1) (-1))) 66 (upd ((hs (hs h 66 (upd (h 66) (4 * D + 0) (tv g))) 66 (upd ((hs h 66 (upd (h 66) (4 * D + 0) (tv g))) 66) (4 * D + 1) (-1))) 66) (4 * D + 2) (-1))) 66) (4 * D + 3) (-1))) 67) D (nI m))) 68 (upd ((hs (hs (hs (hs (hs h 66 (upd (h 66) (4 * D + 0) (tv g))) 66 (upd ((hs h 66 (upd (h 66) (4 * D + 0) (tv g))) 66) (4 * D + 1) (-1))) 66 (upd ((hs (hs h 66 (upd (h 66) (4 * D + 0) (tv g))) 66 (upd ((hs h 66 (upd (h 66) (4 * D + 0) (tv g))) 66) (4 * D + 1) (-1))) 66) (4 * D + 2) (-1))) 66 (upd ((hs (hs (hs h 66 (upd (h 66) (4 * D + 0) (tv g))) 66 (upd ((hs h 66 (upd (h 66) (4 * D + 0) (tv g))) 66) (4 * D + 1) (-1))) 66 (upd ((hs (hs h 66 (upd (h 66) (4 * D + 0) (tv g))) 66 (upd ((hs h 66 (upd (h 66) (4 * D + 0) (tv g))) 66) (4 * D + 1) (-1))) 66) (4 * D + 2) (-1))) 66) (4 * D + 3) (-1))) 67 (upd ((hs (hs (hs (hs h 66 (upd (h 66) (4 * D + 0) (tv g))) 66 (upd ((hs h 66 (upd (h 66) (4 * D + 0) (tv g))) 66) (4 * D + 1) (-1))) 66 (upd ((hs (hs h 66 (upd (h 66) (4 * D + 0) (tv g))) 66 (upd ((hs h 66 (upd (h 66) (4 * D + 0) (tv g))) 66) (4 * D + 1) (-1))) 66) (4 * D + 2) (-1))) 66 (upd ((hs (hs (hs h 66 (upd (h 66) (4 * D + 0) (tv g))) 66 (upd ((hs h 66 (upd (h 66) (4 * D + 0) (tv g))) 66) (4 * D + 1) (-1))) 66 (upd ((hs (hs h 66 (upd (h 66) (4 * D + 0) (tv g))) 66 (upd ((hs h 66 (upd (h 66) (4 * D + 0) (tv g))) 66) (4 * D + 1) (-1))) 66) (4 * D + 2) (-1))) 66) (4 * D + 3) (-1))) 67) D (nI m))) 68) D (nI 0))) 69) D (nI (R.1 3)))) 70 (upd ((hs (hs (hs (hs (hs (hs (hs h 66 (upd (h 66) (4 * D + 0) (tv g))) 66 (upd ((hs h 66 (upd (h 66) (4 * D + 0) (tv g))) 66) (4 * D + 1) (-1))) 66 (upd ((hs (hs h 66 (upd (h 66) (4 * D + 0) (tv g))) 66 (upd ((hs h 66 (upd (h 66) (4 * D + 0) (tv g))) 66) (4 * D + 1) (-1))) 66) (4 * D + 2) (-1))) 66 (upd ((hs (hs (hs h 66 (upd (h 66) (4 * D + 0) (tv g))) 66 (upd ((hs h 66 (upd (h 66) (4 * D + 0) (tv g))) 66) (4 * D + 1) (-1))) 66 (upd ((hs (hs h 66 (upd (h 66) (4 * D + 0) (tv g))) 66 (upd ((hs h 66 (upd (h 66) (4 * D + 0) (tv g))) 66) (4 * D + 1) (-1))) 66) (4 * D + 2) (-1))) 66) (4 * D + 3) (-1))) 67 (upd ((hs (hs (hs (hs h 66 (upd (h 66) (4 * D + 0) (tv g))) 66 (upd ((hs h 66 (upd (h 66) (4 * D + 0) (tv g))) 66) (4 * D + 1) (-1))) 66 (upd ((hs (hs h 66 (upd (h 66) (4 * D + 0) (tv g))) 66 (upd ((hs h 66 (upd (h 66) (4 * D + 0) (tv g))) 66) (4 * D + 1) (-1))) 66) (4 * D + 2) (-1))) 66 (upd ((hs (hs (hs h 66 (upd (h 66) (4 * D + 0) (tv g))) 66 (upd ((hs h 66 (upd (h 66) (4 * D + 0) (tv g))) 66) (4 * D + 1) (-1))) 66 (upd ((hs (hs h 66 (upd (h 66) (4 * D + 0) (tv g))) 66 (upd ((hs h 66 (upd (h 66) (4 * D + 0) (tv g))) 66) (4 * D + 1) (-1))) 66) (4 * D + 2) (-1))) 66) (4 * D + 3) (-1))) 67) D (nI m))) 68 (upd ((hs (hs (hs (hs (hs h 66 (upd (h 66) (4 * D + 0) (tv g))) 66 (upd ((hs h 66 (upd (h 66) (4 * D + 0) (tv g))) 66) (4 * D + 1) (-1))) 66 (upd ((hs (hs h 66 (upd (h 66) (4 * D + 0) (tv g))) 66 (upd ((hs h 66 (upd (h 66) (4 * D + 0) (tv g))) 66) (4 * D + 1) (-1))) 66) (4 * D + 2) (-1))) 66 (upd ((hs (hs (hs h 66 (upd (h 66) (4 * D + 0) (tv g))) 66 (upd ((hs h 66 (upd (h 66) (4 * D + 0) (tv g))) 66) (4 * D + 1) (-1))) 66 (upd ((hs (hs h 66 (upd (h 66) (4 * D + 0) (tv g))) 66 (upd ((hs h 66 (upd (h 66) (4 * D + 0) (tv g))) 66) (4 * D + 1) (-1))) 66) (4 * D + 2) (-1))) 66) (4 * D + 3) (-1))) 67 (upd ((hs (hs (hs (hs h 66 (upd (h 66) (4 * D + 0) (tv g))) 66 (upd ((hs h 66 (upd (h 66) (4 * D + 0) (tv g))) 66) (4 * D + 1) (-1))) 66 (upd ((hs (hs h 66 (upd (h 66) (4 * D + 0) (tv g))) 66 (upd ((hs h 66 (upd (h 66) (4 * D + 0) (tv g))) 66) (4 * D + 1) (-1))) 66) (4 * D + 2) (-1))) 66 (upd ((hs (hs (hs h 66 (upd (h 66) (4 * D + 0) (tv g))) 66 (upd ((hs h 66 (upd (h 66) (4 * D + 0) (tv g))) 66) (4 * D + 1) (-1))) 66 (upd ((hs (hs h 66 (upd (h 66) (4 * D + 0) (tv g))) 66 (upd ((hs h 66 (upd (h 66) (4 * D + 0) (tv g))) 66) (4 * D + 1) (-1))) 66) (4 * D + 2) (-1))) 66) (4 * D + 3) (-1))) 67) D (nI m))) 68) D (nI 0))) 69 (upd ((hs (hs (hs (hs (hs (hs h 66 (upd (h 66) (4 * D + 0) (tv g))) 66 (upd ((hs h 66 (upd (h 66) (4 * D + 0) (tv g))) 66) (4 * D + 1) (-1))) 66 (upd ((hs (hs h 66 (upd (h 66) (4 * D + 0) (tv g))) 66 (upd ((hs h 66 (upd (h 66) (4 * D + 0) (tv g))) 66) (4 * D + 1) (-1))) 66) (4 * D + 2) (-1))) 66 (upd ((hs (hs (hs h 66 (upd (h 66) (4 * D + 0) (tv g))) 66 (upd ((hs h 66 (upd (h 66) (4 * D + 0) (tv g))) 66) (4 * D + 1) (-1))) 66 (upd ((hs (hs h 66 (upd (h 66) (4 * D + 0) (tv g))) 66 (upd ((hs h 66 (upd (h 66) (4 * D + 0) (tv g))) 66) (4 * D + 1) (-1))) 66) (4 * D + 2) (-1))) 66) (4 * D + 3) (-1))) 67 (upd ((hs (hs (hs (hs h 66 (upd (h 66) (4 * D + 0) (tv g))) 66 (upd ((hs h 66 (upd (h 66) (4 * D + 0) (tv g))) 66) (4 * D + 1) (-1))) 66 (upd ((hs (hs h 66 (upd (h 66) (4 * D + 0) (tv g))) 66 (upd ((hs h 66 (upd (h 66) (4 * D + 0) (tv g))) 66) (4 * D + 1) (-1))) 66) (4 * D + 2) (-1))) 66 (upd ((hs (hs (hs h 66 (upd (h 66) (4 * D + 0) (tv g))) 66 (upd ((hs h 66 (upd (h 66) (4 * D + 0) (tv g))) 66) (4 * D + 1) (-1))) 66 (upd ((hs (hs h 66 (upd (h 66) (4 * D + 0) (tv g))) 66 (upd ((hs h 66 (upd (h 66) (4 * D + 0) (tv g))) 66) (4 * D + 1) (-1))) 66) (4 * D + 2) (-1))) 66) (4 * D + 3) (-1))) 67) D (nI m))) 68 (upd ((hs (hs (hs (hs (hs h 66 (upd (h 66) (4 * D + 0) (tv g))) 66 (upd ((hs h 66 (upd (h 66) (4 * D + 0) (tv g))) 66) (4 * D + 1) (-1))) 66 (upd ((hs (hs h 66 (upd (h 66) (4 * D + 0) (tv g))) 66 (upd ((hs h 66 (upd (h 66) (4 * D + 0) (tv g))) 66) (4 * D + 1) (-1))) 66) (4 * D + 2) (-1))) 66 (upd ((hs (hs (hs h 66 (upd (h 66) (4 * D + 0) (tv g))) 66 (upd ((hs h 66 (upd (h 66) (4 * D + 0) (tv g))) 66) (4 * D + 1) (-1))) 66 (upd ((hs (hs h 66 (upd (h 66) (4 * D + 0) (tv g))) 66 (upd ((hs h 66 (upd (h 66) (4 * D + 0) (tv g))) 66) (4 * D + 1) (-1))) 66) (4 * D + 2) (-1))) 66) (4 * D + 3) (-1))) 67 (upd ((hs (hs (hs (hs h 66 (upd (h 66) (4 * D + 0) (tv g))) 66 (upd ((hs h 66 (upd (h 66) (4 * D + 0) (tv g))) 66) (4 * D + 1) (-1))) 66 (upd ((hs (hs h 66 (upd (h 66) (4 * D + 0) (tv g))) 66 (upd ((hs h 66 (upd (h 66) (4 * D + 0) (tv g))) 66) (4 * D + 1) (-1))) 66) (4 * D + 2) (-1))) 66 (upd ((hs (hs (hs h 66 (upd (h 66) (4 * D + 0) (tv g))) 66 (upd ((hs h 66 (upd (h 66) (4 * D + 0) (tv g))) 66) (4 * D + 1) (-1))) 66 (upd ((hs (hs h 66 (upd (h 66) (4 * D + 0) (tv g))) 66 (upd ((hs h 66 (upd (h 66) (4 * D + 0) (tv g))) 66) (4 * D + 1) (-1))) 66) (4 * D + 2) (-1))) 66) (4 * D + 3) (-1))) 67) D (nI m))) 68) D (nI 0))) 69) D (nI (R.1 3)))) 70) D (tv g))) 71 (upd ((hs (hs (hs (hs (hs (hs (hs (hs h 66 (upd (h 66) (4 * D + 0) (tv g))) 66 (upd ((hs h 66 (upd (h 66) (4 * D + 0) (tv g))) 66) (4 * D + 1) (-1))) 66 (upd ((hs (hs h 66 (upd (h 66) (4 * D + 0) (tv g))) 66 (upd ((hs h 66 (upd (h 66) (4 * D + 0) (tv g))) 66) (4 * D + 1) (-1))) 66) (4 * D + 2) (-1))) 66 (upd ((hs (hs (hs h 66 (upd (h 66) (4 * D + 0) (tv g))) 66 (upd ((hs h 66 (upd (h 66) (4 * D + 0) (tv g))) 66) (4 * D + 1) (-1))) 66 (upd ((hs (hs h 66 (upd (h 66) (4 * D + 0) (tv g))) 66 (upd ((hs h 66 (upd (h 66) (4 * D + 0) (tv g))) 66) (4 * D + 1) (-1))) 66) (4 * D + 2) (-1))) 66) (4 * D + 3) (-1))) 67 (upd ((hs (hs (hs (hs h 66 (upd (h 66) (4 * D + 0) (tv g))) 66 (upd ((hs h 66 (upd (h 66) (4 * D + 0) (tv g))) 66) (4 * D + 1) (-1))) 66 (upd ((hs (hs h 66 (upd (h 66) (4 * D + 0) (tv g))) 66 (upd ((hs h 66 (upd (h 66) (4 * D + 0) (tv g))) 66) (4 * D + 1) (-1))) 66) (4 * D + 2) (-1))) 66 (upd ((hs (hs (hs h 66 (upd (h 66) (4 * D + 0) (tv g))) 66 (upd ((hs h 66 (upd (h 66) (4 * D + 0) (tv g))) 66) (4 * D + 1) (-1))) 66 (upd ((hs (hs h 66 (upd (h 66) (4 * D + 0) (tv g))) 66 (upd ((hs h 66 (upd (h 66) (4 * D + 0) (tv g))) 66) (4 * D + 1) (-1))) 66) (4 * D + 2) (-1))) 66) (4 * D + 3) (-1))) 67) D (nI m))) 68 (upd ((hs (hs (hs (hs (hs h 66 (upd (h 66) (4 * D + 0) (tv g))) 66 (upd ((hs h 66 (upd (h 66) (4 * D + 0) (tv g))) 66) (4 * D + 1) (-1))) 66 (upd ((hs (hs h 66 (upd (h 66) (4 * D + 0) (tv g))) 66 (upd ((hs h 66 (upd (h 66) (4 * D + 0) (tv g))) 66) (4 * D + 1) (-1))) 66) (4 * D + 2) (-1))) 66 (upd ((hs (hs (hs h 66 (upd (h 66) (4 * D + 0) (tv g))) 66 (upd ((hs h 66 (upd (h 66) (4 * D + 0) (tv g))) 66) (4 * D + 1) (-1))) 66 (upd ((hs (hs h 66 (upd (h 66) (4 * D + 0) (tv g))) 66 (upd ((hs h 66 (upd (h 66) (4 * D + 0) (tv g))) 66) (4 * D + 1) (-1))) 66) (4 * D + 2) (-1))) 66) (4 * D + 3) (-1))) 67 (upd ((hs (hs (hs (hs h 66 (upd (h 66) (4 * D + 0) (tv g))) 66 (upd ((hs h 66 (upd (h 66) (4 * D + 0) (tv g))) 66) (4 * D + 1) (-1))) 66 (upd ((hs (hs h 66 (upd (h 66) (4 * D + 0) (tv g))) 66 (upd ((hs h 66 (upd (h 66) (4 * D + 0) (tv g))) 66) (4 * D + 1) (-1))) 66) (4 * D + 2) (-1))) 66 (upd ((hs (hs (hs h 66 (upd (h 66) (4 * D + 0) (tv g))) 66 (upd ((hs h 66 (upd (h 66) (4 * D + 0) (tv g))) 66) (4 * D + 1) (-1))) 66 (upd ((hs (hs h 66 (upd (h 66) (4 * D + 0) (tv g))) 66 (upd ((hs h 66 (upd (h 66) (4 * D + 0) (tv g))) 66) (4 * D + 1) (-1))) 66) (4 * D + 2) (-1))) 66) (4 * D + 3) (-1))) 67) D (nI m))) 68) D (nI 0))) 69 (upd ((hs (hs (hs (hs (hs (hs h 66 (upd (h 66) (4 * D + 0) (tv g))) 66 (upd ((hs h 66 (upd (h 66) (4 * D + 0) (tv g))) 66) (4 * D + 1) (-1))) 66 (upd ((hs (hs h 66 (upd (h 66) (4 * D + 0) (tv g))) 66 (upd ((hs h 66 (upd (h 66) (4 * D + 0) (tv g))) 66) (4 * D + 1) (-1))) 66) (4 * D + 2) (-1))) 66 (upd ((hs (hs (hs h 66 (upd (h 66) (4 * D + 0) (tv g))) 66 (upd ((hs h 66 (upd (h 66) (4 * D + 0) (tv g))) 66) (4 * D + 1) (-1))) 66 (upd ((hs (hs h 66 (upd (h 66) (4 * D + 0) (tv g))) 66 (upd ((hs h 66 (upd (h 66) (4 * D + 0) (tv g))) 66) (4 * D + 1) (-1))) 66) (4 * D + 2) (-1))) 66) (4 * D + 3) (-1))) 67 (upd ((hs (hs (hs (hs h 66 (upd (h 66) (4 * D + 0) (tv g))) 66 (upd ((hs h 66 (upd (h 66) (4 * D + 0) (tv g))) 66) (4 * D + 1) (-1))) 66 (upd ((hs (hs h 66 (upd (h 66) (4 * D + 0) (tv g))) 66 (upd ((hs h 66 (upd (h 66) (4 * D + 0) (tv g))) 66) (4 * D + 1) (-1))) 66) (4 * D + 2) (-1))) 66 (upd ((hs (hs (hs h 66 (upd (h 66) (4 * D + 0) (tv g))) 66 (upd ((hs h 66 (upd (h 66) (4 * D + 0) (tv g))) 66) (4 * D + 1) (-1))) 66 (upd ((hs (hs h 66 (upd (h 66) (4 * D + 0) (tv g))) 66 (upd ((hs h 66 (upd (h 66) (4 * D + 0) (tv g))) 66) (4 * D + 1) (-1))) 66) (4 * D + 2) (-1))) 66) (4 * D + 3) (-1))) 67) D (nI m))) 68 (upd ((hs (hs (hs (hs (hs h 66 (upd (h 66) (4 * D + 0) (tv g))) 66 (upd ((hs h 66 (upd (h 66) (4 * D + 0) (tv g))) 66) (4 * D + 1) (-1))) 66 (upd ((hs (hs h 66 (upd (h 66) (4 * D + 0) (tv g))) 66 (upd ((hs h 66 (upd (h 66) (4 * D + 0) (tv g))) 66) (4 * D + 1) (-1))) 66) (4 * D + 2) (-1))) 66 (upd ((hs (hs (hs h 66 (upd (h 66) (4 * D + 0) (tv g))) 66 (upd ((hs h 66 (upd (h 66) (4 * D + 0) (tv g))) 66) (4 * D + 1) (-1))) 66 (upd ((hs (hs h 66 (upd (h 66) (4 * D + 0) (tv g))) 66 (upd ((hs h 66 (upd (h 66) (4 * D + 0) (tv g))) 66) (4 * D + 1) (-1))) 66) (4 * D + 2) (-1))) 66) (4 * D + 3) (-1))) 67 (upd ((hs (hs (hs (hs h 66 (upd (h 66) (4 * D + 0) (tv g))) 66 (upd ((hs h 66 (upd (h 66) (4 * D + 0) (tv g))) 66) (4 * D + 1) (-1))) 66 (upd ((hs (hs h 66 (upd (h 66) (4 * D + 0) (tv g))) 66 (upd ((hs h 66 (upd (h 66) (4 * D + 0) (tv g))) 66) (4 * D + 1) (-1))) 66) (4 * D + 2) (-1))) 66 (upd ((hs (hs (hs h 66 (upd (h 66) (4 * D + 0) (tv g))) 66 (upd ((hs h 66 (upd (h 66) (4 * D + 0) (tv g))) 66) (4 * D + 1) (-1))) 66 (upd ((hs (hs h 66 (upd (h 66) (4 * D + 0) (tv g))) 66 (upd ((hs h 66 (upd (h 66) (4 * D + 0) (tv g))) 66) (4 * D + 1) (-1))) 66) (4 * D + 2) (-1))) 66) (4 * D + 3) (-1))) 67) D (nI m))) 68) D (nI 0))) 69) D (nI (R.1 3)))) 70 (upd ((hs (hs (hs (hs (hs (hs (hs h 66 (upd (h 66) (4 * D + 0) (tv g))) 66 (upd ((hs h 66 (upd (h 66) (4 * D + 0) (tv g))) 66) (4 * D + 1) (-1))) 66 (upd ((hs (hs h 66 (upd (h 66) (4 * D + 0) (tv g))) 66 (upd ((hs h 66 (upd (h 66) (4 * D + 0) (tv g))) 66) (4 * D + 1) (-1))) 66) (4 * D + 2) (-1))) 66 (upd ((hs (hs (hs h 66 (upd (h 66) (4 * D + 0) (tv g))) 66 (upd ((hs h 66 (upd (h 66) (4 * D + 0) (tv g))) 66) (4 * D + 1) (-1))) 66 (upd ((hs (hs h 66 (upd (h 66) (4 * D + 0) (tv g))) 66 (upd ((hs h 66 (upd (h 66) (4 * D + 0) (tv g))) 66) (4 * D + 1) (-1))) 66) (4 * D + 2) (-1))) 66) (4 * D + 3) (-1))) 67 (upd ((hs (hs (hs (hs h 66 (upd (h 66) (4 * D + 0) (tv g))) 66 (upd ((hs h 66 (upd (h 66) (4 * D + 0) (tv g))) 66) (4 * D + 1) (-1))) 66 (upd ((hs (hs h 66 (upd (h 66) (4 * D + 0) (tv g))) 66 (upd ((hs h 66 (upd (h 66) (4 * D + 0) (tv g))) 66) (4 * D + 1) (-1))) 66) (4 * D + 2) (-1))) 66 (upd ((hs (hs (hs h 66 (upd (h 66) (4 * D + 0) (tv g))) 66 (upd ((hs h 66 (upd (h 66) (4 * D + 0) (tv g))) 66) (4 * D + 1) (-1))) 66 (upd ((hs (hs h 66 (upd (h 66) (4 * D + 0) (tv g))) 66 (upd ((hs h 66 (upd (h 66) (4 * D + 0) (tv g))) 66) (4 * D + 1) (-1))) 66) (4 * D + 2) (-1))) 66) (4 * D + 3) (-1))) 67) D (nI m))) 68 (upd ((hs (hs (hs (hs (hs h 66 (upd (h 66) (4 * D + 0) (tv g))) 66 (upd ((hs h 66 (upd (h 66) (4 * D + 0) (tv g))) 66) (4 * D + 1) (-1))) 66 (upd ((hs (hs h 66 (upd (h 66) (4 * D + 0) (tv g))) 66 (upd ((hs h 66 (upd (h 66) (4 * D + 0) (tv g))) 66) (4 * D + 1) (-1))) 66) (4 * D + 2) (-1))) 66 (upd ((hs (hs (hs h 66 (upd (h 66) (4 * D + 0) (tv g))) 66 (upd ((hs h 66 (upd (h 66) (4 * D + 0) (tv g))) 66) (4 * D + 1) (-1))) 66 (upd ((hs (hs h 66 (upd (h 66) (4 * D + 0) (tv g))) 66 (upd ((hs h 66 (upd (h 66) (4 * D + 0) (tv g))) 66) (4 * D + 1) (-1))) 66) (4 * D + 2) (-1))) 66) (4 * D + 3) (-1))) 67 (upd ((hs (hs (hs (hs h 66 (upd (h 66) (4 * D + 0) (tv g))) 66 (upd ((hs h 66 (upd (h 66) (4 * D + 0) (tv g))) 66) (4 * D + 1) (-1))) 66 (upd ((hs (hs h 66 (upd (h 66) (4 * D + 0) (tv g))) 66 (upd ((hs h 66 (upd (h 66) (4 * D + 0) (tv g))) 66) (4 * D + 1) (-1))) 66) (4 * D + 2) (-1))) 66 (upd ((hs (hs (hs h 66 (upd (h 66) (4 * D + 0) (tv g))) 66 (upd ((hs h 66 (upd (h 66) (4 * D + 0) (tv g))) 66) (4 * D + 1) (-1))) 66 (upd ((hs (hs h 66 (upd (h 66) (4 * D + 0) (tv g))) 66 (upd ((hs h 66 (upd (h 66) (4 * D + 0) (tv g))) 66) (4 * D + 1) (-1))) 66) (4 * D + 2) (-1))) 66) (4 * D + 3) (-1))) 67) D (nI m))) 68) D (nI 0))) 69 (upd ((hs (hs (hs (hs (hs (hs h 66 (upd (h 66) (4 * D + 0) (tv g))) 66 (upd ((hs h 66 (upd (h 66) (4 * D + 0) (tv g))) 66) (4 * D + 1) (-1))) 66 (upd ((hs (hs h 66 (upd (h 66) (4 * D + 0) (tv g))) 66 (upd ((hs h 66 (upd (h 66) (4 * D + 0) (tv g))) 66) (4 * D + 1) (-1))) 66) (4 * D + 2) (-1))) 66 (upd ((hs (hs (hs h 66 (upd (h 66) (4 * D + 0) (tv g))) 66 (upd ((hs h 66 (upd (h 66) (4 * D + 0) (tv g))) 66) (4 * D + 1) (-1))) 66 (upd ((hs (hs h 66 (upd (h 66) (4 * D + 0) (tv g))) 66 (upd ((hs h 66 (upd (h 66) (4 * D + 0) (tv g))) 66) (4 * D + 1) (-1))) 66) (4 * D + 2) (-1))) 66) (4 * D + 3) (-1))) 67 (upd ((hs (hs (hs (hs h 66 (upd (h 66) (4 * D + 0) (tv g))) 66 (upd ((hs h 66 (upd (h 66) (4 * D + 0) (tv g))) 66) (4 * D + 1) (-1))) 66 (upd ((hs (hs h 66 (upd (h 66) (4 * D + 0) (tv g))) 66 (upd ((hs h 66 (upd (h 66) (4 * D + 0) (tv g))) 66) (4 * D + 1) (-1))) 66) (4 * D + 2) (-1))) 66 (upd ((hs (hs (hs h 66 (upd (h 66) (4 * D + 0) (tv g))) 66 (upd ((hs h 66 (upd (h 66) (4 * D + 0) (tv g))) 66) (4 * D + 1) (-1))) 66 (upd ((hs (hs h 66 (upd (h 66) (4 * D + 0) (tv g))) 66 (upd ((hs h 66 (upd (h 66) (4 * D + 0) (tv g))) 66) (4 * D + 1) (-1))) 66) (4 * D + 2) (-1))) 66) (4 * D + 3) (-1))) 67) D (nI m))) 68 (upd ((hs (hs (hs (hs (hs h 66 (upd (h 66) (4 * D + 0) (tv g))) 66 (upd ((hs h 66 (upd (h 66) (4 * D + 0) (tv g))) 66) (4 * D + 1) (-1))) 66 (upd ((hs (hs h 66 (upd (h 66) (4 * D + 0) (tv g))) 66 (upd ((hs h 66 (upd (h 66) (4 * D + 0) (tv g))) 66) (4 * D + 1) (-1))) 66) (4 * D + 2) (-1))) 66 (upd ((hs (hs (hs h 66 (upd (h 66) (4 * D + 0) (tv g))) 66 (upd ((hs h 66 (upd (h 66) (4 * D + 0) (tv g))) 66) (4 * D + 1) (-1))) 66 (upd ((hs (hs h 66 (upd (h 66) (4 * D + 0) (tv g))) 66 (upd ((hs h 66 (upd (h 66) (4 * D + 0) (tv g))) 66) (4 * D + 1) (-1))) 66) (4 * D + 2) (-1))) 66) (4 * D + 3) (-1))) 67 (upd ((hs (hs (hs (hs h 66 (upd (h 66) (4 * D + 0) (tv g))) 66 (upd ((hs h 66 (upd (h 66) (4 * D + 0) (tv g))) 66) (4 * D + 1) (-1))) 66 (upd ((hs (hs h 66 (upd (h 66) (4 * D + 0) (tv g))) 66 (upd ((hs h 66 (upd (h 66) (4 * D + 0) (tv g))) 66) (4 * D + 1) (-1))) 66) (4 * D + 2) (-1))) 66 (upd ((hs (hs (hs h 66 (upd (h 66) (4 * D + 0) (tv g))) 66 (upd ((hs h 66 (upd (h 66) (4 * D + 0) (tv g))) 66) (4 * D + 1) (-1))) 66 (upd ((hs (hs h 66 (upd (h 66) (4 * D + 0) (tv g))) 66 (upd ((hs h 66 (upd (h 66) (4 * D + 0) (tv g))) 66) (4 * D + 1) (-1))) 66) (4 * D + 2) (-1))) 66) (4 * D + 3) (-1))) 67) D (nI m))) 68) D (nI 0))) 69) D (nI (R.1 3)))) 70) D (tv g))) 71) D (nI (R.1 0)))) 50) 39 (nI (R.1 3 + 1)))) 50) 35 (nI (D + 1)))) := ⟨_, rfl⟩
  rw [← ez]
  exact tr_vret (pc := 111) dX10_call_111 rfl (by
      have a50 : ∀ k, k ≠ 35 → k ≠ 39 → hz 50 k = h 50 k := fun k k1 k2 => by
        rw [ez, hs_same, upd_n k1, hs_same, upd_n k2]; rfl
      have ao : ∀ j, j ∉ [50, 66, 67, 68, 69, 70, 71] → hz j = h j := fun j hj => by
        simp only [List.mem_cons, List.not_mem_nil, or_false, not_or] at hj
        rw [ez]
        repeat rw [hs_ne (by omega)]
      have a66 : hz 66 = upd (upd (upd (upd (h 66) (4 * D + 0) (tv g)) (4 * D + 1) (-1)) (4 * D + 2) (-1)) (4 * D + 3) (-1) := by rw [ez]; rfl
      have a67 : hz 67 = upd (h 67) D (nI m) := by rw [ez]; rfl
      have a68 : hz 68 = upd (h 68) D (nI 0) := by rw [ez]; rfl
      have a69 : hz 69 = upd (h 69) D (nI (R.1 3)) := by rw [ez]; rfl
      have a70 : hz 70 = upd (h 70) D (tv g) := by rw [ez]; rfl
      have a71 : hz 71 = upd (h 71) D (nI (R.1 0)) := by rw [ez]; rfl
      refine ⟨rfl, rfl, by rw [ez, hs_same, upd_s], a50 36 (by decide) (by decide), ?_, ⟨?_, fun x hx => ?_⟩, ⟨fun j hj => ?_, fun j hj => ?_⟩, ao 65 (by decide), ⟨fun j j1 j2 => ?_, fun k hk => ?_⟩⟩
      · obtain ⟨⟨t1, t2, t3, t4, t5, t6⟩, tt, ts⟩ := hT
        have s1 : (rCall R).1 1 = R.1 1 := by simp [rCall, un]
        have s2 : (rCall R).1 2 = R.1 2 := by simp [rCall, un]
        have s4 : (rCall R).1 4 = R.1 4 := by simp [rCall, un]
        unfold MH
        rw [rc_0, rc_3, s1, s2, s4, ao 62 (by decide), ao 63 (by decide), ao 64 (by decide), ao 73 (by decide), ao 74 (by decide), ao 75 (by decide), a50 27 (by decide) (by decide), a50 28 (by decide) (by decide), a50 37 (by decide) (by decide), a50 38 (by decide) (by decide), a50 40 (by decide) (by decide)]
        exact ⟨⟨t1, t2, t3, t4, by rw [ez]; rfl, t6⟩, tt, ts⟩
      · rw [a67, a68, a69, a70, a71, upd_s, upd_s, upd_s, upd_s, upd_s]; exact ⟨rfl, rfl, rfl, rfl, rfl⟩
      · rw [a66]
        match x, hx with
        | 0, _ => rw [upd_n (by omega), upd_n (by omega), upd_n (by omega), upd_s]; rfl
        | 1, _ => rw [upd_n (by omega), upd_n (by omega), upd_s]; rfl
        | 2, _ => rw [upd_n (by omega), upd_s]; rfl
        | 3, _ => rw [upd_s]; rfl
      · rw [a67, a68, a69, a70, a71, upd_n (by omega), upd_n (by omega), upd_n (by omega), upd_n (by omega), upd_n (by omega)]; exact ⟨rfl, rfl, rfl, rfl, rfl⟩
      · rw [a66, upd_n (by omega), upd_n (by omega), upd_n (by omega), upd_n (by omega)]
      · refine ao j (fun z => ?_)
        simp only [mL, List.mem_cons, List.not_mem_nil, or_false, not_or] at z j2
        omega
      · simp only [mF, List.mem_cons, List.not_mem_nil, or_false, not_or] at hk
        exact a50 k (by omega) (by omega))

theorem c_msort {a : Am} {S : St} {h : Hp} (hS : IsSt S) {P : Prog} (hV : VB P) (hN : NP h P) {m i q : Nat} (hi : i < lnN P m) (hq : (gt P m i).1 = q) : CT a 0 mX10_lineAt [rv a 50, .int (nI m), .int (nI i), .int (nI 0)] S h (Rt (nI q) S h) := by
  rw [← hq]
  exact c_mline hS hV hN hi (show 0 < 4 by decide)
theorem c_moth {a : Am} {S : St} {h : Hp} (hS : IsSt S) {P : Prog} (hV : VB P) (hN : NP h P) {m i : Nat} (hi : i < lnN P m) (hq : hasY (gt P m i).1 = true) : CT a 0 mX10_lineAt [rv a 50, .int (nI m), .int (nI i), .int (nI 2)] S h (Rt (nI (gt P m i).2.2.1) S h) := by
  have z := c_mline (a := a) hS hV hN hi (show 2 < 4 by decide)
  have e : cmp (gt P m i) 2 = nI (gt P m i).2.2.1 := by show (if _ then _ else _) = _; rw [if_pos hq]
  rw [e] at z
  exact z
theorem c_mcalle {a : Am} {S : St} {h : Hp} (hS : IsSt S) {P : Prog} (hV : VB P) (hN : NP h P) {m i : Nat} (hi : i < lnN P m) (hq : (gt P m i).1 = 7) : CT a 0 mX10_lineAt [rv a 50, .int (nI m), .int (nI i), .int (nI 3)] S h (Rt (nI (gt P m i).2.2.2) S h) := by
  have z := c_mline (a := a) hS hV hN hi (show 3 < 4 by decide)
  have e : cmp (gt P m i) 3 = nI (gt P m i).2.2.2 := by show (if _ then _ else _) = _; rw [if_pos hq]
  rw [e] at z
  exact z
/-- behind a step of a line that is no call -/
def StX (h h' : Hp) (R : RS) (X : LnS) (D m i c : Nat) (g : OT) (fs : Nat) : Prop := Fm mF mL h h' ∧ MH h' X.1 ∧ (X.2.2 = true → h' 50 36 = nI 1) ∧ (X.2.2 = false → h' 50 35 = nI (D + 1) ∧ h' 50 36 = nI 0 ∧ FA h' D m (i + 1) c g fs X.2.1 ∧ Lw D h h' ∧ MB X.1 (h' 65) ∧ ∀ c0, MKp c0 R X.1 (h 65) (h' 65))
theorem fa_n {h h' : Hp} {D m i c fs : Nat} {g : OT} {E : Nat → OT} (hF : FA h D m i c g fs E) (e6 : h' 66 = h 66) (e7 : h' 67 = h 67) (e8 : h' 68 = upd (h 68) D (nI (i + 1))) (e9 : h' 69 = h 69) (e0 : h' 70 = h 70) (e1 : h' 71 = h 71) : FA h' D m (i + 1) c g fs E ∧ Lw D h h' := by
  refine ⟨⟨?_, fun x hx => ?_⟩, fun j hj => ?_, fun j hj => ?_⟩
  · rw [e7, e8, e9, e0, e1, upd_s]; exact ⟨hF.1.1, rfl, hF.1.2.2⟩
  · rw [e6]; exact hF.2 x hx
  · rw [e7, e8, e9, e0, e1, upd_n (by omega)]; exact ⟨rfl, rfl, rfl, rfl, rfl⟩
  · rw [e6]
theorem fa_u {h h' : Hp} {D m i c fs x : Nat} {g v : OT} {E : Nat → OT} (hF : FA h D m i c g fs E) (hx : x < 4) (e6 : h' 66 = upd (h 66) (4 * D + x) (tv v)) (e7 : h' 67 = h 67) (e8 : h' 68 = upd (h 68) D (nI (i + 1))) (e9 : h' 69 = h 69) (e0 : h' 70 = h 70) (e1 : h' 71 = h 71) : FA h' D m (i + 1) c g fs (uo E x v) ∧ Lw D h h' := by
  refine ⟨⟨?_, fun y hy => ?_⟩, fun j hj => ?_, fun j hj => ?_⟩
  · rw [e7, e8, e9, e0, e1, upd_s]; exact ⟨hF.1.1, rfl, hF.1.2.2⟩
  · rw [e6]
    by_cases e : y = x
    · subst e; rw [upd_s, uo_s]
    · rw [upd_n (by omega), uo_n e]; exact hF.2 y hy
  · rw [e7, e8, e9, e0, e1, upd_n (by omega)]; exact ⟨rfl, rfl, rfl, rfl, rfl⟩
  · rw [e6, upd_n (by omega)]
set_option maxHeartbeats 4000000 in
set_option maxRecDepth 100000 in
theorem c_mst1 {a : Am} {S : St} {h : Hp} (hS : IsSt S) {P : Prog} (hV : VB P) (hN : NP h P) (hSN : SN h P) {R : RS} (hT : MH h R) (hW : WF P R) (hn : R.1 0 < 4096) {D m i c fs : Nat} {g : OT} {E : Nat → OT} (hi : i < lnN P m) (hD : h 50 35 = nI (D + 1)) (hD4 : D < 4) (hfl : h 50 36 = nI 0) (hF : FA h D m i c g fs E) (hE : WE R E) (hB : MB R (h 65)) (hid : h 72 m = idl P m) {cal : Nat → OT → RS → CR} (hq : (gt P m i).1 = 1) : CT a 2 mX10_step [rv a 50] S h (fun v S' h' => v = none ∧ S = S' ∧ StX h h' R (doL cal P m c i R E) D m i c g fs) := by
  have hm := lnN_lt hi
  obtain ⟨hV1, hV2, hV3⟩ := id hV
  obtain ⟨k1, k2, k3, k4⟩ := hV3 m i hi
  have h8 := hV2 m
  have hns := nSt_le hV
  refine met_of (by decide +kernel) (Nat.le_of_ble_eq_true rfl) ?_
  show T a 2 mX10_step 0 [(0, rv a 50)] [] S h _
  refine tr_aload_n (pc := 0) 0 dX10_step_0 rfl rfl ?_
  refine tr_getI (pc := 1) (x := nI (D + 1)) dX10_step_1 (hS.1 50 (13, 45) rfl) fi_X10_230 rfl hD ?_
  refine tr_iconst (pc := 4) (v := nI 1) dX10_step_4 (by decide) ?_
  refine tr_isub (pc := 5) (v := nI D) dX10_step_5 (by rw [pk_sub (by omega)]; rfl) ?_
  refine tr_istore_n (pc := 6) (lv' := [(1, .int (nI D)), (0, rv a 50)]) dX10_step_6 rfl (by decide) rfl ?_
  refine tr_aload_n (pc := 7) 1 dX10_step_7 rfl rfl ?_
  refine tr_getR (pc := 8) (q := 67) dX10_step_8 (hS.1 50 (13, 45) rfl) fi_X10_58 rfl (hS.2 50 30 67 rfl) ?_
  refine tr_iload_n (pc := 11) 0 dX10_step_11 rfl rfl ?_
  refine tr_iald (pc := 12) (v := nI m) D dX10_step_12 (hS.1 67 (0, 4) rfl) rfl (by omega) (by decide) hF.1.1 ?_
  refine tr_istore_n (pc := 13) (lv' := [(2, .int (nI m)), (1, .int (nI D)), (0, rv a 50)]) dX10_step_13 rfl (by decide) rfl ?_
  refine tr_aload_n (pc := 14) 2 dX10_step_14 rfl rfl ?_
  refine tr_getR (pc := 15) (q := 68) dX10_step_15 (hS.1 50 (13, 45) rfl) fi_X10_61 rfl (hS.2 50 31 68 rfl) ?_
  refine tr_iload_n (pc := 18) 1 dX10_step_18 rfl rfl ?_
  refine tr_iald (pc := 19) (v := nI i) D dX10_step_19 (hS.1 68 (0, 4) rfl) rfl (by omega) (by decide) hF.1.2.1 ?_
  refine tr_istore_n (pc := 20) (lv' := [(3, .int (nI i)), (2, .int (nI m)), (1, .int (nI D)), (0, rv a 50)]) dX10_step_20 rfl (by decide) rfl ?_
  refine tr_iload_n (pc := 21) 0 dX10_step_21 rfl rfl ?_
  refine tr_aload_n (pc := 22) 3 dX10_step_22 rfl rfl ?_
  refine tr_iload_n (pc := 23) 1 dX10_step_23 rfl rfl ?_
  refine tr_callV (pc := 24) (rest := [.int (nI i)]) (ci := 10) dX10_step_24 ml_X10_168 cv_X10_linesOf rfl rfl (Nat.le_of_ble_eq_true rfl) (hS.1 50 (13, 45) rfl) rfl (by decide) (c_mlines hS hV hN hm) ?_
  rintro _ _ _ ⟨rfl, rfl, rfl⟩
  show T a 2 mX10_step 27 [(3, .int (nI i)), (2, .int (nI m)), (1, .int (nI D)), (0, rv a 50)] [.int (nI (lnN P m)), .int (nI i)] S h _
  refine tr_icmp_ne (pc := 27) (tgt := 35) dX10_step_27 (by decide) (nI_eq (by omega) (by omega)) (fun _ => ?_) (fun hcc => absurd hcc (by omega))
  refine tr_aload_n (pc := 35) 3 dX10_step_35 rfl rfl ?_
  refine tr_getR (pc := 36) (q := 68) dX10_step_36 (hS.1 50 (13, 45) rfl) fi_X10_61 rfl (hS.2 50 31 68 rfl) ?_
  refine tr_iload_n (pc := 39) 2 dX10_step_39 rfl rfl ?_
  refine tr_dup2 (pc := 40) dX10_step_40 rfl rfl ?_
  refine tr_iald (pc := 41) (v := nI i) D dX10_step_41 (hS.1 68 (0, 4) rfl) rfl (by omega) (by decide) hF.1.2.1 ?_
  refine tr_iconst (pc := 42) (v := nI 1) dX10_step_42 (by decide) ?_
  refine tr_iadd (pc := 43) (v := nI (i + 1)) dX10_step_43 (nI_add _ _) ?_
  refine tr_iast (pc := 44) D dX10_step_44 (hS.1 68 (0, 4) rfl) rfl (by omega) (by decide) ?_
  have hN1 : NP (hs h 68 (upd (h 68) D (nI (i + 1)))) P := hN
  refine tr_aload_n (pc := 45) 3 dX10_step_45 rfl rfl ?_
  refine tr_iload_n (pc := 46) 1 dX10_step_46 rfl rfl ?_
  refine tr_iload_n (pc := 47) 0 dX10_step_47 rfl rfl ?_
  refine tr_iconst (pc := 48) (v := nI 0) dX10_step_48 (by decide) ?_
  refine tr_callV (pc := 49) (rest := []) (ci := 10) dX10_step_49 ml_X10_178 cv_X10_lineAt rfl rfl (Nat.le_of_ble_eq_true rfl) (hS.1 50 (13, 45) rfl) rfl (by decide) (c_msort hS hV hN1 hi hq) ?_
  rintro _ _ _ ⟨rfl, rfl, rfl⟩
  show T a 2 mX10_step 52 [(3, .int (nI i)), (2, .int (nI m)), (1, .int (nI D)), (0, rv a 50)] [.int (nI 1)] S (hs h 68 (upd (h 68) D (nI (i + 1)))) _
  refine tr_istore (pc := 52) (lv' := [(4, .int (nI 1)), (3, .int (nI i)), (2, .int (nI m)), (1, .int (nI D)), (0, rv a 50)]) dX10_step_52 (by decide) rfl ?_
  refine tr_iconst (pc := 54) (v := nI 4) dX10_step_54 (by decide) ?_
  refine tr_iload_n (pc := 55) 3 dX10_step_55 rfl rfl ?_
  refine tr_imul (pc := 56) (v := nI (4 * D)) dX10_step_56 (pk_mul _ _) ?_
  refine tr_aload_n (pc := 57) 4 dX10_step_57 rfl rfl ?_
  refine tr_iload_n (pc := 58) 2 dX10_step_58 rfl rfl ?_
  refine tr_iload_n (pc := 59) 1 dX10_step_59 rfl rfl ?_
  refine tr_iconst (pc := 60) (v := nI 1) dX10_step_60 (by decide) ?_
  refine tr_callV (pc := 61) (rest := [.int (nI (4 * D))]) (ci := 10) dX10_step_61 ml_X10_178 cv_X10_lineAt rfl rfl (Nat.le_of_ble_eq_true rfl) (hS.1 50 (13, 45) rfl) rfl (by decide) (c_mline hS hV hN1 hi (show 1 < 4 by decide)) ?_
  rintro _ _ _ ⟨rfl, rfl, rfl⟩
  show T a 2 mX10_step 64 [(4, .int (nI 1)), (3, .int (nI i)), (2, .int (nI m)), (1, .int (nI D)), (0, rv a 50)] [.int (nI ((gt P m i).2.1)), .int (nI (4 * D))] S (hs h 68 (upd (h 68) D (nI (i + 1)))) _
  refine tr_iadd (pc := 64) (v := nI (4 * D + ((gt P m i).2.1))) dX10_step_64 (nI_add _ _) ?_
  refine tr_istore (pc := 65) (lv' := [(5, .int (nI (4 * D + ((gt P m i).2.1)))), (4, .int (nI 1)), (3, .int (nI i)), (2, .int (nI m)), (1, .int (nI D)), (0, rv a 50)]) dX10_step_65 (by decide) rfl ?_
  refine tr_iload (pc := 67) 1 dX10_step_67 rfl ?_
  refine tr_iconst (pc := 69) (v := nI 1) dX10_step_69 (by decide) ?_
  refine tr_icmp_eq (pc := 70) (tgt := 92) dX10_step_70 (by decide) (nI_eq (by omega) (by omega)) (fun _ => ?_) (fun hcc => absurd (by decide) hcc)
  refine tr_aload_n (pc := 92) 5 dX10_step_92 rfl rfl ?_
  refine tr_getR (pc := 93) (q := 66) dX10_step_93 (hS.1 50 (13, 45) rfl) fi_X10_55 rfl (hS.2 50 29 66 rfl) ?_
  refine tr_iconst (pc := 96) (v := nI 4) dX10_step_96 (by decide) ?_
  refine tr_iload_n (pc := 97) 4 dX10_step_97 rfl rfl ?_
  refine tr_imul (pc := 98) (v := nI (4 * D)) dX10_step_98 (pk_mul _ _) ?_
  refine tr_aload_n (pc := 99) 5 dX10_step_99 rfl rfl ?_
  refine tr_iload_n (pc := 100) 3 dX10_step_100 rfl rfl ?_
  refine tr_iload_n (pc := 101) 2 dX10_step_101 rfl rfl ?_
  refine tr_iconst (pc := 102) (v := nI 2) dX10_step_102 (by decide) ?_
  refine tr_callV (pc := 103) (rest := [.int (nI (4 * D)), rv a 66]) (ci := 10) dX10_step_103 ml_X10_178 cv_X10_lineAt rfl rfl (Nat.le_of_ble_eq_true rfl) (hS.1 50 (13, 45) rfl) rfl (by decide) (c_moth hS hV hN1 hi (by rw [hq]; rfl)) ?_
  rintro _ _ _ ⟨rfl, rfl, rfl⟩
  show T a 2 mX10_step 106 [(5, .int (nI (4 * D + ((gt P m i).2.1)))), (4, .int (nI 1)), (3, .int (nI i)), (2, .int (nI m)), (1, .int (nI D)), (0, rv a 50)] [.int (nI ((gt P m i).2.2.1)), .int (nI (4 * D)), rv a 66] S (hs h 68 (upd (h 68) D (nI (i + 1)))) _
  refine tr_iadd (pc := 106) (v := nI (4 * D + ((gt P m i).2.2.1))) dX10_step_106 (nI_add _ _) ?_
  refine tr_iald (pc := 107) (v := tv (E (gt P m i).2.2.1)) (4 * D + ((gt P m i).2.2.1)) dX10_step_107 (hS.1 66 (0, 16) rfl) rfl (by omega) (by decide) (hF.2 _ k3) ?_
  refine tr_goto (pc := 108) (tgt := 112) dX10_step_108 (by decide) ?_
  refine tr_istore (pc := 112) (lv' := [(6, .int (tv (E (gt P m i).2.2.1))), (5, .int (nI (4 * D + ((gt P m i).2.1)))), (4, .int (nI 1)), (3, .int (nI i)), (2, .int (nI m)), (1, .int (nI D)), (0, rv a 50)]) dX10_step_112 (by decide) rfl ?_
  refine tr_aload_n (pc := 114) 6 dX10_step_114 rfl rfl ?_
  refine tr_iload (pc := 115) 2 dX10_step_115 rfl ?_
  refine tr_iconst (pc := 117) (v := nI 2) dX10_step_117 (by decide) ?_
  refine tr_icmp_eq (pc := 118) (tgt := 128) dX10_step_118 (by decide) (nI_eq (by omega) (by omega)) (fun hcc => absurd hcc (by decide)) (fun _ => ?_)
  refine tr_iload (pc := 121) 2 dX10_step_121 rfl ?_
  refine tr_bipush (pc := 123) (v := nI 6) dX10_step_123 (by decide) ?_
  refine tr_icmp_ne (pc := 125) (tgt := 139) dX10_step_125 (by decide) (nI_eq (by omega) (by omega)) (fun _ => ?_) (fun hcc => absurd hcc (by decide))
  refine tr_iload (pc := 139) 2 dX10_step_139 rfl ?_
  refine tr_iconst (pc := 141) (v := nI 3) dX10_step_141 (by decide) ?_
  refine tr_icmp_ne (pc := 142) (tgt := 155) dX10_step_142 (by decide) (nI_eq (by omega) (by omega)) (fun _ => ?_) (fun hcc => absurd hcc (by decide))
  refine tr_iconst (pc := 155) (v := nI 0) dX10_step_155 (by decide) ?_
  refine tr_putI (pc := 156) (x := nI 0) dX10_step_156 (hS.1 50 (13, 45) rfl) fi_X10_257 rfl (by decide) (by decide) ?_
  refine tr_aload_n (pc := 159) 6 dX10_step_159 rfl rfl ?_
  refine tr_getI (pc := 160) (x := nI 0) dX10_step_160 (hS.1 50 (13, 45) rfl) fi_X10_257 rfl rfl ?_
  refine tr_if_eq (pc := 163) (tgt := 167) dX10_step_163 (by decide) (nI_z_eq (by omega)) (fun _ => ?_) (fun hcc => absurd (by decide) hcc)
  refine tr_iload (pc := 167) 2 dX10_step_167 rfl ?_
  refine tr_tabIn (pc := 169) (off := 68) (tgt := 237) dX10_step_169 (by decide) (by decide) (by decide) (by decide) ?_
  refine tr_aload_n (pc := 237) 6 dX10_step_237 rfl rfl ?_
  refine tr_getR (pc := 238) (q := 66) dX10_step_238 (hS.1 50 (13, 45) rfl) fi_X10_55 rfl (hS.2 50 29 66 rfl) ?_
  refine tr_iload (pc := 241) 1 dX10_step_241 rfl ?_
  refine tr_iload (pc := 243) 0 dX10_step_243 rfl ?_
  refine tr_iast (pc := 245) (4 * D + ((gt P m i).2.1)) dX10_step_245 (hS.1 66 (0, 16) rfl) rfl (by omega) (by decide) ?_
  refine tr_goto (pc := 246) (tgt := 340) dX10_step_246 (by decide) ?_
  exact tr_vret (pc := 340) dX10_step_340 rfl (by
      refine ⟨rfl, rfl, ?_⟩
      rw [show doL cal P m c i R E = (R, uo E (gt P m i).2.1 (E (gt P m i).2.2.1), false) from by simp only [doL, hq]]
      refine ⟨(by repeat (first | exact Fm.rf | refine Fm.put ?_ (by decide) | refine Fm.set ?_ (by decide) (by decide))), hT, (fun z => by cases z), fun _ => ?_⟩
      obtain ⟨z1, z2⟩ := fa_u (x := (gt P m i).2.1) (v := E (gt P m i).2.2.1) (h' := (hs (hs (hs h 68 (upd (h 68) D (nI (i + 1)))) 50 (upd ((hs h 68 (upd (h 68) D (nI (i + 1)))) 50) 36 (nI 0))) 66 (upd ((hs (hs h 68 (upd (h 68) D (nI (i + 1)))) 50 (upd ((hs h 68 (upd (h 68) D (nI (i + 1)))) 50) 36 (nI 0))) 66) (4 * D + ((gt P m i).2.1)) (tv (E (gt P m i).2.2.1))))) hF k2 rfl rfl rfl rfl rfl rfl
      exact ⟨hD, rfl, z1, z2, hB, fun _ => MKp.same rfl rfl⟩)

set_option maxHeartbeats 4000000 in
set_option maxRecDepth 100000 in
theorem c_mst4 {a : Am} {S : St} {h : Hp} (hS : IsSt S) {P : Prog} (hV : VB P) (hN : NP h P) (hSN : SN h P) {R : RS} (hT : MH h R) (hW : WF P R) (hn : R.1 0 < 4096) {D m i c fs : Nat} {g : OT} {E : Nat → OT} (hi : i < lnN P m) (hD : h 50 35 = nI (D + 1)) (hD4 : D < 4) (hfl : h 50 36 = nI 0) (hF : FA h D m i c g fs E) (hE : WE R E) (hB : MB R (h 65)) (hid : h 72 m = idl P m) {cal : Nat → OT → RS → CR} (hq : (gt P m i).1 = 4) : CT a 2 mX10_step [rv a 50] S h (fun v S' h' => v = none ∧ S = S' ∧ StX h h' R (doL cal P m c i R E) D m i c g fs) := by
  have hm := lnN_lt hi
  obtain ⟨hV1, hV2, hV3⟩ := id hV
  obtain ⟨k1, k2, k3, k4⟩ := hV3 m i hi
  have h8 := hV2 m
  have hns := nSt_le hV
  refine met_of (by decide +kernel) (Nat.le_of_ble_eq_true rfl) ?_
  show T a 2 mX10_step 0 [(0, rv a 50)] [] S h _
  refine tr_aload_n (pc := 0) 0 dX10_step_0 rfl rfl ?_
  refine tr_getI (pc := 1) (x := nI (D + 1)) dX10_step_1 (hS.1 50 (13, 45) rfl) fi_X10_230 rfl hD ?_
  refine tr_iconst (pc := 4) (v := nI 1) dX10_step_4 (by decide) ?_
  refine tr_isub (pc := 5) (v := nI D) dX10_step_5 (by rw [pk_sub (by omega)]; rfl) ?_
  refine tr_istore_n (pc := 6) (lv' := [(1, .int (nI D)), (0, rv a 50)]) dX10_step_6 rfl (by decide) rfl ?_
  refine tr_aload_n (pc := 7) 1 dX10_step_7 rfl rfl ?_
  refine tr_getR (pc := 8) (q := 67) dX10_step_8 (hS.1 50 (13, 45) rfl) fi_X10_58 rfl (hS.2 50 30 67 rfl) ?_
  refine tr_iload_n (pc := 11) 0 dX10_step_11 rfl rfl ?_
  refine tr_iald (pc := 12) (v := nI m) D dX10_step_12 (hS.1 67 (0, 4) rfl) rfl (by omega) (by decide) hF.1.1 ?_
  refine tr_istore_n (pc := 13) (lv' := [(2, .int (nI m)), (1, .int (nI D)), (0, rv a 50)]) dX10_step_13 rfl (by decide) rfl ?_
  refine tr_aload_n (pc := 14) 2 dX10_step_14 rfl rfl ?_
  refine tr_getR (pc := 15) (q := 68) dX10_step_15 (hS.1 50 (13, 45) rfl) fi_X10_61 rfl (hS.2 50 31 68 rfl) ?_
  refine tr_iload_n (pc := 18) 1 dX10_step_18 rfl rfl ?_
  refine tr_iald (pc := 19) (v := nI i) D dX10_step_19 (hS.1 68 (0, 4) rfl) rfl (by omega) (by decide) hF.1.2.1 ?_
  refine tr_istore_n (pc := 20) (lv' := [(3, .int (nI i)), (2, .int (nI m)), (1, .int (nI D)), (0, rv a 50)]) dX10_step_20 rfl (by decide) rfl ?_
  refine tr_iload_n (pc := 21) 0 dX10_step_21 rfl rfl ?_
  refine tr_aload_n (pc := 22) 3 dX10_step_22 rfl rfl ?_
  refine tr_iload_n (pc := 23) 1 dX10_step_23 rfl rfl ?_
  refine tr_callV (pc := 24) (rest := [.int (nI i)]) (ci := 10) dX10_step_24 ml_X10_168 cv_X10_linesOf rfl rfl (Nat.le_of_ble_eq_true rfl) (hS.1 50 (13, 45) rfl) rfl (by decide) (c_mlines hS hV hN hm) ?_
  rintro _ _ _ ⟨rfl, rfl, rfl⟩
  show T a 2 mX10_step 27 [(3, .int (nI i)), (2, .int (nI m)), (1, .int (nI D)), (0, rv a 50)] [.int (nI (lnN P m)), .int (nI i)] S h _
  refine tr_icmp_ne (pc := 27) (tgt := 35) dX10_step_27 (by decide) (nI_eq (by omega) (by omega)) (fun _ => ?_) (fun hcc => absurd hcc (by omega))
  refine tr_aload_n (pc := 35) 3 dX10_step_35 rfl rfl ?_
  refine tr_getR (pc := 36) (q := 68) dX10_step_36 (hS.1 50 (13, 45) rfl) fi_X10_61 rfl (hS.2 50 31 68 rfl) ?_
  refine tr_iload_n (pc := 39) 2 dX10_step_39 rfl rfl ?_
  refine tr_dup2 (pc := 40) dX10_step_40 rfl rfl ?_
  refine tr_iald (pc := 41) (v := nI i) D dX10_step_41 (hS.1 68 (0, 4) rfl) rfl (by omega) (by decide) hF.1.2.1 ?_
  refine tr_iconst (pc := 42) (v := nI 1) dX10_step_42 (by decide) ?_
  refine tr_iadd (pc := 43) (v := nI (i + 1)) dX10_step_43 (nI_add _ _) ?_
  refine tr_iast (pc := 44) D dX10_step_44 (hS.1 68 (0, 4) rfl) rfl (by omega) (by decide) ?_
  have hN1 : NP (hs h 68 (upd (h 68) D (nI (i + 1)))) P := hN
  refine tr_aload_n (pc := 45) 3 dX10_step_45 rfl rfl ?_
  refine tr_iload_n (pc := 46) 1 dX10_step_46 rfl rfl ?_
  refine tr_iload_n (pc := 47) 0 dX10_step_47 rfl rfl ?_
  refine tr_iconst (pc := 48) (v := nI 0) dX10_step_48 (by decide) ?_
  refine tr_callV (pc := 49) (rest := []) (ci := 10) dX10_step_49 ml_X10_178 cv_X10_lineAt rfl rfl (Nat.le_of_ble_eq_true rfl) (hS.1 50 (13, 45) rfl) rfl (by decide) (c_msort hS hV hN1 hi hq) ?_
  rintro _ _ _ ⟨rfl, rfl, rfl⟩
  show T a 2 mX10_step 52 [(3, .int (nI i)), (2, .int (nI m)), (1, .int (nI D)), (0, rv a 50)] [.int (nI 4)] S (hs h 68 (upd (h 68) D (nI (i + 1)))) _
  refine tr_istore (pc := 52) (lv' := [(4, .int (nI 4)), (3, .int (nI i)), (2, .int (nI m)), (1, .int (nI D)), (0, rv a 50)]) dX10_step_52 (by decide) rfl ?_
  refine tr_iconst (pc := 54) (v := nI 4) dX10_step_54 (by decide) ?_
  refine tr_iload_n (pc := 55) 3 dX10_step_55 rfl rfl ?_
  refine tr_imul (pc := 56) (v := nI (4 * D)) dX10_step_56 (pk_mul _ _) ?_
  refine tr_aload_n (pc := 57) 4 dX10_step_57 rfl rfl ?_
  refine tr_iload_n (pc := 58) 2 dX10_step_58 rfl rfl ?_
  refine tr_iload_n (pc := 59) 1 dX10_step_59 rfl rfl ?_
  refine tr_iconst (pc := 60) (v := nI 1) dX10_step_60 (by decide) ?_
  refine tr_callV (pc := 61) (rest := [.int (nI (4 * D))]) (ci := 10) dX10_step_61 ml_X10_178 cv_X10_lineAt rfl rfl (Nat.le_of_ble_eq_true rfl) (hS.1 50 (13, 45) rfl) rfl (by decide) (c_mline hS hV hN1 hi (show 1 < 4 by decide)) ?_
  rintro _ _ _ ⟨rfl, rfl, rfl⟩
  show T a 2 mX10_step 64 [(4, .int (nI 4)), (3, .int (nI i)), (2, .int (nI m)), (1, .int (nI D)), (0, rv a 50)] [.int (nI ((gt P m i).2.1)), .int (nI (4 * D))] S (hs h 68 (upd (h 68) D (nI (i + 1)))) _
  refine tr_iadd (pc := 64) (v := nI (4 * D + ((gt P m i).2.1))) dX10_step_64 (nI_add _ _) ?_
  refine tr_istore (pc := 65) (lv' := [(5, .int (nI (4 * D + ((gt P m i).2.1)))), (4, .int (nI 4)), (3, .int (nI i)), (2, .int (nI m)), (1, .int (nI D)), (0, rv a 50)]) dX10_step_65 (by decide) rfl ?_
  refine tr_iload (pc := 67) 1 dX10_step_67 rfl ?_
  refine tr_iconst (pc := 69) (v := nI 1) dX10_step_69 (by decide) ?_
  refine tr_icmp_eq (pc := 70) (tgt := 92) dX10_step_70 (by decide) (nI_eq (by omega) (by omega)) (fun hcc => absurd hcc (by decide)) (fun _ => ?_)
  refine tr_iload (pc := 73) 1 dX10_step_73 rfl ?_
  refine tr_iconst (pc := 75) (v := nI 2) dX10_step_75 (by decide) ?_
  refine tr_icmp_eq (pc := 76) (tgt := 92) dX10_step_76 (by decide) (nI_eq (by omega) (by omega)) (fun hcc => absurd hcc (by decide)) (fun _ => ?_)
  refine tr_iload (pc := 79) 1 dX10_step_79 rfl ?_
  refine tr_iconst (pc := 81) (v := nI 3) dX10_step_81 (by decide) ?_
  refine tr_icmp_eq (pc := 82) (tgt := 92) dX10_step_82 (by decide) (nI_eq (by omega) (by omega)) (fun hcc => absurd hcc (by decide)) (fun _ => ?_)
  refine tr_iload (pc := 85) 1 dX10_step_85 rfl ?_
  refine tr_bipush (pc := 87) (v := nI 7) dX10_step_87 (by decide) ?_
  refine tr_icmp_ne (pc := 89) (tgt := 111) dX10_step_89 (by decide) (nI_eq (by omega) (by omega)) (fun _ => ?_) (fun hcc => absurd hcc (by decide))
  refine tr_iconst (pc := 111) (v := -1) dX10_step_111 (by decide) ?_
  refine tr_istore (pc := 112) (lv' := [(6, .int (-1)), (5, .int (nI (4 * D + ((gt P m i).2.1)))), (4, .int (nI 4)), (3, .int (nI i)), (2, .int (nI m)), (1, .int (nI D)), (0, rv a 50)]) dX10_step_112 (by decide) rfl ?_
  refine tr_aload_n (pc := 114) 6 dX10_step_114 rfl rfl ?_
  refine tr_iload (pc := 115) 2 dX10_step_115 rfl ?_
  refine tr_iconst (pc := 117) (v := nI 2) dX10_step_117 (by decide) ?_
  refine tr_icmp_eq (pc := 118) (tgt := 128) dX10_step_118 (by decide) (nI_eq (by omega) (by omega)) (fun hcc => absurd hcc (by decide)) (fun _ => ?_)
  refine tr_iload (pc := 121) 2 dX10_step_121 rfl ?_
  refine tr_bipush (pc := 123) (v := nI 6) dX10_step_123 (by decide) ?_
  refine tr_icmp_ne (pc := 125) (tgt := 139) dX10_step_125 (by decide) (nI_eq (by omega) (by omega)) (fun _ => ?_) (fun hcc => absurd hcc (by decide))
  refine tr_iload (pc := 139) 2 dX10_step_139 rfl ?_
  refine tr_iconst (pc := 141) (v := nI 3) dX10_step_141 (by decide) ?_
  refine tr_icmp_ne (pc := 142) (tgt := 155) dX10_step_142 (by decide) (nI_eq (by omega) (by omega)) (fun _ => ?_) (fun hcc => absurd hcc (by decide))
  refine tr_iconst (pc := 155) (v := nI 0) dX10_step_155 (by decide) ?_
  refine tr_putI (pc := 156) (x := nI 0) dX10_step_156 (hS.1 50 (13, 45) rfl) fi_X10_257 rfl (by decide) (by decide) ?_
  refine tr_aload_n (pc := 159) 6 dX10_step_159 rfl rfl ?_
  refine tr_getI (pc := 160) (x := nI 0) dX10_step_160 (hS.1 50 (13, 45) rfl) fi_X10_257 rfl rfl ?_
  refine tr_if_eq (pc := 163) (tgt := 167) dX10_step_163 (by decide) (nI_z_eq (by omega)) (fun _ => ?_) (fun hcc => absurd (by decide) hcc)
  refine tr_iload (pc := 167) 2 dX10_step_167 rfl ?_
  refine tr_tabIn (pc := 169) (off := 114) (tgt := 283) dX10_step_169 (by decide) (by decide) (by decide) (by decide) ?_
  refine tr_aload_n (pc := 283) 6 dX10_step_283 rfl rfl ?_
  refine tr_aload_n (pc := 284) 6 dX10_step_284 rfl rfl ?_
  refine tr_getR (pc := 285) (q := 66) dX10_step_285 (hS.1 50 (13, 45) rfl) fi_X10_55 rfl (hS.2 50 29 66 rfl) ?_
  refine tr_iload (pc := 288) 1 dX10_step_288 rfl ?_
  refine tr_iald (pc := 290) (v := tv (E (gt P m i).2.1)) (4 * D + ((gt P m i).2.1)) dX10_step_290 (hS.1 66 (0, 16) rfl) rfl (by omega) (by decide) (hF.2 _ k2) ?_
  refine tr_putI (pc := 291) (x := tv (E (gt P m i).2.1)) dX10_step_291 (hS.1 50 (13, 45) rfl) fi_X10_239 rfl rfl rfl ?_
  refine tr_goto (pc := 294) (tgt := 340) dX10_step_294 (by decide) ?_
  exact tr_vret (pc := 340) dX10_step_340 rfl (by
      refine ⟨rfl, rfl, ?_⟩
      rw [show doL cal P m c i R E = (rOpen R (E (gt P m i).2.1), E, false) from by simp only [doL, hq]]
      refine ⟨(by repeat (first | exact Fm.rf | refine Fm.put ?_ (by decide) | refine Fm.set ?_ (by decide) (by decide))), (show MH _ _ from ⟨⟨hT.1.1, rfl, hT.1.2.2⟩, hT.2⟩), (fun z => by cases z), fun _ => ?_⟩
      obtain ⟨z1, z2⟩ := fa_n (h' := (hs (hs (hs h 68 (upd (h 68) D (nI (i + 1)))) 50 (upd ((hs h 68 (upd (h 68) D (nI (i + 1)))) 50) 36 (nI 0))) 50 (upd ((hs (hs h 68 (upd (h 68) D (nI (i + 1)))) 50 (upd ((hs h 68 (upd (h 68) D (nI (i + 1)))) 50) 36 (nI 0))) 50) 28 (tv (E (gt P m i).2.1))))) hF rfl rfl rfl rfl rfl rfl
      exact ⟨hD, rfl, z1, z2, hB, fun _ => MKp.same rfl rfl⟩)

set_option maxHeartbeats 4000000 in
set_option maxRecDepth 100000 in
theorem c_mst5 {a : Am} {S : St} {h : Hp} (hS : IsSt S) {P : Prog} (hV : VB P) (hN : NP h P) (hSN : SN h P) {R : RS} (hT : MH h R) (hW : WF P R) (hn : R.1 0 < 4096) {D m i c fs : Nat} {g : OT} {E : Nat → OT} (hi : i < lnN P m) (hD : h 50 35 = nI (D + 1)) (hD4 : D < 4) (hfl : h 50 36 = nI 0) (hF : FA h D m i c g fs E) (hE : WE R E) (hB : MB R (h 65)) (hid : h 72 m = idl P m) {cal : Nat → OT → RS → CR} (hq : (gt P m i).1 = 5) : CT a 2 mX10_step [rv a 50] S h (fun v S' h' => v = none ∧ S = S' ∧ StX h h' R (doL cal P m c i R E) D m i c g fs) := by
  have hm := lnN_lt hi
  obtain ⟨hV1, hV2, hV3⟩ := id hV
  obtain ⟨k1, k2, k3, k4⟩ := hV3 m i hi
  have h8 := hV2 m
  have hns := nSt_le hV
  refine met_of (by decide +kernel) (Nat.le_of_ble_eq_true rfl) ?_
  show T a 2 mX10_step 0 [(0, rv a 50)] [] S h _
  refine tr_aload_n (pc := 0) 0 dX10_step_0 rfl rfl ?_
  refine tr_getI (pc := 1) (x := nI (D + 1)) dX10_step_1 (hS.1 50 (13, 45) rfl) fi_X10_230 rfl hD ?_
  refine tr_iconst (pc := 4) (v := nI 1) dX10_step_4 (by decide) ?_
  refine tr_isub (pc := 5) (v := nI D) dX10_step_5 (by rw [pk_sub (by omega)]; rfl) ?_
  refine tr_istore_n (pc := 6) (lv' := [(1, .int (nI D)), (0, rv a 50)]) dX10_step_6 rfl (by decide) rfl ?_
  refine tr_aload_n (pc := 7) 1 dX10_step_7 rfl rfl ?_
  refine tr_getR (pc := 8) (q := 67) dX10_step_8 (hS.1 50 (13, 45) rfl) fi_X10_58 rfl (hS.2 50 30 67 rfl) ?_
  refine tr_iload_n (pc := 11) 0 dX10_step_11 rfl rfl ?_
  refine tr_iald (pc := 12) (v := nI m) D dX10_step_12 (hS.1 67 (0, 4) rfl) rfl (by omega) (by decide) hF.1.1 ?_
  refine tr_istore_n (pc := 13) (lv' := [(2, .int (nI m)), (1, .int (nI D)), (0, rv a 50)]) dX10_step_13 rfl (by decide) rfl ?_
  refine tr_aload_n (pc := 14) 2 dX10_step_14 rfl rfl ?_
  refine tr_getR (pc := 15) (q := 68) dX10_step_15 (hS.1 50 (13, 45) rfl) fi_X10_61 rfl (hS.2 50 31 68 rfl) ?_
  refine tr_iload_n (pc := 18) 1 dX10_step_18 rfl rfl ?_
  refine tr_iald (pc := 19) (v := nI i) D dX10_step_19 (hS.1 68 (0, 4) rfl) rfl (by omega) (by decide) hF.1.2.1 ?_
  refine tr_istore_n (pc := 20) (lv' := [(3, .int (nI i)), (2, .int (nI m)), (1, .int (nI D)), (0, rv a 50)]) dX10_step_20 rfl (by decide) rfl ?_
  refine tr_iload_n (pc := 21) 0 dX10_step_21 rfl rfl ?_
  refine tr_aload_n (pc := 22) 3 dX10_step_22 rfl rfl ?_
  refine tr_iload_n (pc := 23) 1 dX10_step_23 rfl rfl ?_
  refine tr_callV (pc := 24) (rest := [.int (nI i)]) (ci := 10) dX10_step_24 ml_X10_168 cv_X10_linesOf rfl rfl (Nat.le_of_ble_eq_true rfl) (hS.1 50 (13, 45) rfl) rfl (by decide) (c_mlines hS hV hN hm) ?_
  rintro _ _ _ ⟨rfl, rfl, rfl⟩
  show T a 2 mX10_step 27 [(3, .int (nI i)), (2, .int (nI m)), (1, .int (nI D)), (0, rv a 50)] [.int (nI (lnN P m)), .int (nI i)] S h _
  refine tr_icmp_ne (pc := 27) (tgt := 35) dX10_step_27 (by decide) (nI_eq (by omega) (by omega)) (fun _ => ?_) (fun hcc => absurd hcc (by omega))
  refine tr_aload_n (pc := 35) 3 dX10_step_35 rfl rfl ?_
  refine tr_getR (pc := 36) (q := 68) dX10_step_36 (hS.1 50 (13, 45) rfl) fi_X10_61 rfl (hS.2 50 31 68 rfl) ?_
  refine tr_iload_n (pc := 39) 2 dX10_step_39 rfl rfl ?_
  refine tr_dup2 (pc := 40) dX10_step_40 rfl rfl ?_
  refine tr_iald (pc := 41) (v := nI i) D dX10_step_41 (hS.1 68 (0, 4) rfl) rfl (by omega) (by decide) hF.1.2.1 ?_
  refine tr_iconst (pc := 42) (v := nI 1) dX10_step_42 (by decide) ?_
  refine tr_iadd (pc := 43) (v := nI (i + 1)) dX10_step_43 (nI_add _ _) ?_
  refine tr_iast (pc := 44) D dX10_step_44 (hS.1 68 (0, 4) rfl) rfl (by omega) (by decide) ?_
  have hN1 : NP (hs h 68 (upd (h 68) D (nI (i + 1)))) P := hN
  refine tr_aload_n (pc := 45) 3 dX10_step_45 rfl rfl ?_
  refine tr_iload_n (pc := 46) 1 dX10_step_46 rfl rfl ?_
  refine tr_iload_n (pc := 47) 0 dX10_step_47 rfl rfl ?_
  refine tr_iconst (pc := 48) (v := nI 0) dX10_step_48 (by decide) ?_
  refine tr_callV (pc := 49) (rest := []) (ci := 10) dX10_step_49 ml_X10_178 cv_X10_lineAt rfl rfl (Nat.le_of_ble_eq_true rfl) (hS.1 50 (13, 45) rfl) rfl (by decide) (c_msort hS hV hN1 hi hq) ?_
  rintro _ _ _ ⟨rfl, rfl, rfl⟩
  show T a 2 mX10_step 52 [(3, .int (nI i)), (2, .int (nI m)), (1, .int (nI D)), (0, rv a 50)] [.int (nI 5)] S (hs h 68 (upd (h 68) D (nI (i + 1)))) _
  refine tr_istore (pc := 52) (lv' := [(4, .int (nI 5)), (3, .int (nI i)), (2, .int (nI m)), (1, .int (nI D)), (0, rv a 50)]) dX10_step_52 (by decide) rfl ?_
  refine tr_iconst (pc := 54) (v := nI 4) dX10_step_54 (by decide) ?_
  refine tr_iload_n (pc := 55) 3 dX10_step_55 rfl rfl ?_
  refine tr_imul (pc := 56) (v := nI (4 * D)) dX10_step_56 (pk_mul _ _) ?_
  refine tr_aload_n (pc := 57) 4 dX10_step_57 rfl rfl ?_
  refine tr_iload_n (pc := 58) 2 dX10_step_58 rfl rfl ?_
  refine tr_iload_n (pc := 59) 1 dX10_step_59 rfl rfl ?_
  refine tr_iconst (pc := 60) (v := nI 1) dX10_step_60 (by decide) ?_
  refine tr_callV (pc := 61) (rest := [.int (nI (4 * D))]) (ci := 10) dX10_step_61 ml_X10_178 cv_X10_lineAt rfl rfl (Nat.le_of_ble_eq_true rfl) (hS.1 50 (13, 45) rfl) rfl (by decide) (c_mline hS hV hN1 hi (show 1 < 4 by decide)) ?_
  rintro _ _ _ ⟨rfl, rfl, rfl⟩
  show T a 2 mX10_step 64 [(4, .int (nI 5)), (3, .int (nI i)), (2, .int (nI m)), (1, .int (nI D)), (0, rv a 50)] [.int (nI ((gt P m i).2.1)), .int (nI (4 * D))] S (hs h 68 (upd (h 68) D (nI (i + 1)))) _
  refine tr_iadd (pc := 64) (v := nI (4 * D + ((gt P m i).2.1))) dX10_step_64 (nI_add _ _) ?_
  refine tr_istore (pc := 65) (lv' := [(5, .int (nI (4 * D + ((gt P m i).2.1)))), (4, .int (nI 5)), (3, .int (nI i)), (2, .int (nI m)), (1, .int (nI D)), (0, rv a 50)]) dX10_step_65 (by decide) rfl ?_
  refine tr_iload (pc := 67) 1 dX10_step_67 rfl ?_
  refine tr_iconst (pc := 69) (v := nI 1) dX10_step_69 (by decide) ?_
  refine tr_icmp_eq (pc := 70) (tgt := 92) dX10_step_70 (by decide) (nI_eq (by omega) (by omega)) (fun hcc => absurd hcc (by decide)) (fun _ => ?_)
  refine tr_iload (pc := 73) 1 dX10_step_73 rfl ?_
  refine tr_iconst (pc := 75) (v := nI 2) dX10_step_75 (by decide) ?_
  refine tr_icmp_eq (pc := 76) (tgt := 92) dX10_step_76 (by decide) (nI_eq (by omega) (by omega)) (fun hcc => absurd hcc (by decide)) (fun _ => ?_)
  refine tr_iload (pc := 79) 1 dX10_step_79 rfl ?_
  refine tr_iconst (pc := 81) (v := nI 3) dX10_step_81 (by decide) ?_
  refine tr_icmp_eq (pc := 82) (tgt := 92) dX10_step_82 (by decide) (nI_eq (by omega) (by omega)) (fun hcc => absurd hcc (by decide)) (fun _ => ?_)
  refine tr_iload (pc := 85) 1 dX10_step_85 rfl ?_
  refine tr_bipush (pc := 87) (v := nI 7) dX10_step_87 (by decide) ?_
  refine tr_icmp_ne (pc := 89) (tgt := 111) dX10_step_89 (by decide) (nI_eq (by omega) (by omega)) (fun _ => ?_) (fun hcc => absurd hcc (by decide))
  refine tr_iconst (pc := 111) (v := -1) dX10_step_111 (by decide) ?_
  refine tr_istore (pc := 112) (lv' := [(6, .int (-1)), (5, .int (nI (4 * D + ((gt P m i).2.1)))), (4, .int (nI 5)), (3, .int (nI i)), (2, .int (nI m)), (1, .int (nI D)), (0, rv a 50)]) dX10_step_112 (by decide) rfl ?_
  refine tr_aload_n (pc := 114) 6 dX10_step_114 rfl rfl ?_
  refine tr_iload (pc := 115) 2 dX10_step_115 rfl ?_
  refine tr_iconst (pc := 117) (v := nI 2) dX10_step_117 (by decide) ?_
  refine tr_icmp_eq (pc := 118) (tgt := 128) dX10_step_118 (by decide) (nI_eq (by omega) (by omega)) (fun hcc => absurd hcc (by decide)) (fun _ => ?_)
  refine tr_iload (pc := 121) 2 dX10_step_121 rfl ?_
  refine tr_bipush (pc := 123) (v := nI 6) dX10_step_123 (by decide) ?_
  refine tr_icmp_ne (pc := 125) (tgt := 139) dX10_step_125 (by decide) (nI_eq (by omega) (by omega)) (fun _ => ?_) (fun hcc => absurd hcc (by decide))
  refine tr_iload (pc := 139) 2 dX10_step_139 rfl ?_
  refine tr_iconst (pc := 141) (v := nI 3) dX10_step_141 (by decide) ?_
  refine tr_icmp_ne (pc := 142) (tgt := 155) dX10_step_142 (by decide) (nI_eq (by omega) (by omega)) (fun _ => ?_) (fun hcc => absurd hcc (by decide))
  refine tr_iconst (pc := 155) (v := nI 0) dX10_step_155 (by decide) ?_
  refine tr_putI (pc := 156) (x := nI 0) dX10_step_156 (hS.1 50 (13, 45) rfl) fi_X10_257 rfl (by decide) (by decide) ?_
  refine tr_aload_n (pc := 159) 6 dX10_step_159 rfl rfl ?_
  refine tr_getI (pc := 160) (x := nI 0) dX10_step_160 (hS.1 50 (13, 45) rfl) fi_X10_257 rfl rfl ?_
  refine tr_if_eq (pc := 163) (tgt := 167) dX10_step_163 (by decide) (nI_z_eq (by omega)) (fun _ => ?_) (fun hcc => absurd (by decide) hcc)
  refine tr_iload (pc := 167) 2 dX10_step_167 rfl ?_
  refine tr_tabIn (pc := 169) (off := 128) (tgt := 297) dX10_step_169 (by decide) (by decide) (by decide) (by decide) ?_
  refine tr_aload_n (pc := 297) 6 dX10_step_297 rfl rfl ?_
  refine tr_getR (pc := 298) (q := 66) dX10_step_298 (hS.1 50 (13, 45) rfl) fi_X10_55 rfl (hS.2 50 29 66 rfl) ?_
  refine tr_iload (pc := 301) 1 dX10_step_301 rfl ?_
  refine tr_aload_n (pc := 303) 6 dX10_step_303 rfl rfl ?_
  refine tr_getI (pc := 304) (x := tv R.2.2.2) dX10_step_304 (hS.1 50 (13, 45) rfl) fi_X10_239 rfl hT.1.2.1 ?_
  refine tr_iast (pc := 307) (4 * D + ((gt P m i).2.1)) dX10_step_307 (hS.1 66 (0, 16) rfl) rfl (by omega) (by decide) ?_
  refine tr_goto (pc := 308) (tgt := 340) dX10_step_308 (by decide) ?_
  exact tr_vret (pc := 340) dX10_step_340 rfl (by
      refine ⟨rfl, rfl, ?_⟩
      rw [show doL cal P m c i R E = (R, uo E (gt P m i).2.1 R.2.2.2, false) from by simp only [doL, hq]]
      refine ⟨(by repeat (first | exact Fm.rf | refine Fm.put ?_ (by decide) | refine Fm.set ?_ (by decide) (by decide))), hT, (fun z => by cases z), fun _ => ?_⟩
      obtain ⟨z1, z2⟩ := fa_u (x := (gt P m i).2.1) (v := R.2.2.2) (h' := (hs (hs (hs h 68 (upd (h 68) D (nI (i + 1)))) 50 (upd ((hs h 68 (upd (h 68) D (nI (i + 1)))) 50) 36 (nI 0))) 66 (upd ((hs (hs h 68 (upd (h 68) D (nI (i + 1)))) 50 (upd ((hs h 68 (upd (h 68) D (nI (i + 1)))) 50) 36 (nI 0))) 66) (4 * D + ((gt P m i).2.1)) (tv R.2.2.2)))) hF k2 rfl rfl rfl rfl rfl rfl
      exact ⟨hD, rfl, z1, z2, hB, fun _ => MKp.same rfl rfl⟩)

theorem mh_set {h h' : Hp} {R : RS} {t : Nat} {v : OT} (hT : MH h R) (e : h' 63 = upd (h 63) t (tv v)) (eo : (h' 50 27 = h 50 27 ∧ h' 50 28 = h 50 28 ∧ h' 50 37 = h 50 37 ∧ h' 50 38 = h 50 38 ∧ h' 50 39 = h 50 39 ∧ h' 50 40 = h 50 40) ∧ h' 62 = h 62 ∧ h' 64 = h 64 ∧ h' 73 = h 73 ∧ h' 74 = h 74 ∧ h' 75 = h 75) : MH h' (rSetF R t v) := by
  obtain ⟨⟨c1, c2, c3, c4, c5, c6⟩, e1, e2, e3, e4, e5⟩ := eo
  obtain ⟨t1, tt, ts⟩ := hT
  unfold MH
  rw [c1, c2, c3, c4, c5, c6, e, e1, e2, e3, e4, e5]
  refine ⟨t1, fun u hu => ?_, ts⟩
  show _ ∧ _ = tv (uo R.2.2.1 t v u) ∧ _
  by_cases q : u = t
  · subst q; rw [upd_s, uo_s]; exact ⟨(tt u hu).1, rfl, (tt u hu).2.2⟩
  · rw [upd_n q, uo_n q]; exact tt u hu
set_option maxHeartbeats 4000000 in
set_option maxRecDepth 100000 in
theorem c_mst2 {a : Am} {S : St} {h : Hp} (hS : IsSt S) {P : Prog} (hV : VB P) (hN : NP h P) (hSN : SN h P) {R : RS} (hT : MH h R) (hW : WF P R) (hn : R.1 0 < 4096) {D m i c fs : Nat} {g : OT} {E : Nat → OT} (hi : i < lnN P m) (hD : h 50 35 = nI (D + 1)) (hD4 : D < 4) (hfl : h 50 36 = nI 0) (hF : FA h D m i c g fs E) (hE : WE R E) (hB : MB R (h 65)) (hid : h 72 m = idl P m) {cal : Nat → OT → RS → CR} (hq : (gt P m i).1 = 2) : CT a 2 mX10_step [rv a 50] S h (fun v S' h' => v = none ∧ S = S' ∧ StX h h' R (doL cal P m c i R E) D m i c g fs) := by
  have hm := lnN_lt hi
  obtain ⟨hV1, hV2, hV3⟩ := id hV
  obtain ⟨k1, k2, k3, k4⟩ := hV3 m i hi
  have h8 := hV2 m
  have hns := nSt_le hV
  refine met_of (by decide +kernel) (Nat.le_of_ble_eq_true rfl) ?_
  show T a 2 mX10_step 0 [(0, rv a 50)] [] S h _
  refine tr_aload_n (pc := 0) 0 dX10_step_0 rfl rfl ?_
  refine tr_getI (pc := 1) (x := nI (D + 1)) dX10_step_1 (hS.1 50 (13, 45) rfl) fi_X10_230 rfl hD ?_
  refine tr_iconst (pc := 4) (v := nI 1) dX10_step_4 (by decide) ?_
  refine tr_isub (pc := 5) (v := nI D) dX10_step_5 (by rw [pk_sub (by omega)]; rfl) ?_
  refine tr_istore_n (pc := 6) (lv' := [(1, .int (nI D)), (0, rv a 50)]) dX10_step_6 rfl (by decide) rfl ?_
  refine tr_aload_n (pc := 7) 1 dX10_step_7 rfl rfl ?_
  refine tr_getR (pc := 8) (q := 67) dX10_step_8 (hS.1 50 (13, 45) rfl) fi_X10_58 rfl (hS.2 50 30 67 rfl) ?_
  refine tr_iload_n (pc := 11) 0 dX10_step_11 rfl rfl ?_
  refine tr_iald (pc := 12) (v := nI m) D dX10_step_12 (hS.1 67 (0, 4) rfl) rfl (by omega) (by decide) hF.1.1 ?_
  refine tr_istore_n (pc := 13) (lv' := [(2, .int (nI m)), (1, .int (nI D)), (0, rv a 50)]) dX10_step_13 rfl (by decide) rfl ?_
  refine tr_aload_n (pc := 14) 2 dX10_step_14 rfl rfl ?_
  refine tr_getR (pc := 15) (q := 68) dX10_step_15 (hS.1 50 (13, 45) rfl) fi_X10_61 rfl (hS.2 50 31 68 rfl) ?_
  refine tr_iload_n (pc := 18) 1 dX10_step_18 rfl rfl ?_
  refine tr_iald (pc := 19) (v := nI i) D dX10_step_19 (hS.1 68 (0, 4) rfl) rfl (by omega) (by decide) hF.1.2.1 ?_
  refine tr_istore_n (pc := 20) (lv' := [(3, .int (nI i)), (2, .int (nI m)), (1, .int (nI D)), (0, rv a 50)]) dX10_step_20 rfl (by decide) rfl ?_
  refine tr_iload_n (pc := 21) 0 dX10_step_21 rfl rfl ?_
  refine tr_aload_n (pc := 22) 3 dX10_step_22 rfl rfl ?_
  refine tr_iload_n (pc := 23) 1 dX10_step_23 rfl rfl ?_
  refine tr_callV (pc := 24) (rest := [.int (nI i)]) (ci := 10) dX10_step_24 ml_X10_168 cv_X10_linesOf rfl rfl (Nat.le_of_ble_eq_true rfl) (hS.1 50 (13, 45) rfl) rfl (by decide) (c_mlines hS hV hN hm) ?_
  rintro _ _ _ ⟨rfl, rfl, rfl⟩
  show T a 2 mX10_step 27 [(3, .int (nI i)), (2, .int (nI m)), (1, .int (nI D)), (0, rv a 50)] [.int (nI (lnN P m)), .int (nI i)] S h _
  refine tr_icmp_ne (pc := 27) (tgt := 35) dX10_step_27 (by decide) (nI_eq (by omega) (by omega)) (fun _ => ?_) (fun hcc => absurd hcc (by omega))
  refine tr_aload_n (pc := 35) 3 dX10_step_35 rfl rfl ?_
  refine tr_getR (pc := 36) (q := 68) dX10_step_36 (hS.1 50 (13, 45) rfl) fi_X10_61 rfl (hS.2 50 31 68 rfl) ?_
  refine tr_iload_n (pc := 39) 2 dX10_step_39 rfl rfl ?_
  refine tr_dup2 (pc := 40) dX10_step_40 rfl rfl ?_
  refine tr_iald (pc := 41) (v := nI i) D dX10_step_41 (hS.1 68 (0, 4) rfl) rfl (by omega) (by decide) hF.1.2.1 ?_
  refine tr_iconst (pc := 42) (v := nI 1) dX10_step_42 (by decide) ?_
  refine tr_iadd (pc := 43) (v := nI (i + 1)) dX10_step_43 (nI_add _ _) ?_
  refine tr_iast (pc := 44) D dX10_step_44 (hS.1 68 (0, 4) rfl) rfl (by omega) (by decide) ?_
  have hN1 : NP (hs h 68 (upd (h 68) D (nI (i + 1)))) P := hN
  refine tr_aload_n (pc := 45) 3 dX10_step_45 rfl rfl ?_
  refine tr_iload_n (pc := 46) 1 dX10_step_46 rfl rfl ?_
  refine tr_iload_n (pc := 47) 0 dX10_step_47 rfl rfl ?_
  refine tr_iconst (pc := 48) (v := nI 0) dX10_step_48 (by decide) ?_
  refine tr_callV (pc := 49) (rest := []) (ci := 10) dX10_step_49 ml_X10_178 cv_X10_lineAt rfl rfl (Nat.le_of_ble_eq_true rfl) (hS.1 50 (13, 45) rfl) rfl (by decide) (c_msort hS hV hN1 hi hq) ?_
  rintro _ _ _ ⟨rfl, rfl, rfl⟩
  show T a 2 mX10_step 52 [(3, .int (nI i)), (2, .int (nI m)), (1, .int (nI D)), (0, rv a 50)] [.int (nI 2)] S (hs h 68 (upd (h 68) D (nI (i + 1)))) _
  refine tr_istore (pc := 52) (lv' := [(4, .int (nI 2)), (3, .int (nI i)), (2, .int (nI m)), (1, .int (nI D)), (0, rv a 50)]) dX10_step_52 (by decide) rfl ?_
  refine tr_iconst (pc := 54) (v := nI 4) dX10_step_54 (by decide) ?_
  refine tr_iload_n (pc := 55) 3 dX10_step_55 rfl rfl ?_
  refine tr_imul (pc := 56) (v := nI (4 * D)) dX10_step_56 (pk_mul _ _) ?_
  refine tr_aload_n (pc := 57) 4 dX10_step_57 rfl rfl ?_
  refine tr_iload_n (pc := 58) 2 dX10_step_58 rfl rfl ?_
  refine tr_iload_n (pc := 59) 1 dX10_step_59 rfl rfl ?_
  refine tr_iconst (pc := 60) (v := nI 1) dX10_step_60 (by decide) ?_
  refine tr_callV (pc := 61) (rest := [.int (nI (4 * D))]) (ci := 10) dX10_step_61 ml_X10_178 cv_X10_lineAt rfl rfl (Nat.le_of_ble_eq_true rfl) (hS.1 50 (13, 45) rfl) rfl (by decide) (c_mline hS hV hN1 hi (show 1 < 4 by decide)) ?_
  rintro _ _ _ ⟨rfl, rfl, rfl⟩
  show T a 2 mX10_step 64 [(4, .int (nI 2)), (3, .int (nI i)), (2, .int (nI m)), (1, .int (nI D)), (0, rv a 50)] [.int (nI ((gt P m i).2.1)), .int (nI (4 * D))] S (hs h 68 (upd (h 68) D (nI (i + 1)))) _
  refine tr_iadd (pc := 64) (v := nI (4 * D + ((gt P m i).2.1))) dX10_step_64 (nI_add _ _) ?_
  refine tr_istore (pc := 65) (lv' := [(5, .int (nI (4 * D + ((gt P m i).2.1)))), (4, .int (nI 2)), (3, .int (nI i)), (2, .int (nI m)), (1, .int (nI D)), (0, rv a 50)]) dX10_step_65 (by decide) rfl ?_
  refine tr_iload (pc := 67) 1 dX10_step_67 rfl ?_
  refine tr_iconst (pc := 69) (v := nI 1) dX10_step_69 (by decide) ?_
  refine tr_icmp_eq (pc := 70) (tgt := 92) dX10_step_70 (by decide) (nI_eq (by omega) (by omega)) (fun hcc => absurd hcc (by decide)) (fun _ => ?_)
  refine tr_iload (pc := 73) 1 dX10_step_73 rfl ?_
  refine tr_iconst (pc := 75) (v := nI 2) dX10_step_75 (by decide) ?_
  refine tr_icmp_eq (pc := 76) (tgt := 92) dX10_step_76 (by decide) (nI_eq (by omega) (by omega)) (fun _ => ?_) (fun hcc => absurd (by decide) hcc)
  refine tr_aload_n (pc := 92) 5 dX10_step_92 rfl rfl ?_
  refine tr_getR (pc := 93) (q := 66) dX10_step_93 (hS.1 50 (13, 45) rfl) fi_X10_55 rfl (hS.2 50 29 66 rfl) ?_
  refine tr_iconst (pc := 96) (v := nI 4) dX10_step_96 (by decide) ?_
  refine tr_iload_n (pc := 97) 4 dX10_step_97 rfl rfl ?_
  refine tr_imul (pc := 98) (v := nI (4 * D)) dX10_step_98 (pk_mul _ _) ?_
  refine tr_aload_n (pc := 99) 5 dX10_step_99 rfl rfl ?_
  refine tr_iload_n (pc := 100) 3 dX10_step_100 rfl rfl ?_
  refine tr_iload_n (pc := 101) 2 dX10_step_101 rfl rfl ?_
  refine tr_iconst (pc := 102) (v := nI 2) dX10_step_102 (by decide) ?_
  refine tr_callV (pc := 103) (rest := [.int (nI (4 * D)), rv a 66]) (ci := 10) dX10_step_103 ml_X10_178 cv_X10_lineAt rfl rfl (Nat.le_of_ble_eq_true rfl) (hS.1 50 (13, 45) rfl) rfl (by decide) (c_moth hS hV hN1 hi (by rw [hq]; rfl)) ?_
  rintro _ _ _ ⟨rfl, rfl, rfl⟩
  show T a 2 mX10_step 106 [(5, .int (nI (4 * D + ((gt P m i).2.1)))), (4, .int (nI 2)), (3, .int (nI i)), (2, .int (nI m)), (1, .int (nI D)), (0, rv a 50)] [.int (nI ((gt P m i).2.2.1)), .int (nI (4 * D)), rv a 66] S (hs h 68 (upd (h 68) D (nI (i + 1)))) _
  refine tr_iadd (pc := 106) (v := nI (4 * D + ((gt P m i).2.2.1))) dX10_step_106 (nI_add _ _) ?_
  refine tr_iald (pc := 107) (v := tv (E (gt P m i).2.2.1)) (4 * D + ((gt P m i).2.2.1)) dX10_step_107 (hS.1 66 (0, 16) rfl) rfl (by omega) (by decide) (hF.2 _ k3) ?_
  refine tr_goto (pc := 108) (tgt := 112) dX10_step_108 (by decide) ?_
  refine tr_istore (pc := 112) (lv' := [(6, .int (tv (E (gt P m i).2.2.1))), (5, .int (nI (4 * D + ((gt P m i).2.1)))), (4, .int (nI 2)), (3, .int (nI i)), (2, .int (nI m)), (1, .int (nI D)), (0, rv a 50)]) dX10_step_112 (by decide) rfl ?_
  refine tr_aload_n (pc := 114) 6 dX10_step_114 rfl rfl ?_
  refine tr_iload (pc := 115) 2 dX10_step_115 rfl ?_
  refine tr_iconst (pc := 117) (v := nI 2) dX10_step_117 (by decide) ?_
  refine tr_icmp_eq (pc := 118) (tgt := 128) dX10_step_118 (by decide) (nI_eq (by omega) (by omega)) (fun _ => ?_) (fun hcc => absurd (by decide) hcc)
  refine tr_aload_n (pc := 128) 6 dX10_step_128 rfl rfl ?_
  refine tr_getR (pc := 129) (q := 66) dX10_step_129 (hS.1 50 (13, 45) rfl) fi_X10_55 rfl (hS.2 50 29 66 rfl) ?_
  refine tr_iload (pc := 132) 1 dX10_step_132 rfl ?_
  refine tr_iald (pc := 134) (v := tv (E (gt P m i).2.1)) (4 * D + ((gt P m i).2.1)) dX10_step_134 (hS.1 66 (0, 16) rfl) rfl (by omega) (by decide) (hF.2 _ k2) ?_
  cases hx : E ((gt P m i).2.1) with
  | none => ?_
  | some t => ?_
  · skip
    show T a 2 mX10_step 135 [(6, .int (tv (E (gt P m i).2.2.1))), (5, .int (nI (4 * D + ((gt P m i).2.1)))), (4, .int (nI 2)), (3, .int (nI i)), (2, .int (nI m)), (1, .int (nI D)), (0, rv a 50)] [.int (-1), rv a 50] S (hs h 68 (upd (h 68) D (nI (i + 1)))) _
    refine tr_iconst (pc := 135) (v := -1) dX10_step_135 (by decide) ?_
    refine tr_icmp_eq (pc := 136) (tgt := 151) dX10_step_136 (by decide) Iff.rfl (fun _ => ?_) (fun hcc => absurd (rfl) hcc)
    refine tr_iconst (pc := 151) (v := nI 1) dX10_step_151 (by decide) ?_
    refine tr_goto (pc := 152) (tgt := 156) dX10_step_152 (by decide) ?_
    refine tr_putI (pc := 156) (x := nI 1) dX10_step_156 (hS.1 50 (13, 45) rfl) fi_X10_257 rfl (by decide) (by decide) ?_
    refine tr_aload_n (pc := 159) 6 dX10_step_159 rfl rfl ?_
    refine tr_getI (pc := 160) (x := nI 1) dX10_step_160 (hS.1 50 (13, 45) rfl) fi_X10_257 rfl rfl ?_
    refine tr_if_eq (pc := 163) (tgt := 167) dX10_step_163 (by decide) (nI_z_eq (by omega)) (fun hcc => absurd hcc (by decide)) (fun _ => ?_)
    exact tr_vret (pc := 166) dX10_step_166 rfl (by
        refine ⟨rfl, rfl, ?_⟩
        rw [show doL cal P m c i R E = (R, E, true) from by simp only [doL, hq, hx]]
        exact ⟨(by repeat (first | exact Fm.rf | refine Fm.put ?_ (by decide) | refine Fm.set ?_ (by decide) (by decide))), hT, fun _ => rfl, (fun z => by cases z)⟩)
  · skip
    have ht : t < R.1 0 := hE _ t hx
    show T a 2 mX10_step 135 [(6, .int (tv (E (gt P m i).2.2.1))), (5, .int (nI (4 * D + ((gt P m i).2.1)))), (4, .int (nI 2)), (3, .int (nI i)), (2, .int (nI m)), (1, .int (nI D)), (0, rv a 50)] [.int (nI t), rv a 50] S (hs h 68 (upd (h 68) D (nI (i + 1)))) _
    refine tr_iconst (pc := 135) (v := -1) dX10_step_135 (by decide) ?_
    refine tr_icmp_eq (pc := 136) (tgt := 151) dX10_step_136 (by decide) Iff.rfl (fun hcc => absurd hcc (nI_m1 (by omega))) (fun _ => ?_)
    refine tr_iload (pc := 139) 2 dX10_step_139 rfl ?_
    refine tr_iconst (pc := 141) (v := nI 3) dX10_step_141 (by decide) ?_
    refine tr_icmp_ne (pc := 142) (tgt := 155) dX10_step_142 (by decide) (nI_eq (by omega) (by omega)) (fun _ => ?_) (fun hcc => absurd hcc (by decide))
    refine tr_iconst (pc := 155) (v := nI 0) dX10_step_155 (by decide) ?_
    refine tr_putI (pc := 156) (x := nI 0) dX10_step_156 (hS.1 50 (13, 45) rfl) fi_X10_257 rfl (by decide) (by decide) ?_
    refine tr_aload_n (pc := 159) 6 dX10_step_159 rfl rfl ?_
    refine tr_getI (pc := 160) (x := nI 0) dX10_step_160 (hS.1 50 (13, 45) rfl) fi_X10_257 rfl rfl ?_
    refine tr_if_eq (pc := 163) (tgt := 167) dX10_step_163 (by decide) (nI_z_eq (by omega)) (fun _ => ?_) (fun hcc => absurd (by decide) hcc)
    refine tr_iload (pc := 167) 2 dX10_step_167 rfl ?_
    refine tr_tabIn (pc := 169) (off := 80) (tgt := 249) dX10_step_169 (by decide) (by decide) (by decide) (by decide) ?_
    refine tr_aload_n (pc := 249) 6 dX10_step_249 rfl rfl ?_
    refine tr_getR (pc := 250) (q := 63) dX10_step_250 (hS.1 50 (13, 45) rfl) fi_X10_46 rfl (hS.2 50 24 63 rfl) ?_
    refine tr_aload_n (pc := 253) 6 dX10_step_253 rfl rfl ?_
    refine tr_getR (pc := 254) (q := 66) dX10_step_254 (hS.1 50 (13, 45) rfl) fi_X10_55 rfl (hS.2 50 29 66 rfl) ?_
    refine tr_iload (pc := 257) 1 dX10_step_257 rfl ?_
    refine tr_iald (pc := 259) (v := nI t) (4 * D + ((gt P m i).2.1)) dX10_step_259 (hS.1 66 (0, 16) rfl) rfl (by omega) (by decide) ((hF.2 _ k2).trans (by rw [hx]; rfl)) ?_
    refine tr_iload (pc := 260) 0 dX10_step_260 rfl ?_
    refine tr_iast (pc := 262) t dX10_step_262 (hS.1 63 (0, 4100) rfl) rfl (by omega) (by decide) ?_
    refine tr_goto (pc := 263) (tgt := 340) dX10_step_263 (by decide) ?_
    exact tr_vret (pc := 340) dX10_step_340 rfl (by
        refine ⟨rfl, rfl, ?_⟩
        rw [show doL cal P m c i R E = (rSetF R t (E (gt P m i).2.2.1), E, false) from by simp only [doL, hq, hx]]
        refine ⟨(by repeat (first | exact Fm.rf | refine Fm.put ?_ (by decide) | refine Fm.set ?_ (by decide) (by decide))), (mh_set hT rfl ⟨⟨rfl, rfl, rfl, rfl, rfl, rfl⟩, rfl, rfl, rfl, rfl, rfl⟩), (fun z => by cases z), fun _ => ?_⟩
        obtain ⟨z1, z2⟩ := fa_n (h' := (hs (hs (hs h 68 (upd (h 68) D (nI (i + 1)))) 50 (upd ((hs h 68 (upd (h 68) D (nI (i + 1)))) 50) 36 (nI 0))) 63 (upd ((hs (hs h 68 (upd (h 68) D (nI (i + 1)))) 50 (upd ((hs h 68 (upd (h 68) D (nI (i + 1)))) 50) 36 (nI 0))) 63) t (tv (E (gt P m i).2.2.1))))) hF rfl rfl rfl rfl rfl rfl
        exact ⟨hD, rfl, z1, z2, hB, fun _ => MKp.same rfl rfl⟩)

set_option maxHeartbeats 4000000 in
set_option maxRecDepth 100000 in
theorem c_mst3 {a : Am} {S : St} {h : Hp} (hS : IsSt S) {P : Prog} (hV : VB P) (hN : NP h P) (hSN : SN h P) {R : RS} (hT : MH h R) (hW : WF P R) (hn : R.1 0 < 4096) {D m i c fs : Nat} {g : OT} {E : Nat → OT} (hi : i < lnN P m) (hD : h 50 35 = nI (D + 1)) (hD4 : D < 4) (hfl : h 50 36 = nI 0) (hF : FA h D m i c g fs E) (hE : WE R E) (hB : MB R (h 65)) (hid : h 72 m = idl P m) {cal : Nat → OT → RS → CR} (hq : (gt P m i).1 = 3) : CT a 2 mX10_step [rv a 50] S h (fun v S' h' => v = none ∧ S = S' ∧ StX h h' R (doL cal P m c i R E) D m i c g fs) := by
  have hm := lnN_lt hi
  obtain ⟨hV1, hV2, hV3⟩ := id hV
  obtain ⟨k1, k2, k3, k4⟩ := hV3 m i hi
  have h8 := hV2 m
  have hns := nSt_le hV
  refine met_of (by decide +kernel) (Nat.le_of_ble_eq_true rfl) ?_
  show T a 2 mX10_step 0 [(0, rv a 50)] [] S h _
  refine tr_aload_n (pc := 0) 0 dX10_step_0 rfl rfl ?_
  refine tr_getI (pc := 1) (x := nI (D + 1)) dX10_step_1 (hS.1 50 (13, 45) rfl) fi_X10_230 rfl hD ?_
  refine tr_iconst (pc := 4) (v := nI 1) dX10_step_4 (by decide) ?_
  refine tr_isub (pc := 5) (v := nI D) dX10_step_5 (by rw [pk_sub (by omega)]; rfl) ?_
  refine tr_istore_n (pc := 6) (lv' := [(1, .int (nI D)), (0, rv a 50)]) dX10_step_6 rfl (by decide) rfl ?_
  refine tr_aload_n (pc := 7) 1 dX10_step_7 rfl rfl ?_
  refine tr_getR (pc := 8) (q := 67) dX10_step_8 (hS.1 50 (13, 45) rfl) fi_X10_58 rfl (hS.2 50 30 67 rfl) ?_
  refine tr_iload_n (pc := 11) 0 dX10_step_11 rfl rfl ?_
  refine tr_iald (pc := 12) (v := nI m) D dX10_step_12 (hS.1 67 (0, 4) rfl) rfl (by omega) (by decide) hF.1.1 ?_
  refine tr_istore_n (pc := 13) (lv' := [(2, .int (nI m)), (1, .int (nI D)), (0, rv a 50)]) dX10_step_13 rfl (by decide) rfl ?_
  refine tr_aload_n (pc := 14) 2 dX10_step_14 rfl rfl ?_
  refine tr_getR (pc := 15) (q := 68) dX10_step_15 (hS.1 50 (13, 45) rfl) fi_X10_61 rfl (hS.2 50 31 68 rfl) ?_
  refine tr_iload_n (pc := 18) 1 dX10_step_18 rfl rfl ?_
  refine tr_iald (pc := 19) (v := nI i) D dX10_step_19 (hS.1 68 (0, 4) rfl) rfl (by omega) (by decide) hF.1.2.1 ?_
  refine tr_istore_n (pc := 20) (lv' := [(3, .int (nI i)), (2, .int (nI m)), (1, .int (nI D)), (0, rv a 50)]) dX10_step_20 rfl (by decide) rfl ?_
  refine tr_iload_n (pc := 21) 0 dX10_step_21 rfl rfl ?_
  refine tr_aload_n (pc := 22) 3 dX10_step_22 rfl rfl ?_
  refine tr_iload_n (pc := 23) 1 dX10_step_23 rfl rfl ?_
  refine tr_callV (pc := 24) (rest := [.int (nI i)]) (ci := 10) dX10_step_24 ml_X10_168 cv_X10_linesOf rfl rfl (Nat.le_of_ble_eq_true rfl) (hS.1 50 (13, 45) rfl) rfl (by decide) (c_mlines hS hV hN hm) ?_
  rintro _ _ _ ⟨rfl, rfl, rfl⟩
  show T a 2 mX10_step 27 [(3, .int (nI i)), (2, .int (nI m)), (1, .int (nI D)), (0, rv a 50)] [.int (nI (lnN P m)), .int (nI i)] S h _
  refine tr_icmp_ne (pc := 27) (tgt := 35) dX10_step_27 (by decide) (nI_eq (by omega) (by omega)) (fun _ => ?_) (fun hcc => absurd hcc (by omega))
  refine tr_aload_n (pc := 35) 3 dX10_step_35 rfl rfl ?_
  refine tr_getR (pc := 36) (q := 68) dX10_step_36 (hS.1 50 (13, 45) rfl) fi_X10_61 rfl (hS.2 50 31 68 rfl) ?_
  refine tr_iload_n (pc := 39) 2 dX10_step_39 rfl rfl ?_
  refine tr_dup2 (pc := 40) dX10_step_40 rfl rfl ?_
  refine tr_iald (pc := 41) (v := nI i) D dX10_step_41 (hS.1 68 (0, 4) rfl) rfl (by omega) (by decide) hF.1.2.1 ?_
  refine tr_iconst (pc := 42) (v := nI 1) dX10_step_42 (by decide) ?_
  refine tr_iadd (pc := 43) (v := nI (i + 1)) dX10_step_43 (nI_add _ _) ?_
  refine tr_iast (pc := 44) D dX10_step_44 (hS.1 68 (0, 4) rfl) rfl (by omega) (by decide) ?_
  have hN1 : NP (hs h 68 (upd (h 68) D (nI (i + 1)))) P := hN
  refine tr_aload_n (pc := 45) 3 dX10_step_45 rfl rfl ?_
  refine tr_iload_n (pc := 46) 1 dX10_step_46 rfl rfl ?_
  refine tr_iload_n (pc := 47) 0 dX10_step_47 rfl rfl ?_
  refine tr_iconst (pc := 48) (v := nI 0) dX10_step_48 (by decide) ?_
  refine tr_callV (pc := 49) (rest := []) (ci := 10) dX10_step_49 ml_X10_178 cv_X10_lineAt rfl rfl (Nat.le_of_ble_eq_true rfl) (hS.1 50 (13, 45) rfl) rfl (by decide) (c_msort hS hV hN1 hi hq) ?_
  rintro _ _ _ ⟨rfl, rfl, rfl⟩
  show T a 2 mX10_step 52 [(3, .int (nI i)), (2, .int (nI m)), (1, .int (nI D)), (0, rv a 50)] [.int (nI 3)] S (hs h 68 (upd (h 68) D (nI (i + 1)))) _
  refine tr_istore (pc := 52) (lv' := [(4, .int (nI 3)), (3, .int (nI i)), (2, .int (nI m)), (1, .int (nI D)), (0, rv a 50)]) dX10_step_52 (by decide) rfl ?_
  refine tr_iconst (pc := 54) (v := nI 4) dX10_step_54 (by decide) ?_
  refine tr_iload_n (pc := 55) 3 dX10_step_55 rfl rfl ?_
  refine tr_imul (pc := 56) (v := nI (4 * D)) dX10_step_56 (pk_mul _ _) ?_
  refine tr_aload_n (pc := 57) 4 dX10_step_57 rfl rfl ?_
  refine tr_iload_n (pc := 58) 2 dX10_step_58 rfl rfl ?_
  refine tr_iload_n (pc := 59) 1 dX10_step_59 rfl rfl ?_
  refine tr_iconst (pc := 60) (v := nI 1) dX10_step_60 (by decide) ?_
  refine tr_callV (pc := 61) (rest := [.int (nI (4 * D))]) (ci := 10) dX10_step_61 ml_X10_178 cv_X10_lineAt rfl rfl (Nat.le_of_ble_eq_true rfl) (hS.1 50 (13, 45) rfl) rfl (by decide) (c_mline hS hV hN1 hi (show 1 < 4 by decide)) ?_
  rintro _ _ _ ⟨rfl, rfl, rfl⟩
  show T a 2 mX10_step 64 [(4, .int (nI 3)), (3, .int (nI i)), (2, .int (nI m)), (1, .int (nI D)), (0, rv a 50)] [.int (nI ((gt P m i).2.1)), .int (nI (4 * D))] S (hs h 68 (upd (h 68) D (nI (i + 1)))) _
  refine tr_iadd (pc := 64) (v := nI (4 * D + ((gt P m i).2.1))) dX10_step_64 (nI_add _ _) ?_
  refine tr_istore (pc := 65) (lv' := [(5, .int (nI (4 * D + ((gt P m i).2.1)))), (4, .int (nI 3)), (3, .int (nI i)), (2, .int (nI m)), (1, .int (nI D)), (0, rv a 50)]) dX10_step_65 (by decide) rfl ?_
  refine tr_iload (pc := 67) 1 dX10_step_67 rfl ?_
  refine tr_iconst (pc := 69) (v := nI 1) dX10_step_69 (by decide) ?_
  refine tr_icmp_eq (pc := 70) (tgt := 92) dX10_step_70 (by decide) (nI_eq (by omega) (by omega)) (fun hcc => absurd hcc (by decide)) (fun _ => ?_)
  refine tr_iload (pc := 73) 1 dX10_step_73 rfl ?_
  refine tr_iconst (pc := 75) (v := nI 2) dX10_step_75 (by decide) ?_
  refine tr_icmp_eq (pc := 76) (tgt := 92) dX10_step_76 (by decide) (nI_eq (by omega) (by omega)) (fun hcc => absurd hcc (by decide)) (fun _ => ?_)
  refine tr_iload (pc := 79) 1 dX10_step_79 rfl ?_
  refine tr_iconst (pc := 81) (v := nI 3) dX10_step_81 (by decide) ?_
  refine tr_icmp_eq (pc := 82) (tgt := 92) dX10_step_82 (by decide) (nI_eq (by omega) (by omega)) (fun _ => ?_) (fun hcc => absurd (by decide) hcc)
  refine tr_aload_n (pc := 92) 5 dX10_step_92 rfl rfl ?_
  refine tr_getR (pc := 93) (q := 66) dX10_step_93 (hS.1 50 (13, 45) rfl) fi_X10_55 rfl (hS.2 50 29 66 rfl) ?_
  refine tr_iconst (pc := 96) (v := nI 4) dX10_step_96 (by decide) ?_
  refine tr_iload_n (pc := 97) 4 dX10_step_97 rfl rfl ?_
  refine tr_imul (pc := 98) (v := nI (4 * D)) dX10_step_98 (pk_mul _ _) ?_
  refine tr_aload_n (pc := 99) 5 dX10_step_99 rfl rfl ?_
  refine tr_iload_n (pc := 100) 3 dX10_step_100 rfl rfl ?_
  refine tr_iload_n (pc := 101) 2 dX10_step_101 rfl rfl ?_
  refine tr_iconst (pc := 102) (v := nI 2) dX10_step_102 (by decide) ?_
  refine tr_callV (pc := 103) (rest := [.int (nI (4 * D)), rv a 66]) (ci := 10) dX10_step_103 ml_X10_178 cv_X10_lineAt rfl rfl (Nat.le_of_ble_eq_true rfl) (hS.1 50 (13, 45) rfl) rfl (by decide) (c_moth hS hV hN1 hi (by rw [hq]; rfl)) ?_
  rintro _ _ _ ⟨rfl, rfl, rfl⟩
  show T a 2 mX10_step 106 [(5, .int (nI (4 * D + ((gt P m i).2.1)))), (4, .int (nI 3)), (3, .int (nI i)), (2, .int (nI m)), (1, .int (nI D)), (0, rv a 50)] [.int (nI ((gt P m i).2.2.1)), .int (nI (4 * D)), rv a 66] S (hs h 68 (upd (h 68) D (nI (i + 1)))) _
  refine tr_iadd (pc := 106) (v := nI (4 * D + ((gt P m i).2.2.1))) dX10_step_106 (nI_add _ _) ?_
  refine tr_iald (pc := 107) (v := tv (E (gt P m i).2.2.1)) (4 * D + ((gt P m i).2.2.1)) dX10_step_107 (hS.1 66 (0, 16) rfl) rfl (by omega) (by decide) (hF.2 _ k3) ?_
  refine tr_goto (pc := 108) (tgt := 112) dX10_step_108 (by decide) ?_
  cases hx : E ((gt P m i).2.2.1) with
  | none => ?_
  | some t => ?_
  · skip
    show T a 2 mX10_step 112 [(5, .int (nI (4 * D + ((gt P m i).2.1)))), (4, .int (nI 3)), (3, .int (nI i)), (2, .int (nI m)), (1, .int (nI D)), (0, rv a 50)] [.int (-1)] S (hs h 68 (upd (h 68) D (nI (i + 1)))) _
    refine tr_istore (pc := 112) (lv' := [(6, .int (-1)), (5, .int (nI (4 * D + ((gt P m i).2.1)))), (4, .int (nI 3)), (3, .int (nI i)), (2, .int (nI m)), (1, .int (nI D)), (0, rv a 50)]) dX10_step_112 (by decide) rfl ?_
    refine tr_aload_n (pc := 114) 6 dX10_step_114 rfl rfl ?_
    refine tr_iload (pc := 115) 2 dX10_step_115 rfl ?_
    refine tr_iconst (pc := 117) (v := nI 2) dX10_step_117 (by decide) ?_
    refine tr_icmp_eq (pc := 118) (tgt := 128) dX10_step_118 (by decide) (nI_eq (by omega) (by omega)) (fun hcc => absurd hcc (by decide)) (fun _ => ?_)
    refine tr_iload (pc := 121) 2 dX10_step_121 rfl ?_
    refine tr_bipush (pc := 123) (v := nI 6) dX10_step_123 (by decide) ?_
    refine tr_icmp_ne (pc := 125) (tgt := 139) dX10_step_125 (by decide) (nI_eq (by omega) (by omega)) (fun _ => ?_) (fun hcc => absurd hcc (by decide))
    refine tr_iload (pc := 139) 2 dX10_step_139 rfl ?_
    refine tr_iconst (pc := 141) (v := nI 3) dX10_step_141 (by decide) ?_
    refine tr_icmp_ne (pc := 142) (tgt := 155) dX10_step_142 (by decide) (nI_eq (by omega) (by omega)) (fun hcc => absurd (by decide) hcc) (fun _ => ?_)
    refine tr_iload (pc := 145) 0 dX10_step_145 rfl ?_
    refine tr_iconst (pc := 147) (v := -1) dX10_step_147 (by decide) ?_
    refine tr_icmp_ne (pc := 148) (tgt := 155) dX10_step_148 (by decide) Iff.rfl (fun hcc => absurd (rfl) hcc) (fun _ => ?_)
    refine tr_iconst (pc := 151) (v := nI 1) dX10_step_151 (by decide) ?_
    refine tr_goto (pc := 152) (tgt := 156) dX10_step_152 (by decide) ?_
    refine tr_putI (pc := 156) (x := nI 1) dX10_step_156 (hS.1 50 (13, 45) rfl) fi_X10_257 rfl (by decide) (by decide) ?_
    refine tr_aload_n (pc := 159) 6 dX10_step_159 rfl rfl ?_
    refine tr_getI (pc := 160) (x := nI 1) dX10_step_160 (hS.1 50 (13, 45) rfl) fi_X10_257 rfl rfl ?_
    refine tr_if_eq (pc := 163) (tgt := 167) dX10_step_163 (by decide) (nI_z_eq (by omega)) (fun hcc => absurd hcc (by decide)) (fun _ => ?_)
    exact tr_vret (pc := 166) dX10_step_166 rfl (by
        refine ⟨rfl, rfl, ?_⟩
        rw [show doL cal P m c i R E = (R, E, true) from by simp only [doL, hq, hx]]
        exact ⟨(by repeat (first | exact Fm.rf | refine Fm.put ?_ (by decide) | refine Fm.set ?_ (by decide) (by decide))), hT, fun _ => rfl, (fun z => by cases z)⟩)
  · skip
    have ht : t < R.1 0 := hE _ t hx
    show T a 2 mX10_step 112 [(5, .int (nI (4 * D + ((gt P m i).2.1)))), (4, .int (nI 3)), (3, .int (nI i)), (2, .int (nI m)), (1, .int (nI D)), (0, rv a 50)] [.int (nI t)] S (hs h 68 (upd (h 68) D (nI (i + 1)))) _
    refine tr_istore (pc := 112) (lv' := [(6, .int (nI t)), (5, .int (nI (4 * D + ((gt P m i).2.1)))), (4, .int (nI 3)), (3, .int (nI i)), (2, .int (nI m)), (1, .int (nI D)), (0, rv a 50)]) dX10_step_112 (by decide) rfl ?_
    refine tr_aload_n (pc := 114) 6 dX10_step_114 rfl rfl ?_
    refine tr_iload (pc := 115) 2 dX10_step_115 rfl ?_
    refine tr_iconst (pc := 117) (v := nI 2) dX10_step_117 (by decide) ?_
    refine tr_icmp_eq (pc := 118) (tgt := 128) dX10_step_118 (by decide) (nI_eq (by omega) (by omega)) (fun hcc => absurd hcc (by decide)) (fun _ => ?_)
    refine tr_iload (pc := 121) 2 dX10_step_121 rfl ?_
    refine tr_bipush (pc := 123) (v := nI 6) dX10_step_123 (by decide) ?_
    refine tr_icmp_ne (pc := 125) (tgt := 139) dX10_step_125 (by decide) (nI_eq (by omega) (by omega)) (fun _ => ?_) (fun hcc => absurd hcc (by decide))
    refine tr_iload (pc := 139) 2 dX10_step_139 rfl ?_
    refine tr_iconst (pc := 141) (v := nI 3) dX10_step_141 (by decide) ?_
    refine tr_icmp_ne (pc := 142) (tgt := 155) dX10_step_142 (by decide) (nI_eq (by omega) (by omega)) (fun hcc => absurd (by decide) hcc) (fun _ => ?_)
    refine tr_iload (pc := 145) 0 dX10_step_145 rfl ?_
    refine tr_iconst (pc := 147) (v := -1) dX10_step_147 (by decide) ?_
    refine tr_icmp_ne (pc := 148) (tgt := 155) dX10_step_148 (by decide) Iff.rfl (fun _ => ?_) (fun hcc => absurd hcc (nI_m1 (by omega)))
    refine tr_iconst (pc := 155) (v := nI 0) dX10_step_155 (by decide) ?_
    refine tr_putI (pc := 156) (x := nI 0) dX10_step_156 (hS.1 50 (13, 45) rfl) fi_X10_257 rfl (by decide) (by decide) ?_
    refine tr_aload_n (pc := 159) 6 dX10_step_159 rfl rfl ?_
    refine tr_getI (pc := 160) (x := nI 0) dX10_step_160 (hS.1 50 (13, 45) rfl) fi_X10_257 rfl rfl ?_
    refine tr_if_eq (pc := 163) (tgt := 167) dX10_step_163 (by decide) (nI_z_eq (by omega)) (fun _ => ?_) (fun hcc => absurd (by decide) hcc)
    refine tr_iload (pc := 167) 2 dX10_step_167 rfl ?_
    refine tr_tabIn (pc := 169) (off := 97) (tgt := 266) dX10_step_169 (by decide) (by decide) (by decide) (by decide) ?_
    refine tr_aload_n (pc := 266) 6 dX10_step_266 rfl rfl ?_
    refine tr_getR (pc := 267) (q := 66) dX10_step_267 (hS.1 50 (13, 45) rfl) fi_X10_55 rfl (hS.2 50 29 66 rfl) ?_
    refine tr_iload (pc := 270) 1 dX10_step_270 rfl ?_
    refine tr_aload_n (pc := 272) 6 dX10_step_272 rfl rfl ?_
    refine tr_getR (pc := 273) (q := 63) dX10_step_273 (hS.1 50 (13, 45) rfl) fi_X10_46 rfl (hS.2 50 24 63 rfl) ?_
    refine tr_iload (pc := 276) 0 dX10_step_276 rfl ?_
    refine tr_iald (pc := 278) (v := tv (R.2.2.1 t)) t dX10_step_278 (hS.1 63 (0, 4100) rfl) rfl (by omega) (by decide) (hT.2.1 t ht).2.1 ?_
    refine tr_iast (pc := 279) (4 * D + ((gt P m i).2.1)) dX10_step_279 (hS.1 66 (0, 16) rfl) rfl (by omega) (by decide) ?_
    refine tr_goto (pc := 280) (tgt := 340) dX10_step_280 (by decide) ?_
    exact tr_vret (pc := 340) dX10_step_340 rfl (by
        refine ⟨rfl, rfl, ?_⟩
        rw [show doL cal P m c i R E = (R, uo E (gt P m i).2.1 (R.2.2.1 t), false) from by simp only [doL, hq, hx]]
        refine ⟨(by repeat (first | exact Fm.rf | refine Fm.put ?_ (by decide) | refine Fm.set ?_ (by decide) (by decide))), hT, (fun z => by cases z), fun _ => ?_⟩
        obtain ⟨z1, z2⟩ := fa_u (x := (gt P m i).2.1) (v := R.2.2.1 t) (h' := (hs (hs (hs h 68 (upd (h 68) D (nI (i + 1)))) 50 (upd ((hs h 68 (upd (h 68) D (nI (i + 1)))) 50) 36 (nI 0))) 66 (upd ((hs (hs h 68 (upd (h 68) D (nI (i + 1)))) 50 (upd ((hs h 68 (upd (h 68) D (nI (i + 1)))) 50) 36 (nI 0))) 66) (4 * D + ((gt P m i).2.1)) (tv (R.2.2.1 t))))) hF k2 rfl rfl rfl rfl rfl rfl
        exact ⟨hD, rfl, z1, z2, hB, fun _ => MKp.same rfl rfl⟩)

set_option maxHeartbeats 4000000 in
set_option maxRecDepth 100000 in
theorem c_mst6 {a : Am} {S : St} {h : Hp} (hS : IsSt S) {P : Prog} (hV : VB P) (hN : NP h P) (hSN : SN h P) {R : RS} (hT : MH h R) (hW : WF P R) (hn : R.1 0 < 4096) {D m i c fs : Nat} {g : OT} {E : Nat → OT} (hi : i < lnN P m) (hD : h 50 35 = nI (D + 1)) (hD4 : D < 4) (hfl : h 50 36 = nI 0) (hF : FA h D m i c g fs E) (hE : WE R E) (hB : MB R (h 65)) (hid : h 72 m = idl P m) {cal : Nat → OT → RS → CR} (hq : (gt P m i).1 = 6) : CT a 2 mX10_step [rv a 50] S h (fun v S' h' => v = none ∧ S = S' ∧ StX h h' R (doL cal P m c i R E) D m i c g fs) := by
  have hm := lnN_lt hi
  obtain ⟨hV1, hV2, hV3⟩ := id hV
  obtain ⟨k1, k2, k3, k4⟩ := hV3 m i hi
  have h8 := hV2 m
  have hns := nSt_le hV
  refine met_of (by decide +kernel) (Nat.le_of_ble_eq_true rfl) ?_
  show T a 2 mX10_step 0 [(0, rv a 50)] [] S h _
  refine tr_aload_n (pc := 0) 0 dX10_step_0 rfl rfl ?_
  refine tr_getI (pc := 1) (x := nI (D + 1)) dX10_step_1 (hS.1 50 (13, 45) rfl) fi_X10_230 rfl hD ?_
  refine tr_iconst (pc := 4) (v := nI 1) dX10_step_4 (by decide) ?_
  refine tr_isub (pc := 5) (v := nI D) dX10_step_5 (by rw [pk_sub (by omega)]; rfl) ?_
  refine tr_istore_n (pc := 6) (lv' := [(1, .int (nI D)), (0, rv a 50)]) dX10_step_6 rfl (by decide) rfl ?_
  refine tr_aload_n (pc := 7) 1 dX10_step_7 rfl rfl ?_
  refine tr_getR (pc := 8) (q := 67) dX10_step_8 (hS.1 50 (13, 45) rfl) fi_X10_58 rfl (hS.2 50 30 67 rfl) ?_
  refine tr_iload_n (pc := 11) 0 dX10_step_11 rfl rfl ?_
  refine tr_iald (pc := 12) (v := nI m) D dX10_step_12 (hS.1 67 (0, 4) rfl) rfl (by omega) (by decide) hF.1.1 ?_
  refine tr_istore_n (pc := 13) (lv' := [(2, .int (nI m)), (1, .int (nI D)), (0, rv a 50)]) dX10_step_13 rfl (by decide) rfl ?_
  refine tr_aload_n (pc := 14) 2 dX10_step_14 rfl rfl ?_
  refine tr_getR (pc := 15) (q := 68) dX10_step_15 (hS.1 50 (13, 45) rfl) fi_X10_61 rfl (hS.2 50 31 68 rfl) ?_
  refine tr_iload_n (pc := 18) 1 dX10_step_18 rfl rfl ?_
  refine tr_iald (pc := 19) (v := nI i) D dX10_step_19 (hS.1 68 (0, 4) rfl) rfl (by omega) (by decide) hF.1.2.1 ?_
  refine tr_istore_n (pc := 20) (lv' := [(3, .int (nI i)), (2, .int (nI m)), (1, .int (nI D)), (0, rv a 50)]) dX10_step_20 rfl (by decide) rfl ?_
  refine tr_iload_n (pc := 21) 0 dX10_step_21 rfl rfl ?_
  refine tr_aload_n (pc := 22) 3 dX10_step_22 rfl rfl ?_
  refine tr_iload_n (pc := 23) 1 dX10_step_23 rfl rfl ?_
  refine tr_callV (pc := 24) (rest := [.int (nI i)]) (ci := 10) dX10_step_24 ml_X10_168 cv_X10_linesOf rfl rfl (Nat.le_of_ble_eq_true rfl) (hS.1 50 (13, 45) rfl) rfl (by decide) (c_mlines hS hV hN hm) ?_
  rintro _ _ _ ⟨rfl, rfl, rfl⟩
  show T a 2 mX10_step 27 [(3, .int (nI i)), (2, .int (nI m)), (1, .int (nI D)), (0, rv a 50)] [.int (nI (lnN P m)), .int (nI i)] S h _
  refine tr_icmp_ne (pc := 27) (tgt := 35) dX10_step_27 (by decide) (nI_eq (by omega) (by omega)) (fun _ => ?_) (fun hcc => absurd hcc (by omega))
  refine tr_aload_n (pc := 35) 3 dX10_step_35 rfl rfl ?_
  refine tr_getR (pc := 36) (q := 68) dX10_step_36 (hS.1 50 (13, 45) rfl) fi_X10_61 rfl (hS.2 50 31 68 rfl) ?_
  refine tr_iload_n (pc := 39) 2 dX10_step_39 rfl rfl ?_
  refine tr_dup2 (pc := 40) dX10_step_40 rfl rfl ?_
  refine tr_iald (pc := 41) (v := nI i) D dX10_step_41 (hS.1 68 (0, 4) rfl) rfl (by omega) (by decide) hF.1.2.1 ?_
  refine tr_iconst (pc := 42) (v := nI 1) dX10_step_42 (by decide) ?_
  refine tr_iadd (pc := 43) (v := nI (i + 1)) dX10_step_43 (nI_add _ _) ?_
  refine tr_iast (pc := 44) D dX10_step_44 (hS.1 68 (0, 4) rfl) rfl (by omega) (by decide) ?_
  have hN1 : NP (hs h 68 (upd (h 68) D (nI (i + 1)))) P := hN
  refine tr_aload_n (pc := 45) 3 dX10_step_45 rfl rfl ?_
  refine tr_iload_n (pc := 46) 1 dX10_step_46 rfl rfl ?_
  refine tr_iload_n (pc := 47) 0 dX10_step_47 rfl rfl ?_
  refine tr_iconst (pc := 48) (v := nI 0) dX10_step_48 (by decide) ?_
  refine tr_callV (pc := 49) (rest := []) (ci := 10) dX10_step_49 ml_X10_178 cv_X10_lineAt rfl rfl (Nat.le_of_ble_eq_true rfl) (hS.1 50 (13, 45) rfl) rfl (by decide) (c_msort hS hV hN1 hi hq) ?_
  rintro _ _ _ ⟨rfl, rfl, rfl⟩
  show T a 2 mX10_step 52 [(3, .int (nI i)), (2, .int (nI m)), (1, .int (nI D)), (0, rv a 50)] [.int (nI 6)] S (hs h 68 (upd (h 68) D (nI (i + 1)))) _
  refine tr_istore (pc := 52) (lv' := [(4, .int (nI 6)), (3, .int (nI i)), (2, .int (nI m)), (1, .int (nI D)), (0, rv a 50)]) dX10_step_52 (by decide) rfl ?_
  refine tr_iconst (pc := 54) (v := nI 4) dX10_step_54 (by decide) ?_
  refine tr_iload_n (pc := 55) 3 dX10_step_55 rfl rfl ?_
  refine tr_imul (pc := 56) (v := nI (4 * D)) dX10_step_56 (pk_mul _ _) ?_
  refine tr_aload_n (pc := 57) 4 dX10_step_57 rfl rfl ?_
  refine tr_iload_n (pc := 58) 2 dX10_step_58 rfl rfl ?_
  refine tr_iload_n (pc := 59) 1 dX10_step_59 rfl rfl ?_
  refine tr_iconst (pc := 60) (v := nI 1) dX10_step_60 (by decide) ?_
  refine tr_callV (pc := 61) (rest := [.int (nI (4 * D))]) (ci := 10) dX10_step_61 ml_X10_178 cv_X10_lineAt rfl rfl (Nat.le_of_ble_eq_true rfl) (hS.1 50 (13, 45) rfl) rfl (by decide) (c_mline hS hV hN1 hi (show 1 < 4 by decide)) ?_
  rintro _ _ _ ⟨rfl, rfl, rfl⟩
  show T a 2 mX10_step 64 [(4, .int (nI 6)), (3, .int (nI i)), (2, .int (nI m)), (1, .int (nI D)), (0, rv a 50)] [.int (nI ((gt P m i).2.1)), .int (nI (4 * D))] S (hs h 68 (upd (h 68) D (nI (i + 1)))) _
  refine tr_iadd (pc := 64) (v := nI (4 * D + ((gt P m i).2.1))) dX10_step_64 (nI_add _ _) ?_
  refine tr_istore (pc := 65) (lv' := [(5, .int (nI (4 * D + ((gt P m i).2.1)))), (4, .int (nI 6)), (3, .int (nI i)), (2, .int (nI m)), (1, .int (nI D)), (0, rv a 50)]) dX10_step_65 (by decide) rfl ?_
  refine tr_iload (pc := 67) 1 dX10_step_67 rfl ?_
  refine tr_iconst (pc := 69) (v := nI 1) dX10_step_69 (by decide) ?_
  refine tr_icmp_eq (pc := 70) (tgt := 92) dX10_step_70 (by decide) (nI_eq (by omega) (by omega)) (fun hcc => absurd hcc (by decide)) (fun _ => ?_)
  refine tr_iload (pc := 73) 1 dX10_step_73 rfl ?_
  refine tr_iconst (pc := 75) (v := nI 2) dX10_step_75 (by decide) ?_
  refine tr_icmp_eq (pc := 76) (tgt := 92) dX10_step_76 (by decide) (nI_eq (by omega) (by omega)) (fun hcc => absurd hcc (by decide)) (fun _ => ?_)
  refine tr_iload (pc := 79) 1 dX10_step_79 rfl ?_
  refine tr_iconst (pc := 81) (v := nI 3) dX10_step_81 (by decide) ?_
  refine tr_icmp_eq (pc := 82) (tgt := 92) dX10_step_82 (by decide) (nI_eq (by omega) (by omega)) (fun hcc => absurd hcc (by decide)) (fun _ => ?_)
  refine tr_iload (pc := 85) 1 dX10_step_85 rfl ?_
  refine tr_bipush (pc := 87) (v := nI 7) dX10_step_87 (by decide) ?_
  refine tr_icmp_ne (pc := 89) (tgt := 111) dX10_step_89 (by decide) (nI_eq (by omega) (by omega)) (fun _ => ?_) (fun hcc => absurd hcc (by decide))
  refine tr_iconst (pc := 111) (v := -1) dX10_step_111 (by decide) ?_
  refine tr_istore (pc := 112) (lv' := [(6, .int (-1)), (5, .int (nI (4 * D + ((gt P m i).2.1)))), (4, .int (nI 6)), (3, .int (nI i)), (2, .int (nI m)), (1, .int (nI D)), (0, rv a 50)]) dX10_step_112 (by decide) rfl ?_
  refine tr_aload_n (pc := 114) 6 dX10_step_114 rfl rfl ?_
  refine tr_iload (pc := 115) 2 dX10_step_115 rfl ?_
  refine tr_iconst (pc := 117) (v := nI 2) dX10_step_117 (by decide) ?_
  refine tr_icmp_eq (pc := 118) (tgt := 128) dX10_step_118 (by decide) (nI_eq (by omega) (by omega)) (fun hcc => absurd hcc (by decide)) (fun _ => ?_)
  refine tr_iload (pc := 121) 2 dX10_step_121 rfl ?_
  refine tr_bipush (pc := 123) (v := nI 6) dX10_step_123 (by decide) ?_
  refine tr_icmp_ne (pc := 125) (tgt := 139) dX10_step_125 (by decide) (nI_eq (by omega) (by omega)) (fun hcc => absurd (by decide) hcc) (fun _ => ?_)
  refine tr_aload_n (pc := 128) 6 dX10_step_128 rfl rfl ?_
  refine tr_getR (pc := 129) (q := 66) dX10_step_129 (hS.1 50 (13, 45) rfl) fi_X10_55 rfl (hS.2 50 29 66 rfl) ?_
  refine tr_iload (pc := 132) 1 dX10_step_132 rfl ?_
  refine tr_iald (pc := 134) (v := tv (E (gt P m i).2.1)) (4 * D + ((gt P m i).2.1)) dX10_step_134 (hS.1 66 (0, 16) rfl) rfl (by omega) (by decide) (hF.2 _ k2) ?_
  cases hx : E ((gt P m i).2.1) with
  | none => ?_
  | some t => ?_
  · skip
    show T a 2 mX10_step 135 [(6, .int (-1)), (5, .int (nI (4 * D + ((gt P m i).2.1)))), (4, .int (nI 6)), (3, .int (nI i)), (2, .int (nI m)), (1, .int (nI D)), (0, rv a 50)] [.int (-1), rv a 50] S (hs h 68 (upd (h 68) D (nI (i + 1)))) _
    refine tr_iconst (pc := 135) (v := -1) dX10_step_135 (by decide) ?_
    refine tr_icmp_eq (pc := 136) (tgt := 151) dX10_step_136 (by decide) Iff.rfl (fun _ => ?_) (fun hcc => absurd (rfl) hcc)
    refine tr_iconst (pc := 151) (v := nI 1) dX10_step_151 (by decide) ?_
    refine tr_goto (pc := 152) (tgt := 156) dX10_step_152 (by decide) ?_
    refine tr_putI (pc := 156) (x := nI 1) dX10_step_156 (hS.1 50 (13, 45) rfl) fi_X10_257 rfl (by decide) (by decide) ?_
    refine tr_aload_n (pc := 159) 6 dX10_step_159 rfl rfl ?_
    refine tr_getI (pc := 160) (x := nI 1) dX10_step_160 (hS.1 50 (13, 45) rfl) fi_X10_257 rfl rfl ?_
    refine tr_if_eq (pc := 163) (tgt := 167) dX10_step_163 (by decide) (nI_z_eq (by omega)) (fun hcc => absurd hcc (by decide)) (fun _ => ?_)
    exact tr_vret (pc := 166) dX10_step_166 rfl (by
        refine ⟨rfl, rfl, ?_⟩
        rw [show doL cal P m c i R E = (R, E, true) from by simp only [doL, hq, hx]]
        exact ⟨(by repeat (first | exact Fm.rf | refine Fm.put ?_ (by decide) | refine Fm.set ?_ (by decide) (by decide))), hT, fun _ => rfl, (fun z => by cases z)⟩)
  · skip
    have ht : t < R.1 0 := hE _ t hx
    show T a 2 mX10_step 135 [(6, .int (-1)), (5, .int (nI (4 * D + ((gt P m i).2.1)))), (4, .int (nI 6)), (3, .int (nI i)), (2, .int (nI m)), (1, .int (nI D)), (0, rv a 50)] [.int (nI t), rv a 50] S (hs h 68 (upd (h 68) D (nI (i + 1)))) _
    refine tr_iconst (pc := 135) (v := -1) dX10_step_135 (by decide) ?_
    refine tr_icmp_eq (pc := 136) (tgt := 151) dX10_step_136 (by decide) Iff.rfl (fun hcc => absurd hcc (nI_m1 (by omega))) (fun _ => ?_)
    refine tr_iload (pc := 139) 2 dX10_step_139 rfl ?_
    refine tr_iconst (pc := 141) (v := nI 3) dX10_step_141 (by decide) ?_
    refine tr_icmp_ne (pc := 142) (tgt := 155) dX10_step_142 (by decide) (nI_eq (by omega) (by omega)) (fun _ => ?_) (fun hcc => absurd hcc (by decide))
    refine tr_iconst (pc := 155) (v := nI 0) dX10_step_155 (by decide) ?_
    refine tr_putI (pc := 156) (x := nI 0) dX10_step_156 (hS.1 50 (13, 45) rfl) fi_X10_257 rfl (by decide) (by decide) ?_
    refine tr_aload_n (pc := 159) 6 dX10_step_159 rfl rfl ?_
    refine tr_getI (pc := 160) (x := nI 0) dX10_step_160 (hS.1 50 (13, 45) rfl) fi_X10_257 rfl rfl ?_
    refine tr_if_eq (pc := 163) (tgt := 167) dX10_step_163 (by decide) (nI_z_eq (by omega)) (fun _ => ?_) (fun hcc => absurd (by decide) hcc)
    refine tr_iload (pc := 167) 2 dX10_step_167 rfl ?_
    refine tr_tabIn (pc := 169) (off := 142) (tgt := 311) dX10_step_169 (by decide) (by decide) (by decide) (by decide) ?_
    refine tr_aload_n (pc := 311) 6 dX10_step_311 rfl rfl ?_
    refine tr_iload_n (pc := 312) 4 dX10_step_312 rfl rfl ?_
    refine tr_iload_n (pc := 313) 3 dX10_step_313 rfl rfl ?_
    refine tr_aload_n (pc := 314) 6 dX10_step_314 rfl rfl ?_
    refine tr_getR (pc := 315) (q := 66) dX10_step_315 (hS.1 50 (13, 45) rfl) fi_X10_55 rfl (hS.2 50 29 66 rfl) ?_
    refine tr_iload (pc := 318) 1 dX10_step_318 rfl ?_
    refine tr_iald (pc := 320) (v := nI t) (4 * D + ((gt P m i).2.1)) dX10_step_320 (hS.1 66 (0, 16) rfl) rfl (by omega) (by decide) ((hF.2 _ k2).trans (by rw [hx]; rfl)) ?_
    refine tr_callV (pc := 321) (rest := []) (ci := 10) dX10_step_321 ml_X10_263 cv_X10_lock rfl rfl (Nat.le_of_ble_eq_true rfl) (hS.1 50 (13, 45) rfl) rfl (by decide) (c_mlock (P := P) (R := R) (i := i) hS hV (show MH (hs (hs h 68 (upd (h 68) D (nI (i + 1)))) 50 (upd ((hs h 68 (upd (h 68) D (nI (i + 1)))) 50) 36 (nI 0))) R from hT) hW (by omega) (by omega) ht hid) ?_
    rintro v1 S1 h1 ⟨rfl, rfl, hT1, ho1, hf1⟩
    show T a 2 mX10_step 324 [(6, .int (-1)), (5, .int (nI (4 * D + ((gt P m i).2.1)))), (4, .int (nI 6)), (3, .int (nI i)), (2, .int (nI m)), (1, .int (nI D)), (0, rv a 50)] [] S h1 _
    refine tr_goto (pc := 324) (tgt := 340) dX10_step_324 (by decide) ?_
    exact tr_vret (pc := 340) dX10_step_340 rfl (by
        refine ⟨rfl, rfl, ?_⟩
        rw [show doL cal P m c i R E = (rLock R t (if tb (idl P m) i = true then 1 else 0), E, false) from by simp only [doL, hq, hx]]
        refine ⟨?_, hT1, (fun z => by cases z), fun _ => ?_⟩
        · refine ⟨fun j j1 j2 => ?_, fun j j1 => ?_⟩
          · simp only [mL, List.mem_cons, List.not_mem_nil, or_false, not_or] at j2
            rw [ho1 j j1 (by omega), hs_ne (by omega), hs_ne (by omega)]
          · simp only [mF, List.mem_cons, List.not_mem_nil, or_false, not_or] at j1
            rw [hf1 j (by omega) (by omega), hs_same, upd_n (by omega), hs_ne (by decide)]
        have z0 : (rLock R t (if tb (idl P m) i = true then 1 else 0)).1 0 = R.1 0 := by simp [rLock, un]
        have z3 : (rLock R t (if tb (idl P m) i = true then 1 else 0)).1 3 = R.1 3 := by simp [rLock, un]
        have e65 : h1 65 = h 65 := ho1 65 (by decide) (by decide)
        obtain ⟨z1, z2⟩ := fa_n hF (ho1 66 (by decide) (by decide)) (ho1 67 (by decide) (by decide)) (ho1 68 (by decide) (by decide)) (ho1 69 (by decide) (by decide)) (ho1 70 (by decide) (by decide)) (ho1 71 (by decide) (by decide))
        refine ⟨(hf1 35 (by decide) (by decide)).trans hD, hf1 36 (by decide) (by decide), z1, z2, ?_, fun _ => MKp.same z0 e65⟩
        unfold MB
        rw [z0, z3, e65]
        exact hB)

set_option maxHeartbeats 4000000 in
set_option maxRecDepth 100000 in
theorem c_mst0 {a : Am} {S : St} {h : Hp} (hS : IsSt S) {P : Prog} (hV : VB P) (hN : NP h P) (hSN : SN h P) {R : RS} (hT : MH h R) (hW : WF P R) (hn : R.1 0 < 4096) {D m i c fs : Nat} {g : OT} {E : Nat → OT} (hi : i < lnN P m) (hD : h 50 35 = nI (D + 1)) (hD4 : D < 4) (hfl : h 50 36 = nI 0) (hF : FA h D m i c g fs E) (hE : WE R E) (hB : MB R (h 65)) (hid : h 72 m = idl P m) {cal : Nat → OT → RS → CR} (hq : (gt P m i).1 = 0) : CT a 2 mX10_step [rv a 50] S h (fun v S' h' => v = none ∧ S = S' ∧ StX h h' R (doL cal P m c i R E) D m i c g fs) := by
  have hm := lnN_lt hi
  obtain ⟨hV1, hV2, hV3⟩ := id hV
  obtain ⟨k1, k2, k3, k4⟩ := hV3 m i hi
  have h8 := hV2 m
  have hns := nSt_le hV
  have hsl := sno_lt hi hq
  refine met_of (by decide +kernel) (Nat.le_of_ble_eq_true rfl) ?_
  show T a 2 mX10_step 0 [(0, rv a 50)] [] S h _
  refine tr_aload_n (pc := 0) 0 dX10_step_0 rfl rfl ?_
  refine tr_getI (pc := 1) (x := nI (D + 1)) dX10_step_1 (hS.1 50 (13, 45) rfl) fi_X10_230 rfl hD ?_
  refine tr_iconst (pc := 4) (v := nI 1) dX10_step_4 (by decide) ?_
  refine tr_isub (pc := 5) (v := nI D) dX10_step_5 (by rw [pk_sub (by omega)]; rfl) ?_
  refine tr_istore_n (pc := 6) (lv' := [(1, .int (nI D)), (0, rv a 50)]) dX10_step_6 rfl (by decide) rfl ?_
  refine tr_aload_n (pc := 7) 1 dX10_step_7 rfl rfl ?_
  refine tr_getR (pc := 8) (q := 67) dX10_step_8 (hS.1 50 (13, 45) rfl) fi_X10_58 rfl (hS.2 50 30 67 rfl) ?_
  refine tr_iload_n (pc := 11) 0 dX10_step_11 rfl rfl ?_
  refine tr_iald (pc := 12) (v := nI m) D dX10_step_12 (hS.1 67 (0, 4) rfl) rfl (by omega) (by decide) hF.1.1 ?_
  refine tr_istore_n (pc := 13) (lv' := [(2, .int (nI m)), (1, .int (nI D)), (0, rv a 50)]) dX10_step_13 rfl (by decide) rfl ?_
  refine tr_aload_n (pc := 14) 2 dX10_step_14 rfl rfl ?_
  refine tr_getR (pc := 15) (q := 68) dX10_step_15 (hS.1 50 (13, 45) rfl) fi_X10_61 rfl (hS.2 50 31 68 rfl) ?_
  refine tr_iload_n (pc := 18) 1 dX10_step_18 rfl rfl ?_
  refine tr_iald (pc := 19) (v := nI i) D dX10_step_19 (hS.1 68 (0, 4) rfl) rfl (by omega) (by decide) hF.1.2.1 ?_
  refine tr_istore_n (pc := 20) (lv' := [(3, .int (nI i)), (2, .int (nI m)), (1, .int (nI D)), (0, rv a 50)]) dX10_step_20 rfl (by decide) rfl ?_
  refine tr_iload_n (pc := 21) 0 dX10_step_21 rfl rfl ?_
  refine tr_aload_n (pc := 22) 3 dX10_step_22 rfl rfl ?_
  refine tr_iload_n (pc := 23) 1 dX10_step_23 rfl rfl ?_
  refine tr_callV (pc := 24) (rest := [.int (nI i)]) (ci := 10) dX10_step_24 ml_X10_168 cv_X10_linesOf rfl rfl (Nat.le_of_ble_eq_true rfl) (hS.1 50 (13, 45) rfl) rfl (by decide) (c_mlines hS hV hN hm) ?_
  rintro _ _ _ ⟨rfl, rfl, rfl⟩
  show T a 2 mX10_step 27 [(3, .int (nI i)), (2, .int (nI m)), (1, .int (nI D)), (0, rv a 50)] [.int (nI (lnN P m)), .int (nI i)] S h _
  refine tr_icmp_ne (pc := 27) (tgt := 35) dX10_step_27 (by decide) (nI_eq (by omega) (by omega)) (fun _ => ?_) (fun hcc => absurd hcc (by omega))
  refine tr_aload_n (pc := 35) 3 dX10_step_35 rfl rfl ?_
  refine tr_getR (pc := 36) (q := 68) dX10_step_36 (hS.1 50 (13, 45) rfl) fi_X10_61 rfl (hS.2 50 31 68 rfl) ?_
  refine tr_iload_n (pc := 39) 2 dX10_step_39 rfl rfl ?_
  refine tr_dup2 (pc := 40) dX10_step_40 rfl rfl ?_
  refine tr_iald (pc := 41) (v := nI i) D dX10_step_41 (hS.1 68 (0, 4) rfl) rfl (by omega) (by decide) hF.1.2.1 ?_
  refine tr_iconst (pc := 42) (v := nI 1) dX10_step_42 (by decide) ?_
  refine tr_iadd (pc := 43) (v := nI (i + 1)) dX10_step_43 (nI_add _ _) ?_
  refine tr_iast (pc := 44) D dX10_step_44 (hS.1 68 (0, 4) rfl) rfl (by omega) (by decide) ?_
  have hN1 : NP (hs h 68 (upd (h 68) D (nI (i + 1)))) P := hN
  refine tr_aload_n (pc := 45) 3 dX10_step_45 rfl rfl ?_
  refine tr_iload_n (pc := 46) 1 dX10_step_46 rfl rfl ?_
  refine tr_iload_n (pc := 47) 0 dX10_step_47 rfl rfl ?_
  refine tr_iconst (pc := 48) (v := nI 0) dX10_step_48 (by decide) ?_
  refine tr_callV (pc := 49) (rest := []) (ci := 10) dX10_step_49 ml_X10_178 cv_X10_lineAt rfl rfl (Nat.le_of_ble_eq_true rfl) (hS.1 50 (13, 45) rfl) rfl (by decide) (c_msort hS hV hN1 hi hq) ?_
  rintro _ _ _ ⟨rfl, rfl, rfl⟩
  show T a 2 mX10_step 52 [(3, .int (nI i)), (2, .int (nI m)), (1, .int (nI D)), (0, rv a 50)] [.int (nI 0)] S (hs h 68 (upd (h 68) D (nI (i + 1)))) _
  refine tr_istore (pc := 52) (lv' := [(4, .int (nI 0)), (3, .int (nI i)), (2, .int (nI m)), (1, .int (nI D)), (0, rv a 50)]) dX10_step_52 (by decide) rfl ?_
  refine tr_iconst (pc := 54) (v := nI 4) dX10_step_54 (by decide) ?_
  refine tr_iload_n (pc := 55) 3 dX10_step_55 rfl rfl ?_
  refine tr_imul (pc := 56) (v := nI (4 * D)) dX10_step_56 (pk_mul _ _) ?_
  refine tr_aload_n (pc := 57) 4 dX10_step_57 rfl rfl ?_
  refine tr_iload_n (pc := 58) 2 dX10_step_58 rfl rfl ?_
  refine tr_iload_n (pc := 59) 1 dX10_step_59 rfl rfl ?_
  refine tr_iconst (pc := 60) (v := nI 1) dX10_step_60 (by decide) ?_
  refine tr_callV (pc := 61) (rest := [.int (nI (4 * D))]) (ci := 10) dX10_step_61 ml_X10_178 cv_X10_lineAt rfl rfl (Nat.le_of_ble_eq_true rfl) (hS.1 50 (13, 45) rfl) rfl (by decide) (c_mline hS hV hN1 hi (show 1 < 4 by decide)) ?_
  rintro _ _ _ ⟨rfl, rfl, rfl⟩
  show T a 2 mX10_step 64 [(4, .int (nI 0)), (3, .int (nI i)), (2, .int (nI m)), (1, .int (nI D)), (0, rv a 50)] [.int (nI ((gt P m i).2.1)), .int (nI (4 * D))] S (hs h 68 (upd (h 68) D (nI (i + 1)))) _
  refine tr_iadd (pc := 64) (v := nI (4 * D + ((gt P m i).2.1))) dX10_step_64 (nI_add _ _) ?_
  refine tr_istore (pc := 65) (lv' := [(5, .int (nI (4 * D + ((gt P m i).2.1)))), (4, .int (nI 0)), (3, .int (nI i)), (2, .int (nI m)), (1, .int (nI D)), (0, rv a 50)]) dX10_step_65 (by decide) rfl ?_
  refine tr_iload (pc := 67) 1 dX10_step_67 rfl ?_
  refine tr_iconst (pc := 69) (v := nI 1) dX10_step_69 (by decide) ?_
  refine tr_icmp_eq (pc := 70) (tgt := 92) dX10_step_70 (by decide) (nI_eq (by omega) (by omega)) (fun hcc => absurd hcc (by decide)) (fun _ => ?_)
  refine tr_iload (pc := 73) 1 dX10_step_73 rfl ?_
  refine tr_iconst (pc := 75) (v := nI 2) dX10_step_75 (by decide) ?_
  refine tr_icmp_eq (pc := 76) (tgt := 92) dX10_step_76 (by decide) (nI_eq (by omega) (by omega)) (fun hcc => absurd hcc (by decide)) (fun _ => ?_)
  refine tr_iload (pc := 79) 1 dX10_step_79 rfl ?_
  refine tr_iconst (pc := 81) (v := nI 3) dX10_step_81 (by decide) ?_
  refine tr_icmp_eq (pc := 82) (tgt := 92) dX10_step_82 (by decide) (nI_eq (by omega) (by omega)) (fun hcc => absurd hcc (by decide)) (fun _ => ?_)
  refine tr_iload (pc := 85) 1 dX10_step_85 rfl ?_
  refine tr_bipush (pc := 87) (v := nI 7) dX10_step_87 (by decide) ?_
  refine tr_icmp_ne (pc := 89) (tgt := 111) dX10_step_89 (by decide) (nI_eq (by omega) (by omega)) (fun _ => ?_) (fun hcc => absurd hcc (by decide))
  refine tr_iconst (pc := 111) (v := -1) dX10_step_111 (by decide) ?_
  refine tr_istore (pc := 112) (lv' := [(6, .int (-1)), (5, .int (nI (4 * D + ((gt P m i).2.1)))), (4, .int (nI 0)), (3, .int (nI i)), (2, .int (nI m)), (1, .int (nI D)), (0, rv a 50)]) dX10_step_112 (by decide) rfl ?_
  refine tr_aload_n (pc := 114) 6 dX10_step_114 rfl rfl ?_
  refine tr_iload (pc := 115) 2 dX10_step_115 rfl ?_
  refine tr_iconst (pc := 117) (v := nI 2) dX10_step_117 (by decide) ?_
  refine tr_icmp_eq (pc := 118) (tgt := 128) dX10_step_118 (by decide) (nI_eq (by omega) (by omega)) (fun hcc => absurd hcc (by decide)) (fun _ => ?_)
  refine tr_iload (pc := 121) 2 dX10_step_121 rfl ?_
  refine tr_bipush (pc := 123) (v := nI 6) dX10_step_123 (by decide) ?_
  refine tr_icmp_ne (pc := 125) (tgt := 139) dX10_step_125 (by decide) (nI_eq (by omega) (by omega)) (fun _ => ?_) (fun hcc => absurd hcc (by decide))
  refine tr_iload (pc := 139) 2 dX10_step_139 rfl ?_
  refine tr_iconst (pc := 141) (v := nI 3) dX10_step_141 (by decide) ?_
  refine tr_icmp_ne (pc := 142) (tgt := 155) dX10_step_142 (by decide) (nI_eq (by omega) (by omega)) (fun _ => ?_) (fun hcc => absurd hcc (by decide))
  refine tr_iconst (pc := 155) (v := nI 0) dX10_step_155 (by decide) ?_
  refine tr_putI (pc := 156) (x := nI 0) dX10_step_156 (hS.1 50 (13, 45) rfl) fi_X10_257 rfl (by decide) (by decide) ?_
  refine tr_aload_n (pc := 159) 6 dX10_step_159 rfl rfl ?_
  refine tr_getI (pc := 160) (x := nI 0) dX10_step_160 (hS.1 50 (13, 45) rfl) fi_X10_257 rfl rfl ?_
  refine tr_if_eq (pc := 163) (tgt := 167) dX10_step_163 (by decide) (nI_z_eq (by omega)) (fun _ => ?_) (fun hcc => absurd (by decide) hcc)
  refine tr_iload (pc := 167) 2 dX10_step_167 rfl ?_
  refine tr_tabIn (pc := 169) (off := 43) (tgt := 212) dX10_step_169 (by decide) (by decide) (by decide) (by decide) ?_
  refine tr_aload_n (pc := 212) 6 dX10_step_212 rfl rfl ?_
  refine tr_getR (pc := 213) (q := 66) dX10_step_213 (hS.1 50 (13, 45) rfl) fi_X10_55 rfl (hS.2 50 29 66 rfl) ?_
  refine tr_iload (pc := 216) 1 dX10_step_216 rfl ?_
  refine tr_aload_n (pc := 218) 6 dX10_step_218 rfl rfl ?_
  refine tr_aload_n (pc := 219) 6 dX10_step_219 rfl rfl ?_
  refine tr_getR (pc := 220) (q := 60) dX10_step_220 (hS.1 50 (13, 45) rfl) fi_X10_37 rfl (hS.2 50 19 60 rfl) ?_
  refine tr_bipush (pc := 223) (v := nI 8) dX10_step_223 (by decide) ?_
  refine tr_iload_n (pc := 225) 4 dX10_step_225 rfl rfl ?_
  refine tr_imul (pc := 226) (v := nI (8 * m)) dX10_step_226 (pk_mul _ _) ?_
  refine tr_iload_n (pc := 227) 3 dX10_step_227 rfl rfl ?_
  refine tr_iadd (pc := 228) (v := nI (8 * m + i)) dX10_step_228 (nI_add _ _) ?_
  refine tr_iald (pc := 229) (v := nI (sno P m i)) (8 * m + i) dX10_step_229 (hS.1 60 (0, 32) rfl) rfl (by omega) (by decide) ((hSN.2.2 m i hi).trans (by unfold siteAt; rw [if_pos hq])) ?_
  refine tr_callV (pc := 230) (rest := [.int (nI (4 * D + ((gt P m i).2.1))), rv a 66]) (ci := 10) dX10_step_230 ml_X10_260 cv_X10_make rfl rfl (Nat.le_of_ble_eq_true rfl) (hS.1 50 (13, 45) rfl) rfl (by decide) (c_mmake (R := R) (c := c) (D := D) (s := sno P m i) hS (show MH (hs (hs h 68 (upd (h 68) D (nI (i + 1)))) 50 (upd ((hs h 68 (upd (h 68) D (nI (i + 1)))) 50) 36 (nI 0))) R from hT) hn hD hD4 hF.1.2.2.1 (by omega)) ?_
  rintro v1 S1 h1 ⟨rfl, rfl, hT1, h65, ho1, hf1⟩
  show T a 2 mX10_step 233 [(6, .int (-1)), (5, .int (nI (4 * D + ((gt P m i).2.1)))), (4, .int (nI 0)), (3, .int (nI i)), (2, .int (nI m)), (1, .int (nI D)), (0, rv a 50)] [.int (nI (R.1 0)), .int (nI (4 * D + ((gt P m i).2.1))), rv a 66] S h1 _
  refine tr_iast (pc := 233) (4 * D + ((gt P m i).2.1)) dX10_step_233 (hS.1 66 (0, 16) rfl) rfl (by omega) (by decide) ?_
  refine tr_goto (pc := 234) (tgt := 340) dX10_step_234 (by decide) ?_
  exact tr_vret (pc := 340) dX10_step_340 rfl (by
      refine ⟨rfl, rfl, ?_⟩
      rw [show doL cal P m c i R E = (rMake R (sno P m i) c, uo E (gt P m i).2.1 (some (R.1 0)), false) from by simp only [doL, hq]]
      refine ⟨?_, hT1, (fun z => by cases z), fun _ => ?_⟩
      · refine ⟨fun j j1 j2 => ?_, fun j j1 => ?_⟩
        · simp only [mL, List.mem_cons, List.not_mem_nil, or_false, not_or] at j2
          rw [hs_ne (by omega), ho1 j (by simp only [List.mem_cons, List.not_mem_nil, or_false, not_or]; omega), hs_ne (by omega), hs_ne (by omega)]
        · simp only [mF, List.mem_cons, List.not_mem_nil, or_false, not_or] at j1
          rw [hs_ne (by decide), hf1 j (by omega), hs_same, upd_n (by omega), hs_ne (by decide)]
      obtain ⟨z1, z2⟩ := fa_u (x := (gt P m i).2.1) (v := some (R.1 0)) (h' := hs h1 66 (upd (h1 66) (4 * D + (gt P m i).2.1) (nI (R.1 0)))) hF k2 (by rw [hs_same, ho1 66 (by decide)]; rfl) (ho1 67 (by decide)) (ho1 68 (by decide)) (ho1 69 (by decide)) (ho1 70 (by decide)) (ho1 71 (by decide))
      have h65 : h1 65 = upd (h 65) (R.1 0) (-1) := h65
      refine ⟨(hf1 35 (by decide)).trans hD, hf1 36 (by decide), z1, z2, fun t ht => ?_, fun c0 e he1 he2 he3 t ht => ?_⟩
      · show h1 65 t = -1 ∨ _
        have ht : t < (rMake R (sno P m i) c).1 0 := ht
        rw [mk_n0] at ht
        show _ ∨ ∃ e, e < (rMake R (sno P m i) c).1 3 ∧ h1 65 t = nI e
        rw [mk_n3, h65]
        by_cases e : t = R.1 0
        · subst e; rw [upd_s]; exact Or.inl rfl
        · rw [upd_n e]; exact hB t (by omega)
      · show h1 65 t ≠ _
        have ht : t < (rMake R (sno P m i) c).1 0 := ht
        rw [mk_n0] at ht
        rw [h65]
        by_cases e : t = R.1 0
        · subst e; rw [upd_s]; exact fun z => nI_m1 (by omega) z.symm
        · rw [upd_n e]; exact he3 t (by omega))

set_option maxHeartbeats 4000000 in
set_option maxRecDepth 100000 in
theorem c_mst7 {a : Am} {S : St} {h : Hp} (hS : IsSt S) {P : Prog} (hV : VB P) (hN : NP h P) (hSN : SN h P) {R : RS} (hT : MH h R) (hW : WF P R) (hn : R.1 0 < 4096) {D m i c fs : Nat} {g : OT} {E : Nat → OT} (hi : i < lnN P m) (hD : h 50 35 = nI (D + 1)) (hD4 : D < 4) (hfl : h 50 36 = nI 0) (hF : FA h D m i c g fs E) (hE : WE R E) (hB : MB R (h 65)) (hid : h 72 m = idl P m) (hq : (gt P m i).1 = 7) (hD3 : D < 3) : CT a 2 mX10_step [rv a 50] S h (fun v S' h' => v = none ∧ S = S' ∧ h' 50 35 = nI (D + 1 + 1) ∧ h' 50 36 = nI 0 ∧ MH h' (rCall R) ∧ FA h' (D + 1) (gt P m i).2.2.2 0 (R.1 3) (E (gt P m i).2.2.1) (R.1 0) (E0 (E (gt P m i).2.2.1)) ∧ FA h' D m (i + 1) c g fs E ∧ Lw D h h' ∧ h' 65 = h 65 ∧ Fm mF mL h h') := by
  have hm := lnN_lt hi
  obtain ⟨hV1, hV2, hV3⟩ := id hV
  obtain ⟨k1, k2, k3, k4⟩ := hV3 m i hi
  have h8 := hV2 m
  have hns := nSt_le hV
  refine met_of (by decide +kernel) (Nat.le_of_ble_eq_true rfl) ?_
  show T a 2 mX10_step 0 [(0, rv a 50)] [] S h _
  refine tr_aload_n (pc := 0) 0 dX10_step_0 rfl rfl ?_
  refine tr_getI (pc := 1) (x := nI (D + 1)) dX10_step_1 (hS.1 50 (13, 45) rfl) fi_X10_230 rfl hD ?_
  refine tr_iconst (pc := 4) (v := nI 1) dX10_step_4 (by decide) ?_
  refine tr_isub (pc := 5) (v := nI D) dX10_step_5 (by rw [pk_sub (by omega)]; rfl) ?_
  refine tr_istore_n (pc := 6) (lv' := [(1, .int (nI D)), (0, rv a 50)]) dX10_step_6 rfl (by decide) rfl ?_
  refine tr_aload_n (pc := 7) 1 dX10_step_7 rfl rfl ?_
  refine tr_getR (pc := 8) (q := 67) dX10_step_8 (hS.1 50 (13, 45) rfl) fi_X10_58 rfl (hS.2 50 30 67 rfl) ?_
  refine tr_iload_n (pc := 11) 0 dX10_step_11 rfl rfl ?_
  refine tr_iald (pc := 12) (v := nI m) D dX10_step_12 (hS.1 67 (0, 4) rfl) rfl (by omega) (by decide) hF.1.1 ?_
  refine tr_istore_n (pc := 13) (lv' := [(2, .int (nI m)), (1, .int (nI D)), (0, rv a 50)]) dX10_step_13 rfl (by decide) rfl ?_
  refine tr_aload_n (pc := 14) 2 dX10_step_14 rfl rfl ?_
  refine tr_getR (pc := 15) (q := 68) dX10_step_15 (hS.1 50 (13, 45) rfl) fi_X10_61 rfl (hS.2 50 31 68 rfl) ?_
  refine tr_iload_n (pc := 18) 1 dX10_step_18 rfl rfl ?_
  refine tr_iald (pc := 19) (v := nI i) D dX10_step_19 (hS.1 68 (0, 4) rfl) rfl (by omega) (by decide) hF.1.2.1 ?_
  refine tr_istore_n (pc := 20) (lv' := [(3, .int (nI i)), (2, .int (nI m)), (1, .int (nI D)), (0, rv a 50)]) dX10_step_20 rfl (by decide) rfl ?_
  refine tr_iload_n (pc := 21) 0 dX10_step_21 rfl rfl ?_
  refine tr_aload_n (pc := 22) 3 dX10_step_22 rfl rfl ?_
  refine tr_iload_n (pc := 23) 1 dX10_step_23 rfl rfl ?_
  refine tr_callV (pc := 24) (rest := [.int (nI i)]) (ci := 10) dX10_step_24 ml_X10_168 cv_X10_linesOf rfl rfl (Nat.le_of_ble_eq_true rfl) (hS.1 50 (13, 45) rfl) rfl (by decide) (c_mlines hS hV hN hm) ?_
  rintro _ _ _ ⟨rfl, rfl, rfl⟩
  show T a 2 mX10_step 27 [(3, .int (nI i)), (2, .int (nI m)), (1, .int (nI D)), (0, rv a 50)] [.int (nI (lnN P m)), .int (nI i)] S h _
  refine tr_icmp_ne (pc := 27) (tgt := 35) dX10_step_27 (by decide) (nI_eq (by omega) (by omega)) (fun _ => ?_) (fun hcc => absurd hcc (by omega))
  refine tr_aload_n (pc := 35) 3 dX10_step_35 rfl rfl ?_
  refine tr_getR (pc := 36) (q := 68) dX10_step_36 (hS.1 50 (13, 45) rfl) fi_X10_61 rfl (hS.2 50 31 68 rfl) ?_
  refine tr_iload_n (pc := 39) 2 dX10_step_39 rfl rfl ?_
  refine tr_dup2 (pc := 40) dX10_step_40 rfl rfl ?_
  refine tr_iald (pc := 41) (v := nI i) D dX10_step_41 (hS.1 68 (0, 4) rfl) rfl (by omega) (by decide) hF.1.2.1 ?_
  refine tr_iconst (pc := 42) (v := nI 1) dX10_step_42 (by decide) ?_
  refine tr_iadd (pc := 43) (v := nI (i + 1)) dX10_step_43 (nI_add _ _) ?_
  refine tr_iast (pc := 44) D dX10_step_44 (hS.1 68 (0, 4) rfl) rfl (by omega) (by decide) ?_
  have hN1 : NP (hs h 68 (upd (h 68) D (nI (i + 1)))) P := hN
  refine tr_aload_n (pc := 45) 3 dX10_step_45 rfl rfl ?_
  refine tr_iload_n (pc := 46) 1 dX10_step_46 rfl rfl ?_
  refine tr_iload_n (pc := 47) 0 dX10_step_47 rfl rfl ?_
  refine tr_iconst (pc := 48) (v := nI 0) dX10_step_48 (by decide) ?_
  refine tr_callV (pc := 49) (rest := []) (ci := 10) dX10_step_49 ml_X10_178 cv_X10_lineAt rfl rfl (Nat.le_of_ble_eq_true rfl) (hS.1 50 (13, 45) rfl) rfl (by decide) (c_msort hS hV hN1 hi hq) ?_
  rintro _ _ _ ⟨rfl, rfl, rfl⟩
  show T a 2 mX10_step 52 [(3, .int (nI i)), (2, .int (nI m)), (1, .int (nI D)), (0, rv a 50)] [.int (nI 7)] S (hs h 68 (upd (h 68) D (nI (i + 1)))) _
  refine tr_istore (pc := 52) (lv' := [(4, .int (nI 7)), (3, .int (nI i)), (2, .int (nI m)), (1, .int (nI D)), (0, rv a 50)]) dX10_step_52 (by decide) rfl ?_
  refine tr_iconst (pc := 54) (v := nI 4) dX10_step_54 (by decide) ?_
  refine tr_iload_n (pc := 55) 3 dX10_step_55 rfl rfl ?_
  refine tr_imul (pc := 56) (v := nI (4 * D)) dX10_step_56 (pk_mul _ _) ?_
  refine tr_aload_n (pc := 57) 4 dX10_step_57 rfl rfl ?_
  refine tr_iload_n (pc := 58) 2 dX10_step_58 rfl rfl ?_
  refine tr_iload_n (pc := 59) 1 dX10_step_59 rfl rfl ?_
  refine tr_iconst (pc := 60) (v := nI 1) dX10_step_60 (by decide) ?_
  refine tr_callV (pc := 61) (rest := [.int (nI (4 * D))]) (ci := 10) dX10_step_61 ml_X10_178 cv_X10_lineAt rfl rfl (Nat.le_of_ble_eq_true rfl) (hS.1 50 (13, 45) rfl) rfl (by decide) (c_mline hS hV hN1 hi (show 1 < 4 by decide)) ?_
  rintro _ _ _ ⟨rfl, rfl, rfl⟩
  show T a 2 mX10_step 64 [(4, .int (nI 7)), (3, .int (nI i)), (2, .int (nI m)), (1, .int (nI D)), (0, rv a 50)] [.int (nI ((gt P m i).2.1)), .int (nI (4 * D))] S (hs h 68 (upd (h 68) D (nI (i + 1)))) _
  refine tr_iadd (pc := 64) (v := nI (4 * D + ((gt P m i).2.1))) dX10_step_64 (nI_add _ _) ?_
  refine tr_istore (pc := 65) (lv' := [(5, .int (nI (4 * D + ((gt P m i).2.1)))), (4, .int (nI 7)), (3, .int (nI i)), (2, .int (nI m)), (1, .int (nI D)), (0, rv a 50)]) dX10_step_65 (by decide) rfl ?_
  refine tr_iload (pc := 67) 1 dX10_step_67 rfl ?_
  refine tr_iconst (pc := 69) (v := nI 1) dX10_step_69 (by decide) ?_
  refine tr_icmp_eq (pc := 70) (tgt := 92) dX10_step_70 (by decide) (nI_eq (by omega) (by omega)) (fun hcc => absurd hcc (by decide)) (fun _ => ?_)
  refine tr_iload (pc := 73) 1 dX10_step_73 rfl ?_
  refine tr_iconst (pc := 75) (v := nI 2) dX10_step_75 (by decide) ?_
  refine tr_icmp_eq (pc := 76) (tgt := 92) dX10_step_76 (by decide) (nI_eq (by omega) (by omega)) (fun hcc => absurd hcc (by decide)) (fun _ => ?_)
  refine tr_iload (pc := 79) 1 dX10_step_79 rfl ?_
  refine tr_iconst (pc := 81) (v := nI 3) dX10_step_81 (by decide) ?_
  refine tr_icmp_eq (pc := 82) (tgt := 92) dX10_step_82 (by decide) (nI_eq (by omega) (by omega)) (fun hcc => absurd hcc (by decide)) (fun _ => ?_)
  refine tr_iload (pc := 85) 1 dX10_step_85 rfl ?_
  refine tr_bipush (pc := 87) (v := nI 7) dX10_step_87 (by decide) ?_
  refine tr_icmp_ne (pc := 89) (tgt := 111) dX10_step_89 (by decide) (nI_eq (by omega) (by omega)) (fun hcc => absurd (by decide) hcc) (fun _ => ?_)
  refine tr_aload_n (pc := 92) 5 dX10_step_92 rfl rfl ?_
  refine tr_getR (pc := 93) (q := 66) dX10_step_93 (hS.1 50 (13, 45) rfl) fi_X10_55 rfl (hS.2 50 29 66 rfl) ?_
  refine tr_iconst (pc := 96) (v := nI 4) dX10_step_96 (by decide) ?_
  refine tr_iload_n (pc := 97) 4 dX10_step_97 rfl rfl ?_
  refine tr_imul (pc := 98) (v := nI (4 * D)) dX10_step_98 (pk_mul _ _) ?_
  refine tr_aload_n (pc := 99) 5 dX10_step_99 rfl rfl ?_
  refine tr_iload_n (pc := 100) 3 dX10_step_100 rfl rfl ?_
  refine tr_iload_n (pc := 101) 2 dX10_step_101 rfl rfl ?_
  refine tr_iconst (pc := 102) (v := nI 2) dX10_step_102 (by decide) ?_
  refine tr_callV (pc := 103) (rest := [.int (nI (4 * D)), rv a 66]) (ci := 10) dX10_step_103 ml_X10_178 cv_X10_lineAt rfl rfl (Nat.le_of_ble_eq_true rfl) (hS.1 50 (13, 45) rfl) rfl (by decide) (c_moth hS hV hN1 hi (by rw [hq]; rfl)) ?_
  rintro _ _ _ ⟨rfl, rfl, rfl⟩
  show T a 2 mX10_step 106 [(5, .int (nI (4 * D + ((gt P m i).2.1)))), (4, .int (nI 7)), (3, .int (nI i)), (2, .int (nI m)), (1, .int (nI D)), (0, rv a 50)] [.int (nI ((gt P m i).2.2.1)), .int (nI (4 * D)), rv a 66] S (hs h 68 (upd (h 68) D (nI (i + 1)))) _
  refine tr_iadd (pc := 106) (v := nI (4 * D + ((gt P m i).2.2.1))) dX10_step_106 (nI_add _ _) ?_
  refine tr_iald (pc := 107) (v := tv (E (gt P m i).2.2.1)) (4 * D + ((gt P m i).2.2.1)) dX10_step_107 (hS.1 66 (0, 16) rfl) rfl (by omega) (by decide) (hF.2 _ k3) ?_
  refine tr_goto (pc := 108) (tgt := 112) dX10_step_108 (by decide) ?_
  refine tr_istore (pc := 112) (lv' := [(6, .int (tv (E (gt P m i).2.2.1))), (5, .int (nI (4 * D + ((gt P m i).2.1)))), (4, .int (nI 7)), (3, .int (nI i)), (2, .int (nI m)), (1, .int (nI D)), (0, rv a 50)]) dX10_step_112 (by decide) rfl ?_
  refine tr_aload_n (pc := 114) 6 dX10_step_114 rfl rfl ?_
  refine tr_iload (pc := 115) 2 dX10_step_115 rfl ?_
  refine tr_iconst (pc := 117) (v := nI 2) dX10_step_117 (by decide) ?_
  refine tr_icmp_eq (pc := 118) (tgt := 128) dX10_step_118 (by decide) (nI_eq (by omega) (by omega)) (fun hcc => absurd hcc (by decide)) (fun _ => ?_)
  refine tr_iload (pc := 121) 2 dX10_step_121 rfl ?_
  refine tr_bipush (pc := 123) (v := nI 6) dX10_step_123 (by decide) ?_
  refine tr_icmp_ne (pc := 125) (tgt := 139) dX10_step_125 (by decide) (nI_eq (by omega) (by omega)) (fun _ => ?_) (fun hcc => absurd hcc (by decide))
  refine tr_iload (pc := 139) 2 dX10_step_139 rfl ?_
  refine tr_iconst (pc := 141) (v := nI 3) dX10_step_141 (by decide) ?_
  refine tr_icmp_ne (pc := 142) (tgt := 155) dX10_step_142 (by decide) (nI_eq (by omega) (by omega)) (fun _ => ?_) (fun hcc => absurd hcc (by decide))
  refine tr_iconst (pc := 155) (v := nI 0) dX10_step_155 (by decide) ?_
  refine tr_putI (pc := 156) (x := nI 0) dX10_step_156 (hS.1 50 (13, 45) rfl) fi_X10_257 rfl (by decide) (by decide) ?_
  refine tr_aload_n (pc := 159) 6 dX10_step_159 rfl rfl ?_
  refine tr_getI (pc := 160) (x := nI 0) dX10_step_160 (hS.1 50 (13, 45) rfl) fi_X10_257 rfl rfl ?_
  refine tr_if_eq (pc := 163) (tgt := 167) dX10_step_163 (by decide) (nI_z_eq (by omega)) (fun _ => ?_) (fun hcc => absurd (by decide) hcc)
  refine tr_iload (pc := 167) 2 dX10_step_167 rfl ?_
  refine tr_tabOut (pc := 169) (tgt := 327) dX10_step_169 (by decide) (by decide) ?_
  have hN2 : NP (hs (hs h 68 (upd (h 68) D (nI (i + 1)))) 50 (upd ((hs h 68 (upd (h 68) D (nI (i + 1)))) 50) 36 (nI 0))) P := hN
  have hT2 : MH (hs (hs h 68 (upd (h 68) D (nI (i + 1)))) 50 (upd ((hs h 68 (upd (h 68) D (nI (i + 1)))) 50) 36 (nI 0))) R := hT
  refine tr_aload_n (pc := 327) 6 dX10_step_327 rfl rfl ?_
  refine tr_aload_n (pc := 328) 6 dX10_step_328 rfl rfl ?_
  refine tr_iload_n (pc := 329) 4 dX10_step_329 rfl rfl ?_
  refine tr_iload_n (pc := 330) 3 dX10_step_330 rfl rfl ?_
  refine tr_iconst (pc := 331) (v := nI 3) dX10_step_331 (by decide) ?_
  refine tr_callV (pc := 332) (rest := [rv a 50]) (ci := 10) dX10_step_332 ml_X10_178 cv_X10_lineAt rfl rfl (Nat.le_of_ble_eq_true rfl) (hS.1 50 (13, 45) rfl) rfl (by decide) (c_mcalle hS hV hN2 hi hq) ?_
  rintro _ _ _ ⟨rfl, rfl, rfl⟩
  show T a 2 mX10_step 335 [(6, .int (tv (E (gt P m i).2.2.1))), (5, .int (nI (4 * D + ((gt P m i).2.1)))), (4, .int (nI 7)), (3, .int (nI i)), (2, .int (nI m)), (1, .int (nI D)), (0, rv a 50)] [.int (nI ((gt P m i).2.2.2)), rv a 50] S (hs (hs h 68 (upd (h 68) D (nI (i + 1)))) 50 (upd ((hs h 68 (upd (h 68) D (nI (i + 1)))) 50) 36 (nI 0))) _
  refine tr_iload (pc := 335) 0 dX10_step_335 rfl ?_
  refine tr_callV (pc := 337) (rest := []) (ci := 10) dX10_step_337 ml_X10_267 cv_X10_call rfl rfl (Nat.le_of_ble_eq_true rfl) (hS.1 50 (13, 45) rfl) rfl (by decide) (c_mcall (R := R) (D := D + 1) (m := (gt P m i).2.2.2) (g := E (gt P m i).2.2.1) hS hT2 hD (by omega)) ?_
  rintro v1 S1 h1 ⟨rfl, rfl, b1, b2, b3, b4, b5, b6, b7⟩
  show T a 2 mX10_step 340 [(6, .int (tv (E (gt P m i).2.2.1))), (5, .int (nI (4 * D + ((gt P m i).2.1)))), (4, .int (nI 7)), (3, .int (nI i)), (2, .int (nI m)), (1, .int (nI D)), (0, rv a 50)] [] S h1 _
  exact tr_vret (pc := 340) dX10_step_340 rfl (by
      obtain ⟨z1, z2⟩ := fa_n (h' := hs (hs h 68 (upd (h 68) D (nI (i + 1)))) 50 (upd (hs h 68 (upd (h 68) D (nI (i + 1))) 50) 36 (nI 0))) hF rfl rfl rfl rfl rfl rfl
      refine ⟨rfl, rfl, b1, b2, b3, b4, z1.lw b5 (by omega), z2.trans (b5.mono (by omega)), b6, Fm.trans ?_ b7⟩
      exact (Fm.rf.set (by decide) (by decide)).put (by decide))

set_option maxHeartbeats 4000000 in
set_option maxRecDepth 100000 in
theorem c_mste {a : Am} {S : St} {h : Hp} (hS : IsSt S) {P : Prog} (hV : VB P) (hN : NP h P) {R : RS} (hT : MH h R) (hW : WF P R) (hn : R.1 0 ≤ 4096) {D m c fs : Nat} {g : OT} {E : Nat → OT} (hm : m < P.length) (hD : h 50 35 = nI (D + 1)) (hD4 : D < 4) (hF : FA h D m (lnN P m) c g fs E) (hc : c < 2 ^ 30) (hcR : R.1 3 < 2 ^ 30) (hfs : fs ≤ R.1 0) (hmk : ∀ t, t < fs → R.2.1 1 t ≠ c) (hg : okT (R.1 0) g) (hr : okT (R.1 0) (E 3)) (hne : ∀ t, t < R.1 0 → h 65 t ≠ nI c) {m' i' c' fs' : Nat} {g' : OT} {E' : Nat → OT} (hpar : 0 < D → i' < lnN P m' ∧ FA h (D - 1) m' (i' + 1) c' g' fs' E') : CT a 2 mX10_step [rv a 50] S h (fun v S' h' => v = none ∧ S = S' ∧ EndP P R D c m' i' c' g g' fs' E E' h h') := by
  have h8 := hV.2.1 m
  refine met_of (by decide +kernel) (Nat.le_of_ble_eq_true rfl) ?_
  show T a 2 mX10_step 0 [(0, rv a 50)] [] S h _
  refine tr_aload_n (pc := 0) 0 dX10_step_0 rfl rfl ?_
  refine tr_getI (pc := 1) (x := nI (D + 1)) dX10_step_1 (hS.1 50 (13, 45) rfl) fi_X10_230 rfl hD ?_
  refine tr_iconst (pc := 4) (v := nI 1) dX10_step_4 (by decide) ?_
  refine tr_isub (pc := 5) (v := nI D) dX10_step_5 (by rw [pk_sub (by omega)]; rfl) ?_
  refine tr_istore_n (pc := 6) (lv' := [(1, .int (nI D)), (0, rv a 50)]) dX10_step_6 rfl (by decide) rfl ?_
  refine tr_aload_n (pc := 7) 1 dX10_step_7 rfl rfl ?_
  refine tr_getR (pc := 8) (q := 67) dX10_step_8 (hS.1 50 (13, 45) rfl) fi_X10_58 rfl (hS.2 50 30 67 rfl) ?_
  refine tr_iload_n (pc := 11) 0 dX10_step_11 rfl rfl ?_
  refine tr_iald (pc := 12) (v := nI m) D dX10_step_12 (hS.1 67 (0, 4) rfl) rfl (by omega) (by decide) hF.1.1 ?_
  refine tr_istore_n (pc := 13) (lv' := [(2, .int (nI m)), (1, .int (nI D)), (0, rv a 50)]) dX10_step_13 rfl (by decide) rfl ?_
  refine tr_aload_n (pc := 14) 2 dX10_step_14 rfl rfl ?_
  refine tr_getR (pc := 15) (q := 68) dX10_step_15 (hS.1 50 (13, 45) rfl) fi_X10_61 rfl (hS.2 50 31 68 rfl) ?_
  refine tr_iload_n (pc := 18) 1 dX10_step_18 rfl rfl ?_
  refine tr_iald (pc := 19) (v := nI (lnN P m)) D dX10_step_19 (hS.1 68 (0, 4) rfl) rfl (by omega) (by decide) hF.1.2.1 ?_
  refine tr_istore_n (pc := 20) (lv' := [(3, .int (nI (lnN P m))), (2, .int (nI m)), (1, .int (nI D)), (0, rv a 50)]) dX10_step_20 rfl (by decide) rfl ?_
  refine tr_iload_n (pc := 21) 0 dX10_step_21 rfl rfl ?_
  refine tr_aload_n (pc := 22) 3 dX10_step_22 rfl rfl ?_
  refine tr_iload_n (pc := 23) 1 dX10_step_23 rfl rfl ?_
  refine tr_callV (pc := 24) (rest := [.int (nI (lnN P m))]) (ci := 10) dX10_step_24 ml_X10_168 cv_X10_linesOf rfl rfl (Nat.le_of_ble_eq_true rfl) (hS.1 50 (13, 45) rfl) rfl (by decide) (c_mlines hS hV hN hm) ?_
  rintro _ _ _ ⟨rfl, rfl, rfl⟩
  show T a 2 mX10_step 27 [(3, .int (nI (lnN P m))), (2, .int (nI m)), (1, .int (nI D)), (0, rv a 50)] [.int (nI (lnN P m)), .int (nI (lnN P m))] S h _
  refine tr_icmp_ne (pc := 27) (tgt := 35) dX10_step_27 (by decide) (nI_eq (by omega) (by omega)) (fun hcc => absurd (rfl) hcc) (fun _ => ?_)
  refine tr_aload_n (pc := 30) 3 dX10_step_30 rfl rfl ?_
  refine tr_callV (pc := 31) (rest := []) (ci := 10) dX10_step_31 ml_X10_254 cv_X10_end rfl rfl (Nat.le_of_ble_eq_true rfl) (hS.1 50 (13, 45) rfl) rfl (by decide) (c_mend (c' := c') (g' := g') (fs' := fs') (E' := E') hS hV hN hT hW hn hD hD4 hF hc hcR hfs hmk hg hr hne hpar) ?_
  rintro v1 S1 h1 ⟨rfl, rfl, z⟩
  show T a 2 mX10_step 34 [(3, .int (nI (lnN P m))), (2, .int (nI m)), (1, .int (nI D)), (0, rv a 50)] [] S h1 _
  exact tr_vret (pc := 34) dX10_step_34 rfl (⟨rfl, rfl, z⟩)
