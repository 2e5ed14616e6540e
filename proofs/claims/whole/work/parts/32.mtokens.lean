/-! ===== the reference: tokens ===== -/
def MTx (h : Hp) (tx : List Nat) : Prop := h 50 6 = nI tx.length ∧ ∀ j, j < tx.length → h 55 j = nI (tx.getD j 0)
def mkd (k : Nat) : Nat := if k < 128 then k else if k = 128 then 1001 else if k = 129 then 1002 else if k = 130 then 1003 else 1000
def MTk (h : Hp) (tx : List Nat) (p : Nat) : Prop := h 50 8 = nI (mkd (kd tx p)) ∧ h 50 9 = nI p ∧ h 50 7 = nI (aft tx p) ∧ p ≤ tx.length
theorem mkd_b {k w : Nat} (hw : w < 128) : mkd k = w ↔ k = w := by
  unfold mkd
  split
  · exact Iff.rfl
  · split
    · omega
    · split
      · omega
      · split <;> omega
theorem mkd_lt {k : Nat} : mkd k < 2000 := by
  unfold mkd
  split
  · omega
  · split
    · omega
    · split
      · omega
      · split <;> omega
theorem mkd_s {k : Nat} (hk : k < 128) : mkd k = k := if_pos hk
theorem mkd_w : ∀ k, k ≤ 131 → ((mkd k = 1001 ↔ k = 128) ∧ (mkd k = 1002 ↔ k = 129) ∧ (mkd k = 1000 ↔ k = 131)) := by decide +kernel
theorem f50_s {h : Hp} {k : Nat} {x : Int32} : hs h 50 (upd (h 50) k x) 50 k = x := by rw [hs_same, upd_s]
theorem f50_n {h : Hp} {j k : Nat} {x : Int32} (hj : j ≠ k) : hs h 50 (upd (h 50) k x) 50 j = h 50 j := by rw [hs_same, upd_n hj]
theorem MTx.put {h : Hp} {tx : List Nat} {k : Nat} {x : Int32} (hX : MTx h tx) (hk : 6 ≠ k) : MTx (hs h 50 (upd (h 50) k x)) tx := by
  unfold MTx
  rw [f50_n hk, hs_ne (show 55 ≠ 50 by decide)]
  exact hX
theorem MTx.fm {Fs L : List Nat} {h h' : Hp} {tx : List Nat} (hX : MTx h tx) (k : Fm Fs L h h') (h1 : 6 ∉ Fs) (h2 : 55 ∉ L) : MTx h' tx := by
  unfold MTx
  rw [k.2 6 h1, k.1 55 (by decide) h2]
  exact hX
set_option maxHeartbeats 4000000 in
set_option maxRecDepth 100000 in
theorem c_mwb_y {a : Am} {S : St} {h : Hp} (hS : IsSt S) {tx : List Nat} (hX : MTx h tx) (hv : TV tx) {q : Nat} (hq : h 50 7 = nI q) (hq2 : q ≤ tx.length) (hl : q < tx.length ∧ 97 ≤ tx.getD q 0 ∧ tx.getD q 0 ≤ 122) : CT a 1 mX10_isWordByte [rv a 50] S h (Rt (nI 1) S h) := by
  have hv1 := hv.1
  have h128 := tv_lt hv (p := q)
  refine met_of (by decide +kernel) (Nat.le_of_ble_eq_true rfl) ?_
  show T a 1 mX10_isWordByte 0 [(0, rv a 50)] [] S h _
  refine tr_aload_n (pc := 0) 0 dX10_isWordByte_0 rfl rfl ?_
  refine tr_getI (pc := 1) (x := nI q) dX10_isWordByte_1 (hS.1 50 (13, 45) rfl) fi_X10_93 rfl hq ?_
  refine tr_aload_n (pc := 4) 0 dX10_isWordByte_4 rfl rfl ?_
  refine tr_getI (pc := 5) (x := nI tx.length) dX10_isWordByte_5 (hS.1 50 (13, 45) rfl) fi_X10_96 rfl hX.1 ?_
  refine tr_icmp_ge (pc := 8) (tgt := 34) dX10_isWordByte_8 (by decide) (nI_leI (by omega) (by omega)) (fun hcc => absurd hcc (by omega)) (fun _ => ?_)
  refine tr_aload_n (pc := 11) 0 dX10_isWordByte_11 rfl rfl ?_
  refine tr_getR (pc := 12) (q := 55) dX10_isWordByte_12 (hS.1 50 (13, 45) rfl) fi_X10_22 rfl (hS.2 50 5 55 rfl) ?_
  refine tr_aload_n (pc := 15) 0 dX10_isWordByte_15 rfl rfl ?_
  refine tr_getI (pc := 16) (x := nI q) dX10_isWordByte_16 (hS.1 50 (13, 45) rfl) fi_X10_93 rfl hq ?_
  refine tr_iald (pc := 19) (v := nI (tx.getD q 0)) q dX10_isWordByte_19 (hS.1 55 (0, 200) rfl) rfl (by omega) (by decide) (hX.2 q (by omega)) ?_
  refine tr_bipush (pc := 20) (v := nI 97) dX10_isWordByte_20 (by decide) ?_
  refine tr_bipush (pc := 22) (v := nI 122) dX10_isWordByte_22 (by decide) ?_
  refine tr_callS (pc := 24) (rest := []) dX10_isWordByte_24 ml_X10_99 cs_X10_in rfl rfl (Nat.le_of_ble_eq_true rfl) (by decide) (c_min_in (fun z => by have := (nI_ltI (by omega) (by omega)).1 z; omega) (fun z => by have := (nI_ltI (by omega) (by omega)).1 z; omega)) ?_
  rintro _ _ _ ⟨rfl, rfl, rfl⟩
  show T a 1 mX10_isWordByte 27 [(0, rv a 50)] [.int (nI 1)] S h _
  refine tr_if_eq (pc := 27) (tgt := 34) dX10_isWordByte_27 (by decide) (nI_z_eq (by omega)) (fun hcc => absurd hcc (by decide)) (fun _ => ?_)
  refine tr_iconst (pc := 30) (v := nI 1) dX10_isWordByte_30 (by decide) ?_
  refine tr_goto (pc := 31) (tgt := 35) dX10_isWordByte_31 (by decide) ?_
  exact tr_iret (pc := 35) dX10_isWordByte_35 rfl (by decide) (⟨rfl, rfl, rfl⟩)

set_option maxHeartbeats 4000000 in
set_option maxRecDepth 100000 in
theorem c_mwb_n {a : Am} {S : St} {h : Hp} (hS : IsSt S) {tx : List Nat} (hX : MTx h tx) (hv : TV tx) {q : Nat} (hq : h 50 7 = nI q) (hq2 : q ≤ tx.length) (hl : ¬ (q < tx.length ∧ 97 ≤ tx.getD q 0 ∧ tx.getD q 0 ≤ 122)) : CT a 1 mX10_isWordByte [rv a 50] S h (Rt (nI 0) S h) := by
  have hv1 := hv.1
  have h128 := tv_lt hv (p := q)
  refine met_of (by decide +kernel) (Nat.le_of_ble_eq_true rfl) ?_
  show T a 1 mX10_isWordByte 0 [(0, rv a 50)] [] S h _
  refine tr_aload_n (pc := 0) 0 dX10_isWordByte_0 rfl rfl ?_
  refine tr_getI (pc := 1) (x := nI q) dX10_isWordByte_1 (hS.1 50 (13, 45) rfl) fi_X10_93 rfl hq ?_
  refine tr_aload_n (pc := 4) 0 dX10_isWordByte_4 rfl rfl ?_
  refine tr_getI (pc := 5) (x := nI tx.length) dX10_isWordByte_5 (hS.1 50 (13, 45) rfl) fi_X10_96 rfl hX.1 ?_
  refine tr_icmp_ge (pc := 8) (tgt := 34) dX10_isWordByte_8 (by decide) (nI_leI (by omega) (by omega)) (fun hb8 => ?_) (fun hb8 => ?_)
  · skip
    refine tr_iconst (pc := 34) (v := nI 0) dX10_isWordByte_34 (by decide) ?_
    exact tr_iret (pc := 35) dX10_isWordByte_35 rfl (by decide) (⟨rfl, rfl, rfl⟩)
  · skip
    refine tr_aload_n (pc := 11) 0 dX10_isWordByte_11 rfl rfl ?_
    refine tr_getR (pc := 12) (q := 55) dX10_isWordByte_12 (hS.1 50 (13, 45) rfl) fi_X10_22 rfl (hS.2 50 5 55 rfl) ?_
    refine tr_aload_n (pc := 15) 0 dX10_isWordByte_15 rfl rfl ?_
    refine tr_getI (pc := 16) (x := nI q) dX10_isWordByte_16 (hS.1 50 (13, 45) rfl) fi_X10_93 rfl hq ?_
    refine tr_iald (pc := 19) (v := nI (tx.getD q 0)) q dX10_isWordByte_19 (hS.1 55 (0, 200) rfl) rfl (by omega) (by decide) (hX.2 q (by omega)) ?_
    refine tr_bipush (pc := 20) (v := nI 97) dX10_isWordByte_20 (by decide) ?_
    refine tr_bipush (pc := 22) (v := nI 122) dX10_isWordByte_22 (by decide) ?_
    refine tr_callS (pc := 24) (rest := []) dX10_isWordByte_24 ml_X10_99 cs_X10_in rfl rfl (Nat.le_of_ble_eq_true rfl) (by decide) (c_min_out (by
        by_cases z : tx.getD q 0 < 97
        · exact Or.inl ((nI_ltI (by omega) (by omega)).2 z)
        · exact Or.inr ((nI_ltI (by omega) (by omega)).2 (by omega)))) ?_
    rintro _ _ _ ⟨rfl, rfl, rfl⟩
    show T a 1 mX10_isWordByte 27 [(0, rv a 50)] [.int (nI 0)] S h _
    refine tr_if_eq (pc := 27) (tgt := 34) dX10_isWordByte_27 (by decide) (nI_z_eq (by omega)) (fun _ => ?_) (fun hcc => absurd (by decide) hcc)
    refine tr_iconst (pc := 34) (v := nI 0) dX10_isWordByte_34 (by decide) ?_
    exact tr_iret (pc := 35) dX10_isWordByte_35 rfl (by decide) (⟨rfl, rfl, rfl⟩)

set_option maxHeartbeats 4000000 in
set_option maxRecDepth 100000 in
theorem c_mw0 {a : Am} {S : St} {h : Hp} (hS : IsSt S) {tx : List Nat} (hX : MTx h tx) (hv : TV tx) {p e : Nat} (hp : h 50 9 = nI p) (he : h 50 7 = nI e) (hpe : p ≤ e) (hel : e ≤ tx.length) : CT a 0 mX10_isWord [rv a 50, .int (nI 110), .int (nI 101), .int (nI 119), .int (nI 0)] S h (Rt (nI (spB tx p (e - p) 0)) S h) := by
  have hv1 := hv.1
  have g0 := tv_lt hv (p := p)
  have g1 := tv_lt hv (p := p + 1)
  have g2 := tv_lt hv (p := p + 2)
  have g3 := tv_lt hv (p := p + 3)
  refine met_of (by decide +kernel) (Nat.le_of_ble_eq_true rfl) ?_
  show T a 0 mX10_isWord 0 [(0, rv a 50), (1, .int (nI 110)), (2, .int (nI 101)), (3, .int (nI 119)), (4, .int (nI 0))] [] S h _
  refine tr_aload_n (pc := 0) 0 dX10_isWord_0 rfl rfl ?_
  refine tr_getI (pc := 1) (x := nI e) dX10_isWord_1 (hS.1 50 (13, 45) rfl) fi_X10_93 rfl he ?_
  refine tr_aload_n (pc := 4) 0 dX10_isWord_4 rfl rfl ?_
  refine tr_getI (pc := 5) (x := nI p) dX10_isWord_5 (hS.1 50 (13, 45) rfl) fi_X10_103 rfl hp ?_
  refine tr_isub (pc := 8) (v := nI (e - p)) dX10_isWord_8 (pk_sub (by omega)) ?_
  refine tr_istore (pc := 9) (lv' := [(5, .int (nI (e - p))), (0, rv a 50), (1, .int (nI 110)), (2, .int (nI 101)), (3, .int (nI 119)), (4, .int (nI 0))]) dX10_isWord_9 (by decide) rfl ?_
  refine tr_iload (pc := 11) 0 dX10_isWord_11 rfl ?_
  refine tr_iload (pc := 13) 5 dX10_isWord_13 rfl ?_
  refine tr_if_ne (pc := 15) (tgt := 22) dX10_isWord_15 (by decide) (nI_z_eq (by omega)) (fun hcc => absurd (by decide) hcc) (fun _ => ?_)
  refine tr_iconst (pc := 18) (v := nI 3) dX10_isWord_18 (by decide) ?_
  refine tr_goto (pc := 19) (tgt := 23) dX10_isWord_19 (by decide) ?_
  refine tr_icmp_ne (pc := 23) (tgt := 73) dX10_isWord_23 (by decide) (nI_eq (by omega) (by omega)) (fun hb23 => ?_) (fun hb23 => ?_)
  · skip
    have hz : spB tx p (e - p) 0 = 0 := by
      by_cases z : spB tx p (e - p) 0 = 0
      · exact z
      · have := spB_0.1 z
        omega
    refine tr_iconst (pc := 73) (v := nI 0) dX10_isWord_73 (by decide) ?_
    refine tr_istore (pc := 74) (lv' := [(6, .int (nI 0)), (5, .int (nI (e - p))), (0, rv a 50), (1, .int (nI 110)), (2, .int (nI 101)), (3, .int (nI 119)), (4, .int (nI 0))]) dX10_isWord_74 (by decide) rfl ?_
    refine tr_iload (pc := 76) 0 dX10_isWord_76 rfl ?_
    refine tr_if_eq (pc := 78) (tgt := 106) dX10_isWord_78 (by decide) (nI_z_eq (by omega)) (fun _ => ?_) (fun hcc => absurd (by decide) hcc)
    refine tr_iconst (pc := 106) (v := nI 0) dX10_isWord_106 (by decide) ?_
    exact tr_iret (pc := 107) dX10_isWord_107 rfl (by decide) (⟨by rw [hz], rfl, rfl⟩)
  · skip
    refine tr_aload_n (pc := 26) 1 dX10_isWord_26 rfl rfl ?_
    refine tr_getR (pc := 27) (q := 55) dX10_isWord_27 (hS.1 50 (13, 45) rfl) fi_X10_22 rfl (hS.2 50 5 55 rfl) ?_
    refine tr_aload_n (pc := 30) 1 dX10_isWord_30 rfl rfl ?_
    refine tr_getI (pc := 31) (x := nI p) dX10_isWord_31 (hS.1 50 (13, 45) rfl) fi_X10_103 rfl hp ?_
    refine tr_iald (pc := 34) (v := nI (tx.getD p 0)) p dX10_isWord_34 (hS.1 55 (0, 200) rfl) rfl (by omega) (by decide) (hX.2 p (by omega)) ?_
    refine tr_iload_n (pc := 35) 2 dX10_isWord_35 rfl rfl ?_
    refine tr_icmp_ne (pc := 36) (tgt := 73) dX10_isWord_36 (by decide) (nI_eq (by omega) (by omega)) (fun hb36 => ?_) (fun hb36 => ?_)
    · skip
      have hz : spB tx p (e - p) 0 = 0 := by
        by_cases z : spB tx p (e - p) 0 = 0
        · exact z
        · have := spB_0.1 z
          omega
      refine tr_iconst (pc := 73) (v := nI 0) dX10_isWord_73 (by decide) ?_
      refine tr_istore (pc := 74) (lv' := [(6, .int (nI 0)), (5, .int (nI (e - p))), (0, rv a 50), (1, .int (nI 110)), (2, .int (nI 101)), (3, .int (nI 119)), (4, .int (nI 0))]) dX10_isWord_74 (by decide) rfl ?_
      refine tr_iload (pc := 76) 0 dX10_isWord_76 rfl ?_
      refine tr_if_eq (pc := 78) (tgt := 106) dX10_isWord_78 (by decide) (nI_z_eq (by omega)) (fun _ => ?_) (fun hcc => absurd (by decide) hcc)
      refine tr_iconst (pc := 106) (v := nI 0) dX10_isWord_106 (by decide) ?_
      exact tr_iret (pc := 107) dX10_isWord_107 rfl (by decide) (⟨by rw [hz], rfl, rfl⟩)
    · skip
      refine tr_aload_n (pc := 39) 1 dX10_isWord_39 rfl rfl ?_
      refine tr_getR (pc := 40) (q := 55) dX10_isWord_40 (hS.1 50 (13, 45) rfl) fi_X10_22 rfl (hS.2 50 5 55 rfl) ?_
      refine tr_aload_n (pc := 43) 1 dX10_isWord_43 rfl rfl ?_
      refine tr_getI (pc := 44) (x := nI p) dX10_isWord_44 (hS.1 50 (13, 45) rfl) fi_X10_103 rfl hp ?_
      refine tr_iconst (pc := 47) (v := nI 1) dX10_isWord_47 (by decide) ?_
      refine tr_iadd (pc := 48) (v := nI (p + 1)) dX10_isWord_48 (nI_add _ _) ?_
      refine tr_iald (pc := 49) (v := nI (tx.getD (p + 1) 0)) (p + 1) dX10_isWord_49 (hS.1 55 (0, 200) rfl) rfl (by omega) (by decide) (hX.2 (p + 1) (by omega)) ?_
      refine tr_iload_n (pc := 50) 3 dX10_isWord_50 rfl rfl ?_
      refine tr_icmp_ne (pc := 51) (tgt := 73) dX10_isWord_51 (by decide) (nI_eq (by omega) (by omega)) (fun hb51 => ?_) (fun hb51 => ?_)
      · skip
        have hz : spB tx p (e - p) 0 = 0 := by
          by_cases z : spB tx p (e - p) 0 = 0
          · exact z
          · have := spB_0.1 z
            omega
        refine tr_iconst (pc := 73) (v := nI 0) dX10_isWord_73 (by decide) ?_
        refine tr_istore (pc := 74) (lv' := [(6, .int (nI 0)), (5, .int (nI (e - p))), (0, rv a 50), (1, .int (nI 110)), (2, .int (nI 101)), (3, .int (nI 119)), (4, .int (nI 0))]) dX10_isWord_74 (by decide) rfl ?_
        refine tr_iload (pc := 76) 0 dX10_isWord_76 rfl ?_
        refine tr_if_eq (pc := 78) (tgt := 106) dX10_isWord_78 (by decide) (nI_z_eq (by omega)) (fun _ => ?_) (fun hcc => absurd (by decide) hcc)
        refine tr_iconst (pc := 106) (v := nI 0) dX10_isWord_106 (by decide) ?_
        exact tr_iret (pc := 107) dX10_isWord_107 rfl (by decide) (⟨by rw [hz], rfl, rfl⟩)
      · skip
        refine tr_aload_n (pc := 54) 1 dX10_isWord_54 rfl rfl ?_
        refine tr_getR (pc := 55) (q := 55) dX10_isWord_55 (hS.1 50 (13, 45) rfl) fi_X10_22 rfl (hS.2 50 5 55 rfl) ?_
        refine tr_aload_n (pc := 58) 1 dX10_isWord_58 rfl rfl ?_
        refine tr_getI (pc := 59) (x := nI p) dX10_isWord_59 (hS.1 50 (13, 45) rfl) fi_X10_103 rfl hp ?_
        refine tr_iconst (pc := 62) (v := nI 2) dX10_isWord_62 (by decide) ?_
        refine tr_iadd (pc := 63) (v := nI (p + 2)) dX10_isWord_63 (nI_add _ _) ?_
        refine tr_iald (pc := 64) (v := nI (tx.getD (p + 2) 0)) (p + 2) dX10_isWord_64 (hS.1 55 (0, 200) rfl) rfl (by omega) (by decide) (hX.2 (p + 2) (by omega)) ?_
        refine tr_iload_n (pc := 65) 4 dX10_isWord_65 rfl rfl ?_
        refine tr_icmp_ne (pc := 66) (tgt := 73) dX10_isWord_66 (by decide) (nI_eq (by omega) (by omega)) (fun hb66 => ?_) (fun hb66 => ?_)
        · skip
          have hz : spB tx p (e - p) 0 = 0 := by
            by_cases z : spB tx p (e - p) 0 = 0
            · exact z
            · have := spB_0.1 z
              omega
          refine tr_iconst (pc := 73) (v := nI 0) dX10_isWord_73 (by decide) ?_
          refine tr_istore (pc := 74) (lv' := [(6, .int (nI 0)), (5, .int (nI (e - p))), (0, rv a 50), (1, .int (nI 110)), (2, .int (nI 101)), (3, .int (nI 119)), (4, .int (nI 0))]) dX10_isWord_74 (by decide) rfl ?_
          refine tr_iload (pc := 76) 0 dX10_isWord_76 rfl ?_
          refine tr_if_eq (pc := 78) (tgt := 106) dX10_isWord_78 (by decide) (nI_z_eq (by omega)) (fun _ => ?_) (fun hcc => absurd (by decide) hcc)
          refine tr_iconst (pc := 106) (v := nI 0) dX10_isWord_106 (by decide) ?_
          exact tr_iret (pc := 107) dX10_isWord_107 rfl (by decide) (⟨by rw [hz], rfl, rfl⟩)
        · skip
          refine tr_iconst (pc := 69) (v := nI 1) dX10_isWord_69 (by decide) ?_
          refine tr_goto (pc := 70) (tgt := 74) dX10_isWord_70 (by decide) ?_
          refine tr_istore (pc := 74) (lv' := [(6, .int (nI 1)), (5, .int (nI (e - p))), (0, rv a 50), (1, .int (nI 110)), (2, .int (nI 101)), (3, .int (nI 119)), (4, .int (nI 0))]) dX10_isWord_74 (by decide) rfl ?_
          refine tr_iload (pc := 76) 0 dX10_isWord_76 rfl ?_
          refine tr_if_eq (pc := 78) (tgt := 106) dX10_isWord_78 (by decide) (nI_z_eq (by omega)) (fun hcc => absurd hcc (by decide)) (fun _ => ?_)
          refine tr_iload (pc := 81) 6 dX10_isWord_81 rfl ?_
          refine tr_if_eq (pc := 83) (tgt := 102) dX10_isWord_83 (by decide) (nI_z_eq (by omega)) (fun _ => ?_) (fun hcc => absurd (by decide) hcc)
          have hz : spB tx p (e - p) 0 = 1 := by
            have z := spB_0.2 (show _ ∧ _ from ⟨by omega, by omega, by omega, by omega⟩)
            have := spB_le (tx := tx) (p := p) (L := e - p) (j := 0)
            omega
          refine tr_iconst (pc := 102) (v := nI 1) dX10_isWord_102 (by decide) ?_
          refine tr_goto (pc := 103) (tgt := 107) dX10_isWord_103 (by decide) ?_
          exact tr_iret (pc := 107) dX10_isWord_107 rfl (by decide) (⟨by rw [hz], rfl, rfl⟩)

set_option maxHeartbeats 4000000 in
set_option maxRecDepth 100000 in
theorem c_mw1 {a : Am} {S : St} {h : Hp} (hS : IsSt S) {tx : List Nat} (hX : MTx h tx) (hv : TV tx) {p e : Nat} (hp : h 50 9 = nI p) (he : h 50 7 = nI e) (hpe : p ≤ e) (hel : e ≤ tx.length) : CT a 0 mX10_isWord [rv a 50, .int (nI 108), .int (nI 111), .int (nI 99), .int (nI 107)] S h (Rt (nI (spB tx p (e - p) 1)) S h) := by
  have hv1 := hv.1
  have g0 := tv_lt hv (p := p)
  have g1 := tv_lt hv (p := p + 1)
  have g2 := tv_lt hv (p := p + 2)
  have g3 := tv_lt hv (p := p + 3)
  refine met_of (by decide +kernel) (Nat.le_of_ble_eq_true rfl) ?_
  show T a 0 mX10_isWord 0 [(0, rv a 50), (1, .int (nI 108)), (2, .int (nI 111)), (3, .int (nI 99)), (4, .int (nI 107))] [] S h _
  refine tr_aload_n (pc := 0) 0 dX10_isWord_0 rfl rfl ?_
  refine tr_getI (pc := 1) (x := nI e) dX10_isWord_1 (hS.1 50 (13, 45) rfl) fi_X10_93 rfl he ?_
  refine tr_aload_n (pc := 4) 0 dX10_isWord_4 rfl rfl ?_
  refine tr_getI (pc := 5) (x := nI p) dX10_isWord_5 (hS.1 50 (13, 45) rfl) fi_X10_103 rfl hp ?_
  refine tr_isub (pc := 8) (v := nI (e - p)) dX10_isWord_8 (pk_sub (by omega)) ?_
  refine tr_istore (pc := 9) (lv' := [(5, .int (nI (e - p))), (0, rv a 50), (1, .int (nI 108)), (2, .int (nI 111)), (3, .int (nI 99)), (4, .int (nI 107))]) dX10_isWord_9 (by decide) rfl ?_
  refine tr_iload (pc := 11) 0 dX10_isWord_11 rfl ?_
  refine tr_iload (pc := 13) 5 dX10_isWord_13 rfl ?_
  refine tr_if_ne (pc := 15) (tgt := 22) dX10_isWord_15 (by decide) (nI_z_eq (by omega)) (fun _ => ?_) (fun hcc => absurd hcc (by decide))
  refine tr_iconst (pc := 22) (v := nI 4) dX10_isWord_22 (by decide) ?_
  refine tr_icmp_ne (pc := 23) (tgt := 73) dX10_isWord_23 (by decide) (nI_eq (by omega) (by omega)) (fun hb23 => ?_) (fun hb23 => ?_)
  · skip
    have hz : spB tx p (e - p) 1 = 0 := by
      by_cases z : spB tx p (e - p) 1 = 0
      · exact z
      · have := spB_1.1 z
        omega
    refine tr_iconst (pc := 73) (v := nI 0) dX10_isWord_73 (by decide) ?_
    refine tr_istore (pc := 74) (lv' := [(6, .int (nI 0)), (5, .int (nI (e - p))), (0, rv a 50), (1, .int (nI 108)), (2, .int (nI 111)), (3, .int (nI 99)), (4, .int (nI 107))]) dX10_isWord_74 (by decide) rfl ?_
    refine tr_iload (pc := 76) 0 dX10_isWord_76 rfl ?_
    refine tr_if_eq (pc := 78) (tgt := 106) dX10_isWord_78 (by decide) (nI_z_eq (by omega)) (fun _ => ?_) (fun hcc => absurd (by decide) hcc)
    refine tr_iconst (pc := 106) (v := nI 0) dX10_isWord_106 (by decide) ?_
    exact tr_iret (pc := 107) dX10_isWord_107 rfl (by decide) (⟨by rw [hz], rfl, rfl⟩)
  · skip
    refine tr_aload_n (pc := 26) 1 dX10_isWord_26 rfl rfl ?_
    refine tr_getR (pc := 27) (q := 55) dX10_isWord_27 (hS.1 50 (13, 45) rfl) fi_X10_22 rfl (hS.2 50 5 55 rfl) ?_
    refine tr_aload_n (pc := 30) 1 dX10_isWord_30 rfl rfl ?_
    refine tr_getI (pc := 31) (x := nI p) dX10_isWord_31 (hS.1 50 (13, 45) rfl) fi_X10_103 rfl hp ?_
    refine tr_iald (pc := 34) (v := nI (tx.getD p 0)) p dX10_isWord_34 (hS.1 55 (0, 200) rfl) rfl (by omega) (by decide) (hX.2 p (by omega)) ?_
    refine tr_iload_n (pc := 35) 2 dX10_isWord_35 rfl rfl ?_
    refine tr_icmp_ne (pc := 36) (tgt := 73) dX10_isWord_36 (by decide) (nI_eq (by omega) (by omega)) (fun hb36 => ?_) (fun hb36 => ?_)
    · skip
      have hz : spB tx p (e - p) 1 = 0 := by
        by_cases z : spB tx p (e - p) 1 = 0
        · exact z
        · have := spB_1.1 z
          omega
      refine tr_iconst (pc := 73) (v := nI 0) dX10_isWord_73 (by decide) ?_
      refine tr_istore (pc := 74) (lv' := [(6, .int (nI 0)), (5, .int (nI (e - p))), (0, rv a 50), (1, .int (nI 108)), (2, .int (nI 111)), (3, .int (nI 99)), (4, .int (nI 107))]) dX10_isWord_74 (by decide) rfl ?_
      refine tr_iload (pc := 76) 0 dX10_isWord_76 rfl ?_
      refine tr_if_eq (pc := 78) (tgt := 106) dX10_isWord_78 (by decide) (nI_z_eq (by omega)) (fun _ => ?_) (fun hcc => absurd (by decide) hcc)
      refine tr_iconst (pc := 106) (v := nI 0) dX10_isWord_106 (by decide) ?_
      exact tr_iret (pc := 107) dX10_isWord_107 rfl (by decide) (⟨by rw [hz], rfl, rfl⟩)
    · skip
      refine tr_aload_n (pc := 39) 1 dX10_isWord_39 rfl rfl ?_
      refine tr_getR (pc := 40) (q := 55) dX10_isWord_40 (hS.1 50 (13, 45) rfl) fi_X10_22 rfl (hS.2 50 5 55 rfl) ?_
      refine tr_aload_n (pc := 43) 1 dX10_isWord_43 rfl rfl ?_
      refine tr_getI (pc := 44) (x := nI p) dX10_isWord_44 (hS.1 50 (13, 45) rfl) fi_X10_103 rfl hp ?_
      refine tr_iconst (pc := 47) (v := nI 1) dX10_isWord_47 (by decide) ?_
      refine tr_iadd (pc := 48) (v := nI (p + 1)) dX10_isWord_48 (nI_add _ _) ?_
      refine tr_iald (pc := 49) (v := nI (tx.getD (p + 1) 0)) (p + 1) dX10_isWord_49 (hS.1 55 (0, 200) rfl) rfl (by omega) (by decide) (hX.2 (p + 1) (by omega)) ?_
      refine tr_iload_n (pc := 50) 3 dX10_isWord_50 rfl rfl ?_
      refine tr_icmp_ne (pc := 51) (tgt := 73) dX10_isWord_51 (by decide) (nI_eq (by omega) (by omega)) (fun hb51 => ?_) (fun hb51 => ?_)
      · skip
        have hz : spB tx p (e - p) 1 = 0 := by
          by_cases z : spB tx p (e - p) 1 = 0
          · exact z
          · have := spB_1.1 z
            omega
        refine tr_iconst (pc := 73) (v := nI 0) dX10_isWord_73 (by decide) ?_
        refine tr_istore (pc := 74) (lv' := [(6, .int (nI 0)), (5, .int (nI (e - p))), (0, rv a 50), (1, .int (nI 108)), (2, .int (nI 111)), (3, .int (nI 99)), (4, .int (nI 107))]) dX10_isWord_74 (by decide) rfl ?_
        refine tr_iload (pc := 76) 0 dX10_isWord_76 rfl ?_
        refine tr_if_eq (pc := 78) (tgt := 106) dX10_isWord_78 (by decide) (nI_z_eq (by omega)) (fun _ => ?_) (fun hcc => absurd (by decide) hcc)
        refine tr_iconst (pc := 106) (v := nI 0) dX10_isWord_106 (by decide) ?_
        exact tr_iret (pc := 107) dX10_isWord_107 rfl (by decide) (⟨by rw [hz], rfl, rfl⟩)
      · skip
        refine tr_aload_n (pc := 54) 1 dX10_isWord_54 rfl rfl ?_
        refine tr_getR (pc := 55) (q := 55) dX10_isWord_55 (hS.1 50 (13, 45) rfl) fi_X10_22 rfl (hS.2 50 5 55 rfl) ?_
        refine tr_aload_n (pc := 58) 1 dX10_isWord_58 rfl rfl ?_
        refine tr_getI (pc := 59) (x := nI p) dX10_isWord_59 (hS.1 50 (13, 45) rfl) fi_X10_103 rfl hp ?_
        refine tr_iconst (pc := 62) (v := nI 2) dX10_isWord_62 (by decide) ?_
        refine tr_iadd (pc := 63) (v := nI (p + 2)) dX10_isWord_63 (nI_add _ _) ?_
        refine tr_iald (pc := 64) (v := nI (tx.getD (p + 2) 0)) (p + 2) dX10_isWord_64 (hS.1 55 (0, 200) rfl) rfl (by omega) (by decide) (hX.2 (p + 2) (by omega)) ?_
        refine tr_iload_n (pc := 65) 4 dX10_isWord_65 rfl rfl ?_
        refine tr_icmp_ne (pc := 66) (tgt := 73) dX10_isWord_66 (by decide) (nI_eq (by omega) (by omega)) (fun hb66 => ?_) (fun hb66 => ?_)
        · skip
          have hz : spB tx p (e - p) 1 = 0 := by
            by_cases z : spB tx p (e - p) 1 = 0
            · exact z
            · have := spB_1.1 z
              omega
          refine tr_iconst (pc := 73) (v := nI 0) dX10_isWord_73 (by decide) ?_
          refine tr_istore (pc := 74) (lv' := [(6, .int (nI 0)), (5, .int (nI (e - p))), (0, rv a 50), (1, .int (nI 108)), (2, .int (nI 111)), (3, .int (nI 99)), (4, .int (nI 107))]) dX10_isWord_74 (by decide) rfl ?_
          refine tr_iload (pc := 76) 0 dX10_isWord_76 rfl ?_
          refine tr_if_eq (pc := 78) (tgt := 106) dX10_isWord_78 (by decide) (nI_z_eq (by omega)) (fun _ => ?_) (fun hcc => absurd (by decide) hcc)
          refine tr_iconst (pc := 106) (v := nI 0) dX10_isWord_106 (by decide) ?_
          exact tr_iret (pc := 107) dX10_isWord_107 rfl (by decide) (⟨by rw [hz], rfl, rfl⟩)
        · skip
          refine tr_iconst (pc := 69) (v := nI 1) dX10_isWord_69 (by decide) ?_
          refine tr_goto (pc := 70) (tgt := 74) dX10_isWord_70 (by decide) ?_
          refine tr_istore (pc := 74) (lv' := [(6, .int (nI 1)), (5, .int (nI (e - p))), (0, rv a 50), (1, .int (nI 108)), (2, .int (nI 111)), (3, .int (nI 99)), (4, .int (nI 107))]) dX10_isWord_74 (by decide) rfl ?_
          refine tr_iload (pc := 76) 0 dX10_isWord_76 rfl ?_
          refine tr_if_eq (pc := 78) (tgt := 106) dX10_isWord_78 (by decide) (nI_z_eq (by omega)) (fun hcc => absurd hcc (by decide)) (fun _ => ?_)
          refine tr_iload (pc := 81) 6 dX10_isWord_81 rfl ?_
          refine tr_if_eq (pc := 83) (tgt := 102) dX10_isWord_83 (by decide) (nI_z_eq (by omega)) (fun hcc => absurd hcc (by decide)) (fun _ => ?_)
          refine tr_aload_n (pc := 86) 2 dX10_isWord_86 rfl rfl ?_
          refine tr_getR (pc := 87) (q := 55) dX10_isWord_87 (hS.1 50 (13, 45) rfl) fi_X10_22 rfl (hS.2 50 5 55 rfl) ?_
          refine tr_aload_n (pc := 90) 2 dX10_isWord_90 rfl rfl ?_
          refine tr_getI (pc := 91) (x := nI p) dX10_isWord_91 (hS.1 50 (13, 45) rfl) fi_X10_103 rfl hp ?_
          refine tr_iconst (pc := 94) (v := nI 3) dX10_isWord_94 (by decide) ?_
          refine tr_iadd (pc := 95) (v := nI (p + 3)) dX10_isWord_95 (nI_add _ _) ?_
          refine tr_iald (pc := 96) (v := nI (tx.getD (p + 3) 0)) (p + 3) dX10_isWord_96 (hS.1 55 (0, 200) rfl) rfl (by omega) (by decide) (hX.2 (p + 3) (by omega)) ?_
          refine tr_iload (pc := 97) 6 dX10_isWord_97 rfl ?_
          refine tr_icmp_ne (pc := 99) (tgt := 106) dX10_isWord_99 (by decide) (nI_eq (by omega) (by omega)) (fun hb99 => ?_) (fun hb99 => ?_)
          · skip
            have hz : spB tx p (e - p) 1 = 0 := by
              by_cases z : spB tx p (e - p) 1 = 0
              · exact z
              · have := spB_1.1 z
                omega
            refine tr_iconst (pc := 106) (v := nI 0) dX10_isWord_106 (by decide) ?_
            exact tr_iret (pc := 107) dX10_isWord_107 rfl (by decide) (⟨by rw [hz], rfl, rfl⟩)
          · skip
            have hz : spB tx p (e - p) 1 = 1 := by
              have z := spB_1.2 (show _ ∧ _ from ⟨by omega, by omega, by omega, by omega, by omega⟩)
              have := spB_le (tx := tx) (p := p) (L := e - p) (j := 1)
              omega
            refine tr_iconst (pc := 102) (v := nI 1) dX10_isWord_102 (by decide) ?_
            refine tr_goto (pc := 103) (tgt := 107) dX10_isWord_103 (by decide) ?_
            exact tr_iret (pc := 107) dX10_isWord_107 rfl (by decide) (⟨by rw [hz], rfl, rfl⟩)

theorem mtk_of {h : Hp} {tx : List Nat} {q : Nat} {x : Int32} (h8 : h 50 8 = x) (h9 : h 50 9 = nI q) (h7 : h 50 7 = nI (aft tx q)) (hq : q ≤ tx.length) (hx : x = nI (mkd (kd tx q))) : MTk h tx q := ⟨h8.trans hx, h9, h7, hq⟩
theorem kd_by {tx : List Nat} {q : Nat} (hq : q < tx.length) (hl : lend tx q ≤ q + 1) : kd tx q = tx.getD q 0 := by
  unfold kd
  rw [if_neg (by omega), if_pos hl]
theorem kd_wd {tx : List Nat} {q : Nat} (hq : q < tx.length) (hl : q + 1 < lend tx q) : kd tx q = if spB tx q (lend tx q - q) 0 ≠ 0 then 128 else if spB tx q (lend tx q - q) 1 ≠ 0 then 129 else 130 := by
  unfold kd
  rw [if_neg (by omega), if_neg (by omega), wkd_sp]
theorem aft_w {tx : List Nat} {q : Nat} (hq : q < tx.length) (hl : q + 1 ≤ lend tx q) : aft tx q = lend tx q := by
  unfold aft
  rw [if_neg (by omega)]
  omega
theorem aft_1 {tx : List Nat} {q : Nat} (hq : q < tx.length) (hl : lend tx q ≤ q + 1) : aft tx q = q + 1 := by
  unfold aft
  rw [if_neg (by omega)]
  omega
set_option maxHeartbeats 4000000 in
set_option maxRecDepth 100000 in
theorem c_mnext {a : Am} {S : St} {h : Hp} (hS : IsSt S) {tx : List Nat} (hX : MTx h tx) (hv : TV tx) {q0 : Nat} (hA0 : h 50 7 = nI q0) (hq0 : q0 ≤ tx.length) : CT a 2 mX10_next [rv a 50] S h (fun v S' h' => v = none ∧ S = S' ∧ MTk h' tx (skp tx q0) ∧ MTx h' tx ∧ Fm [7, 8, 9] [] h h') := by
  have hv1 := hv.1
  have hX0 := hX
  refine met_of (by decide +kernel) (Nat.le_of_ble_eq_true rfl) ?_
  show T a 2 mX10_next 0 [(0, rv a 50)] [] S h _
  have L0 : ∀ (fu : Nat) (q : Nat) (h1 : Hp), tx.length - q < fu → q ≤ tx.length → skp tx q = skp tx q0 → MTx h1 tx → h1 50 7 = nI q → Fm [7, 8, 9] [] h h1 → T a 2 mX10_next 0 [(0, rv a 50)] [] S h1 (fun v S' h' => v = none ∧ S = S' ∧ MTk h' tx (skp tx q0) ∧ MTx h' tx ∧ Fm [7, 8, 9] [] h h') := by
    intro fu
    induction fu with
    | zero => intro q h1 hu hq2 hq3 hX1 hA1 hM1; omega
    | succ fu ih =>
      intro q h1 hu hq2 hq3 hX1 hA1 hM1
      have hv1 := hv.1
      have h128 := tv_lt hv (p := q)
      refine tr_aload_n (pc := 0) 0 dX10_next_0 rfl rfl ?_
      refine tr_getI (pc := 1) (x := nI q) dX10_next_1 (hS.1 50 (13, 45) rfl) fi_X10_93 rfl hA1 ?_
      refine tr_aload_n (pc := 4) 0 dX10_next_4 rfl rfl ?_
      refine tr_getI (pc := 5) (x := nI tx.length) dX10_next_5 (hS.1 50 (13, 45) rfl) fi_X10_96 rfl hX1.1 ?_
      refine tr_icmp_ge (pc := 8) (tgt := 38) dX10_next_8 (by decide) (nI_leI (by omega) (by omega)) (fun hb8 => ?_) (fun hb8 => ?_)
      · skip
        have hsk : skp tx q0 = q := by
          rw [← hq3]
          exact skp_stop (by omega)
        refine tr_aload_n (pc := 38) 0 dX10_next_38 rfl rfl ?_
        refine tr_aload_n (pc := 39) 0 dX10_next_39 rfl rfl ?_
        refine tr_getI (pc := 40) (x := nI q) dX10_next_40 (hS.1 50 (13, 45) rfl) fi_X10_93 rfl hA1 ?_
        refine tr_putI (pc := 43) (x := nI q) dX10_next_43 (hS.1 50 (13, 45) rfl) fi_X10_103 rfl rfl rfl ?_
        have hX2 := hX1.put (k := 9) (x := nI q) (by decide)
        have hM2 := hM1.put (p := 9) (x := nI q) (by decide)
        have hA2 : (hs h1 50 (upd (h1 50) 9 (nI q))) 50 7 = nI q := (f50_n (by decide)).trans hA1
        have hP2 : (hs h1 50 (upd (h1 50) 9 (nI q))) 50 9 = nI q := f50_s
        generalize hs h1 50 (upd (h1 50) 9 (nI q)) = h2 at hX2 hM2 hA2 hP2 ⊢
        refine tr_aload_n (pc := 46) 0 dX10_next_46 rfl rfl ?_
        refine tr_getI (pc := 47) (x := nI q) dX10_next_47 (hS.1 50 (13, 45) rfl) fi_X10_93 rfl hA2 ?_
        refine tr_aload_n (pc := 50) 0 dX10_next_50 rfl rfl ?_
        refine tr_getI (pc := 51) (x := nI tx.length) dX10_next_51 (hS.1 50 (13, 45) rfl) fi_X10_96 rfl hX2.1 ?_
        refine tr_icmp_ne (pc := 54) (tgt := 65) dX10_next_54 (by decide) (nI_eq (by omega) (by omega)) (fun hb54 => ?_) (fun hb54 => ?_)
        · skip
          by_cases hl : q < tx.length ∧ 97 ≤ tx.getD q 0 ∧ tx.getD q 0 ≤ 122
          · skip
            refine tr_aload_n (pc := 65) 0 dX10_next_65 rfl rfl ?_
            refine tr_callV (pc := 66) (rest := []) (ci := 10) dX10_next_66 ml_X10_109 cv_X10_isWordByte rfl rfl (Nat.le_of_ble_eq_true rfl) (hS.1 50 (13, 45) rfl) rfl (by decide) (c_mwb_y hS hX2 hv hA2 hq2 hl) ?_
            rintro _ _ _ ⟨rfl, rfl, rfl⟩
            show T a 2 mX10_next 69 [(0, rv a 50)] [.int (nI 1)] S h2 _
            refine tr_if_ne (pc := 69) (tgt := 96) dX10_next_69 (by decide) (nI_z_eq (by omega)) (fun _ => ?_) (fun hcc => absurd hcc (by decide))
            have L96 : ∀ (fu : Nat) (e : Nat) (h3 : Hp), tx.length - e < fu → q ≤ e → e ≤ tx.length → lend tx e = lend tx q → MTx h3 tx → h3 50 7 = nI e → h3 50 9 = nI q → Fm [7, 8, 9] [] h h3 → T a 2 mX10_next 96 [(0, rv a 50)] [] S h3 (fun v S' h' => v = none ∧ S = S' ∧ MTk h' tx (skp tx q0) ∧ MTx h' tx ∧ Fm [7, 8, 9] [] h h') := by
              intro fu
              induction fu with
              | zero => intro e h3 hu2 he1 he2 he3 hX3 hA3 hP3 hM3; omega
              | succ fu ih2 =>
                intro e h3 hu2 he1 he2 he3 hX3 hA3 hP3 hM3
                have g128 := tv_lt hv (p := e)
                refine tr_aload_n (pc := 96) 0 dX10_next_96 rfl rfl ?_
                by_cases he5 : e < tx.length ∧ 97 ≤ tx.getD e 0 ∧ tx.getD e 0 ≤ 122
                · skip
                  refine tr_callV (pc := 97) (rest := []) (ci := 10) dX10_next_97 ml_X10_109 cv_X10_isWordByte rfl rfl (Nat.le_of_ble_eq_true rfl) (hS.1 50 (13, 45) rfl) rfl (by decide) (c_mwb_y hS hX3 hv hA3 he2 he5) ?_
                  rintro _ _ _ ⟨rfl, rfl, rfl⟩
                  show T a 2 mX10_next 100 [(0, rv a 50)] [.int (nI 1)] S h3 _
                  refine tr_if_eq (pc := 100) (tgt := 116) dX10_next_100 (by decide) (nI_z_eq (by omega)) (fun hcc => absurd hcc (by decide)) (fun _ => ?_)
                  refine tr_aload_n (pc := 103) 0 dX10_next_103 rfl rfl ?_
                  refine tr_dup (pc := 104) dX10_next_104 rfl ?_
                  refine tr_getI (pc := 105) (x := nI e) dX10_next_105 (hS.1 50 (13, 45) rfl) fi_X10_93 rfl hA3 ?_
                  refine tr_iconst (pc := 108) (v := nI 1) dX10_next_108 (by decide) ?_
                  refine tr_iadd (pc := 109) (v := nI (e + 1)) dX10_next_109 (nI_add _ _) ?_
                  refine tr_putI (pc := 110) (x := nI (e + 1)) dX10_next_110 (hS.1 50 (13, 45) rfl) fi_X10_93 rfl rfl rfl ?_
                  have hX4 := hX3.put (k := 7) (x := nI (e + 1)) (by decide)
                  have hM4 := hM3.put (p := 7) (x := nI (e + 1)) (by decide)
                  have hA4 : (hs h3 50 (upd (h3 50) 7 (nI (e + 1)))) 50 7 = nI (e + 1) := f50_s
                  have hP4 : (hs h3 50 (upd (h3 50) 7 (nI (e + 1)))) 50 9 = nI q := (f50_n (by decide)).trans hP3
                  generalize hs h3 50 (upd (h3 50) 7 (nI (e + 1))) = h4 at hX4 hM4 hA4 hP4 ⊢
                  refine tr_goto (pc := 113) (tgt := 96) dX10_next_113 (by decide) ?_
                  exact ih2 (e + 1) h4 (by omega) (by omega) (by omega) (by rw [← lend_step he5.1 he5.2.1 he5.2.2]; exact he3) hX4 hA4 hP4 hM4
                · skip
                  refine tr_callV (pc := 97) (rest := []) (ci := 10) dX10_next_97 ml_X10_109 cv_X10_isWordByte rfl rfl (Nat.le_of_ble_eq_true rfl) (hS.1 50 (13, 45) rfl) rfl (by decide) (c_mwb_n hS hX3 hv hA3 he2 he5) ?_
                  rintro _ _ _ ⟨rfl, rfl, rfl⟩
                  show T a 2 mX10_next 100 [(0, rv a 50)] [.int (nI 0)] S h3 _
                  refine tr_if_eq (pc := 100) (tgt := 116) dX10_next_100 (by decide) (nI_z_eq (by omega)) (fun _ => ?_) (fun hcc => absurd (by decide) hcc)
                  have he6 : e = lend tx q := by
                    rw [← he3]
                    exact (lend_stop he5).symm
                  have he7 : q + 1 ≤ lend tx q := by
                    rw [lend_step hl.1 hl.2.1 hl.2.2]
                    exact gon_ge
                  have hAF : aft tx q = e := by rw [aft_w (by omega) he7, he6]
                  have hs0 := spB_le (tx := tx) (p := q) (L := e - q) (j := 0)
                  have hs1 := spB_le (tx := tx) (p := q) (L := e - q) (j := 1)
                  refine tr_aload_n (pc := 116) 0 dX10_next_116 rfl rfl ?_
                  refine tr_aload_n (pc := 117) 0 dX10_next_117 rfl rfl ?_
                  refine tr_getI (pc := 118) (x := nI e) dX10_next_118 (hS.1 50 (13, 45) rfl) fi_X10_93 rfl hA3 ?_
                  refine tr_aload_n (pc := 121) 0 dX10_next_121 rfl rfl ?_
                  refine tr_getI (pc := 122) (x := nI q) dX10_next_122 (hS.1 50 (13, 45) rfl) fi_X10_103 rfl hP3 ?_
                  refine tr_iconst (pc := 125) (v := nI 1) dX10_next_125 (by decide) ?_
                  refine tr_iadd (pc := 126) (v := nI (q + 1)) dX10_next_126 (nI_add _ _) ?_
                  refine tr_icmp_ne (pc := 127) (tgt := 142) dX10_next_127 (by decide) (nI_eq (by omega) (by omega)) (fun hb127 => ?_) (fun hb127 => ?_)
                  · skip
                    refine tr_aload_n (pc := 142) 0 dX10_next_142 rfl rfl ?_
                    refine tr_bipush (pc := 143) (v := nI 110) dX10_next_143 (by decide) ?_
                    refine tr_bipush (pc := 145) (v := nI 101) dX10_next_145 (by decide) ?_
                    refine tr_bipush (pc := 147) (v := nI 119) dX10_next_147 (by decide) ?_
                    refine tr_iconst (pc := 149) (v := nI 0) dX10_next_149 (by decide) ?_
                    refine tr_callV (pc := 150) (rest := [rv a 50]) (ci := 10) dX10_next_150 ml_X10_113 cv_X10_isWord rfl rfl (Nat.le_of_ble_eq_true rfl) (hS.1 50 (13, 45) rfl) rfl (by decide) (c_mw0 hS hX3 hv hP3 hA3 he1 he2) ?_
                    rintro _ _ _ ⟨rfl, rfl, rfl⟩
                    show T a 2 mX10_next 153 [(0, rv a 50)] [.int (nI (spB tx q (e - q) 0)), rv a 50] S h3 _
                    refine tr_if_eq (pc := 153) (tgt := 162) dX10_next_153 (by decide) (nI_z_eq (by omega)) (fun hb153 => ?_) (fun hb153 => ?_)
                    · skip
                      refine tr_aload_n (pc := 162) 0 dX10_next_162 rfl rfl ?_
                      refine tr_bipush (pc := 163) (v := nI 108) dX10_next_163 (by decide) ?_
                      refine tr_bipush (pc := 165) (v := nI 111) dX10_next_165 (by decide) ?_
                      refine tr_bipush (pc := 167) (v := nI 99) dX10_next_167 (by decide) ?_
                      refine tr_bipush (pc := 169) (v := nI 107) dX10_next_169 (by decide) ?_
                      refine tr_callV (pc := 171) (rest := [rv a 50]) (ci := 10) dX10_next_171 ml_X10_113 cv_X10_isWord rfl rfl (Nat.le_of_ble_eq_true rfl) (hS.1 50 (13, 45) rfl) rfl (by decide) (c_mw1 hS hX3 hv hP3 hA3 he1 he2) ?_
                      rintro _ _ _ ⟨rfl, rfl, rfl⟩
                      show T a 2 mX10_next 174 [(0, rv a 50)] [.int (nI (spB tx q (e - q) 1)), rv a 50] S h3 _
                      refine tr_if_eq (pc := 174) (tgt := 183) dX10_next_174 (by decide) (nI_z_eq (by omega)) (fun hb174 => ?_) (fun hb174 => ?_)
                      · skip
                        refine tr_sipush (pc := 183) (v := nI 1003) dX10_next_183 (by decide) ?_
                        refine tr_putI (pc := 186) (x := nI 1003) dX10_next_186 (hS.1 50 (13, 45) rfl) fi_X10_106 rfl rfl rfl ?_
                        have hX4 := hX3.put (k := 8) (x := nI 1003) (by decide)
                        have hM4 := hM3.put (p := 8) (x := nI 1003) (by decide)
                        have hA4 : (hs h3 50 (upd (h3 50) 8 (nI 1003))) 50 7 = nI e := (f50_n (by decide)).trans hA3
                        have hP4 : (hs h3 50 (upd (h3 50) 8 (nI 1003))) 50 9 = nI q := (f50_n (by decide)).trans hP3
                        have hK4 : (hs h3 50 (upd (h3 50) 8 (nI 1003))) 50 8 = nI 1003 := f50_s
                        generalize hs h3 50 (upd (h3 50) 8 (nI 1003)) = h4 at hX4 hM4 hA4 hP4 hK4 ⊢
                        exact tr_vret (pc := 189) dX10_next_189 rfl (⟨rfl, rfl, by
                            rw [hsk]
                            exact mtk_of hK4 hP4 (by rw [hA4, hAF]) hq2 (by rw [kd_wd (by omega) (by omega), ← he6, if_neg (by omega), if_neg (by omega)]; rfl), hX4, hM4⟩)
                      · skip
                        refine tr_sipush (pc := 177) (v := nI 1002) dX10_next_177 (by decide) ?_
                        refine tr_goto (pc := 180) (tgt := 186) dX10_next_180 (by decide) ?_
                        refine tr_putI (pc := 186) (x := nI 1002) dX10_next_186 (hS.1 50 (13, 45) rfl) fi_X10_106 rfl rfl rfl ?_
                        have hX4 := hX3.put (k := 8) (x := nI 1002) (by decide)
                        have hM4 := hM3.put (p := 8) (x := nI 1002) (by decide)
                        have hA4 : (hs h3 50 (upd (h3 50) 8 (nI 1002))) 50 7 = nI e := (f50_n (by decide)).trans hA3
                        have hP4 : (hs h3 50 (upd (h3 50) 8 (nI 1002))) 50 9 = nI q := (f50_n (by decide)).trans hP3
                        have hK4 : (hs h3 50 (upd (h3 50) 8 (nI 1002))) 50 8 = nI 1002 := f50_s
                        generalize hs h3 50 (upd (h3 50) 8 (nI 1002)) = h4 at hX4 hM4 hA4 hP4 hK4 ⊢
                        exact tr_vret (pc := 189) dX10_next_189 rfl (⟨rfl, rfl, by
                            rw [hsk]
                            exact mtk_of hK4 hP4 (by rw [hA4, hAF]) hq2 (by rw [kd_wd (by omega) (by omega), ← he6, if_neg (by omega), if_pos (by omega)]; rfl), hX4, hM4⟩)
                    · skip
                      refine tr_sipush (pc := 156) (v := nI 1001) dX10_next_156 (by decide) ?_
                      refine tr_goto (pc := 159) (tgt := 186) dX10_next_159 (by decide) ?_
                      refine tr_putI (pc := 186) (x := nI 1001) dX10_next_186 (hS.1 50 (13, 45) rfl) fi_X10_106 rfl rfl rfl ?_
                      have hX4 := hX3.put (k := 8) (x := nI 1001) (by decide)
                      have hM4 := hM3.put (p := 8) (x := nI 1001) (by decide)
                      have hA4 : (hs h3 50 (upd (h3 50) 8 (nI 1001))) 50 7 = nI e := (f50_n (by decide)).trans hA3
                      have hP4 : (hs h3 50 (upd (h3 50) 8 (nI 1001))) 50 9 = nI q := (f50_n (by decide)).trans hP3
                      have hK4 : (hs h3 50 (upd (h3 50) 8 (nI 1001))) 50 8 = nI 1001 := f50_s
                      generalize hs h3 50 (upd (h3 50) 8 (nI 1001)) = h4 at hX4 hM4 hA4 hP4 hK4 ⊢
                      exact tr_vret (pc := 189) dX10_next_189 rfl (⟨rfl, rfl, by
                          rw [hsk]
                          exact mtk_of hK4 hP4 (by rw [hA4, hAF]) hq2 (by rw [kd_wd (by omega) (by omega), ← he6, if_pos (by omega)]; rfl), hX4, hM4⟩)
                  · skip
                    refine tr_aload_n (pc := 130) 0 dX10_next_130 rfl rfl ?_
                    refine tr_getR (pc := 131) (q := 55) dX10_next_131 (hS.1 50 (13, 45) rfl) fi_X10_22 rfl (hS.2 50 5 55 rfl) ?_
                    refine tr_aload_n (pc := 134) 0 dX10_next_134 rfl rfl ?_
                    refine tr_getI (pc := 135) (x := nI q) dX10_next_135 (hS.1 50 (13, 45) rfl) fi_X10_103 rfl hP3 ?_
                    refine tr_iald (pc := 138) (v := nI (tx.getD q 0)) q dX10_next_138 (hS.1 55 (0, 200) rfl) rfl (by omega) (by decide) (hX3.2 q (by omega)) ?_
                    refine tr_goto (pc := 139) (tgt := 186) dX10_next_139 (by decide) ?_
                    refine tr_putI (pc := 186) (x := nI (tx.getD q 0)) dX10_next_186 (hS.1 50 (13, 45) rfl) fi_X10_106 rfl rfl rfl ?_
                    have hX4 := hX3.put (k := 8) (x := nI (tx.getD q 0)) (by decide)
                    have hM4 := hM3.put (p := 8) (x := nI (tx.getD q 0)) (by decide)
                    have hA4 : (hs h3 50 (upd (h3 50) 8 (nI (tx.getD q 0)))) 50 7 = nI e := (f50_n (by decide)).trans hA3
                    have hP4 : (hs h3 50 (upd (h3 50) 8 (nI (tx.getD q 0)))) 50 9 = nI q := (f50_n (by decide)).trans hP3
                    have hK4 : (hs h3 50 (upd (h3 50) 8 (nI (tx.getD q 0)))) 50 8 = nI (tx.getD q 0) := f50_s
                    generalize hs h3 50 (upd (h3 50) 8 (nI (tx.getD q 0))) = h4 at hX4 hM4 hA4 hP4 hK4 ⊢
                    exact tr_vret (pc := 189) dX10_next_189 rfl (⟨rfl, rfl, by
                        rw [hsk]
                        exact mtk_of hK4 hP4 (by rw [hA4, hAF]) hq2 (by rw [kd_by (by omega) (by omega), mkd_s (by omega)]), hX4, hM4⟩)
            exact L96 (tx.length + 1) q h2 (by omega) (Nat.le_refl _) hq2 rfl hX2 hA2 hP2 hM2
          · skip
            refine tr_aload_n (pc := 65) 0 dX10_next_65 rfl rfl ?_
            refine tr_callV (pc := 66) (rest := []) (ci := 10) dX10_next_66 ml_X10_109 cv_X10_isWordByte rfl rfl (Nat.le_of_ble_eq_true rfl) (hS.1 50 (13, 45) rfl) rfl (by decide) (c_mwb_n hS hX2 hv hA2 hq2 hl) ?_
            rintro _ _ _ ⟨rfl, rfl, rfl⟩
            show T a 2 mX10_next 69 [(0, rv a 50)] [.int (nI 0)] S h2 _
            refine tr_if_ne (pc := 69) (tgt := 96) dX10_next_69 (by decide) (nI_z_eq (by omega)) (fun hcc => absurd (by decide) hcc) (fun _ => ?_)
            refine tr_aload_n (pc := 72) 0 dX10_next_72 rfl rfl ?_
            refine tr_aload_n (pc := 73) 0 dX10_next_73 rfl rfl ?_
            refine tr_getR (pc := 74) (q := 55) dX10_next_74 (hS.1 50 (13, 45) rfl) fi_X10_22 rfl (hS.2 50 5 55 rfl) ?_
            refine tr_aload_n (pc := 77) 0 dX10_next_77 rfl rfl ?_
            refine tr_getI (pc := 78) (x := nI q) dX10_next_78 (hS.1 50 (13, 45) rfl) fi_X10_93 rfl hA2 ?_
            refine tr_iald (pc := 81) (v := nI (tx.getD q 0)) q dX10_next_81 (hS.1 55 (0, 200) rfl) rfl (by omega) (by decide) (hX2.2 q (by omega)) ?_
            refine tr_putI (pc := 82) (x := nI (tx.getD q 0)) dX10_next_82 (hS.1 50 (13, 45) rfl) fi_X10_106 rfl rfl rfl ?_
            have hX3 := hX2.put (k := 8) (x := nI (tx.getD q 0)) (by decide)
            have hM3 := hM2.put (p := 8) (x := nI (tx.getD q 0)) (by decide)
            have hA3 : (hs h2 50 (upd (h2 50) 8 (nI (tx.getD q 0)))) 50 7 = nI q := (f50_n (by decide)).trans hA2
            have hP3 : (hs h2 50 (upd (h2 50) 8 (nI (tx.getD q 0)))) 50 9 = nI q := (f50_n (by decide)).trans hP2
            have hK3 : (hs h2 50 (upd (h2 50) 8 (nI (tx.getD q 0)))) 50 8 = nI (tx.getD q 0) := f50_s
            generalize hs h2 50 (upd (h2 50) 8 (nI (tx.getD q 0))) = h3 at hX3 hM3 hA3 hP3 hK3 ⊢
            refine tr_aload_n (pc := 85) 0 dX10_next_85 rfl rfl ?_
            refine tr_dup (pc := 86) dX10_next_86 rfl ?_
            refine tr_getI (pc := 87) (x := nI q) dX10_next_87 (hS.1 50 (13, 45) rfl) fi_X10_93 rfl hA3 ?_
            refine tr_iconst (pc := 90) (v := nI 1) dX10_next_90 (by decide) ?_
            refine tr_iadd (pc := 91) (v := nI (q + 1)) dX10_next_91 (nI_add _ _) ?_
            refine tr_putI (pc := 92) (x := nI (q + 1)) dX10_next_92 (hS.1 50 (13, 45) rfl) fi_X10_93 rfl rfl rfl ?_
            have hX4 := hX3.put (k := 7) (x := nI (q + 1)) (by decide)
            have hM4 := hM3.put (p := 7) (x := nI (q + 1)) (by decide)
            have hA4 : (hs h3 50 (upd (h3 50) 7 (nI (q + 1)))) 50 7 = nI (q + 1) := f50_s
            have hP4 : (hs h3 50 (upd (h3 50) 7 (nI (q + 1)))) 50 9 = nI q := (f50_n (by decide)).trans hP3
            have hK4 : (hs h3 50 (upd (h3 50) 7 (nI (q + 1)))) 50 8 = nI (tx.getD q 0) := (f50_n (by decide)).trans hK3
            generalize hs h3 50 (upd (h3 50) 7 (nI (q + 1))) = h4 at hX4 hM4 hA4 hP4 hK4 ⊢
            exact tr_vret (pc := 95) dX10_next_95 rfl (⟨rfl, rfl, by
                rw [hsk]
                exact mtk_of hK4 hP4 (by rw [hA4, aft_1 (by omega) (by rw [lend_stop hl]; omega)]) hq2 (by rw [kd_by (by omega) (by rw [lend_stop hl]; omega), mkd_s (by omega)]), hX4, hM4⟩)
        · skip
          refine tr_aload_n (pc := 57) 0 dX10_next_57 rfl rfl ?_
          refine tr_sipush (pc := 58) (v := nI 1000) dX10_next_58 (by decide) ?_
          refine tr_putI (pc := 61) (x := nI 1000) dX10_next_61 (hS.1 50 (13, 45) rfl) fi_X10_106 rfl rfl rfl ?_
          have hX3 := hX2.put (k := 8) (x := nI 1000) (by decide)
          have hM3 := hM2.put (p := 8) (x := nI 1000) (by decide)
          have hA3 : (hs h2 50 (upd (h2 50) 8 (nI 1000))) 50 7 = nI q := (f50_n (by decide)).trans hA2
          have hP3 : (hs h2 50 (upd (h2 50) 8 (nI 1000))) 50 9 = nI q := (f50_n (by decide)).trans hP2
          have hK3 : (hs h2 50 (upd (h2 50) 8 (nI 1000))) 50 8 = nI 1000 := f50_s
          generalize hs h2 50 (upd (h2 50) 8 (nI 1000)) = h3 at hX3 hM3 hA3 hP3 hK3 ⊢
          exact tr_vret (pc := 64) dX10_next_64 rfl (⟨rfl, rfl, by
              rw [hsk]
              exact mtk_of hK3 hP3 (by rw [hA3]; unfold aft; rw [if_pos (by omega)]) hq2 (by rw [kd_end (by omega)]; rfl), hX3, hM3⟩)
      · skip
        refine tr_aload_n (pc := 11) 0 dX10_next_11 rfl rfl ?_
        refine tr_getR (pc := 12) (q := 55) dX10_next_12 (hS.1 50 (13, 45) rfl) fi_X10_22 rfl (hS.2 50 5 55 rfl) ?_
        refine tr_aload_n (pc := 15) 0 dX10_next_15 rfl rfl ?_
        refine tr_getI (pc := 16) (x := nI q) dX10_next_16 (hS.1 50 (13, 45) rfl) fi_X10_93 rfl hA1 ?_
        refine tr_iald (pc := 19) (v := nI (tx.getD q 0)) q dX10_next_19 (hS.1 55 (0, 200) rfl) rfl (by omega) (by decide) (hX1.2 q (by omega)) ?_
        refine tr_bipush (pc := 20) (v := nI 32) dX10_next_20 (by decide) ?_
        refine tr_icmp_ne (pc := 22) (tgt := 38) dX10_next_22 (by decide) (nI_eq (by omega) (by omega)) (fun hb22 => ?_) (fun hb22 => ?_)
        · skip
          have hsk : skp tx q0 = q := by
            rw [← hq3]
            exact skp_stop (by omega)
          refine tr_aload_n (pc := 38) 0 dX10_next_38 rfl rfl ?_
          refine tr_aload_n (pc := 39) 0 dX10_next_39 rfl rfl ?_
          refine tr_getI (pc := 40) (x := nI q) dX10_next_40 (hS.1 50 (13, 45) rfl) fi_X10_93 rfl hA1 ?_
          refine tr_putI (pc := 43) (x := nI q) dX10_next_43 (hS.1 50 (13, 45) rfl) fi_X10_103 rfl rfl rfl ?_
          have hX2 := hX1.put (k := 9) (x := nI q) (by decide)
          have hM2 := hM1.put (p := 9) (x := nI q) (by decide)
          have hA2 : (hs h1 50 (upd (h1 50) 9 (nI q))) 50 7 = nI q := (f50_n (by decide)).trans hA1
          have hP2 : (hs h1 50 (upd (h1 50) 9 (nI q))) 50 9 = nI q := f50_s
          generalize hs h1 50 (upd (h1 50) 9 (nI q)) = h2 at hX2 hM2 hA2 hP2 ⊢
          refine tr_aload_n (pc := 46) 0 dX10_next_46 rfl rfl ?_
          refine tr_getI (pc := 47) (x := nI q) dX10_next_47 (hS.1 50 (13, 45) rfl) fi_X10_93 rfl hA2 ?_
          refine tr_aload_n (pc := 50) 0 dX10_next_50 rfl rfl ?_
          refine tr_getI (pc := 51) (x := nI tx.length) dX10_next_51 (hS.1 50 (13, 45) rfl) fi_X10_96 rfl hX2.1 ?_
          refine tr_icmp_ne (pc := 54) (tgt := 65) dX10_next_54 (by decide) (nI_eq (by omega) (by omega)) (fun hb54 => ?_) (fun hb54 => ?_)
          · skip
            by_cases hl : q < tx.length ∧ 97 ≤ tx.getD q 0 ∧ tx.getD q 0 ≤ 122
            · skip
              refine tr_aload_n (pc := 65) 0 dX10_next_65 rfl rfl ?_
              refine tr_callV (pc := 66) (rest := []) (ci := 10) dX10_next_66 ml_X10_109 cv_X10_isWordByte rfl rfl (Nat.le_of_ble_eq_true rfl) (hS.1 50 (13, 45) rfl) rfl (by decide) (c_mwb_y hS hX2 hv hA2 hq2 hl) ?_
              rintro _ _ _ ⟨rfl, rfl, rfl⟩
              show T a 2 mX10_next 69 [(0, rv a 50)] [.int (nI 1)] S h2 _
              refine tr_if_ne (pc := 69) (tgt := 96) dX10_next_69 (by decide) (nI_z_eq (by omega)) (fun _ => ?_) (fun hcc => absurd hcc (by decide))
              have L96 : ∀ (fu : Nat) (e : Nat) (h3 : Hp), tx.length - e < fu → q ≤ e → e ≤ tx.length → lend tx e = lend tx q → MTx h3 tx → h3 50 7 = nI e → h3 50 9 = nI q → Fm [7, 8, 9] [] h h3 → T a 2 mX10_next 96 [(0, rv a 50)] [] S h3 (fun v S' h' => v = none ∧ S = S' ∧ MTk h' tx (skp tx q0) ∧ MTx h' tx ∧ Fm [7, 8, 9] [] h h') := by
                intro fu
                induction fu with
                | zero => intro e h3 hu2 he1 he2 he3 hX3 hA3 hP3 hM3; omega
                | succ fu ih2 =>
                  intro e h3 hu2 he1 he2 he3 hX3 hA3 hP3 hM3
                  have g128 := tv_lt hv (p := e)
                  refine tr_aload_n (pc := 96) 0 dX10_next_96 rfl rfl ?_
                  by_cases he5 : e < tx.length ∧ 97 ≤ tx.getD e 0 ∧ tx.getD e 0 ≤ 122
                  · skip
                    refine tr_callV (pc := 97) (rest := []) (ci := 10) dX10_next_97 ml_X10_109 cv_X10_isWordByte rfl rfl (Nat.le_of_ble_eq_true rfl) (hS.1 50 (13, 45) rfl) rfl (by decide) (c_mwb_y hS hX3 hv hA3 he2 he5) ?_
                    rintro _ _ _ ⟨rfl, rfl, rfl⟩
                    show T a 2 mX10_next 100 [(0, rv a 50)] [.int (nI 1)] S h3 _
                    refine tr_if_eq (pc := 100) (tgt := 116) dX10_next_100 (by decide) (nI_z_eq (by omega)) (fun hcc => absurd hcc (by decide)) (fun _ => ?_)
                    refine tr_aload_n (pc := 103) 0 dX10_next_103 rfl rfl ?_
                    refine tr_dup (pc := 104) dX10_next_104 rfl ?_
                    refine tr_getI (pc := 105) (x := nI e) dX10_next_105 (hS.1 50 (13, 45) rfl) fi_X10_93 rfl hA3 ?_
                    refine tr_iconst (pc := 108) (v := nI 1) dX10_next_108 (by decide) ?_
                    refine tr_iadd (pc := 109) (v := nI (e + 1)) dX10_next_109 (nI_add _ _) ?_
                    refine tr_putI (pc := 110) (x := nI (e + 1)) dX10_next_110 (hS.1 50 (13, 45) rfl) fi_X10_93 rfl rfl rfl ?_
                    have hX4 := hX3.put (k := 7) (x := nI (e + 1)) (by decide)
                    have hM4 := hM3.put (p := 7) (x := nI (e + 1)) (by decide)
                    have hA4 : (hs h3 50 (upd (h3 50) 7 (nI (e + 1)))) 50 7 = nI (e + 1) := f50_s
                    have hP4 : (hs h3 50 (upd (h3 50) 7 (nI (e + 1)))) 50 9 = nI q := (f50_n (by decide)).trans hP3
                    generalize hs h3 50 (upd (h3 50) 7 (nI (e + 1))) = h4 at hX4 hM4 hA4 hP4 ⊢
                    refine tr_goto (pc := 113) (tgt := 96) dX10_next_113 (by decide) ?_
                    exact ih2 (e + 1) h4 (by omega) (by omega) (by omega) (by rw [← lend_step he5.1 he5.2.1 he5.2.2]; exact he3) hX4 hA4 hP4 hM4
                  · skip
                    refine tr_callV (pc := 97) (rest := []) (ci := 10) dX10_next_97 ml_X10_109 cv_X10_isWordByte rfl rfl (Nat.le_of_ble_eq_true rfl) (hS.1 50 (13, 45) rfl) rfl (by decide) (c_mwb_n hS hX3 hv hA3 he2 he5) ?_
                    rintro _ _ _ ⟨rfl, rfl, rfl⟩
                    show T a 2 mX10_next 100 [(0, rv a 50)] [.int (nI 0)] S h3 _
                    refine tr_if_eq (pc := 100) (tgt := 116) dX10_next_100 (by decide) (nI_z_eq (by omega)) (fun _ => ?_) (fun hcc => absurd (by decide) hcc)
                    have he6 : e = lend tx q := by
                      rw [← he3]
                      exact (lend_stop he5).symm
                    have he7 : q + 1 ≤ lend tx q := by
                      rw [lend_step hl.1 hl.2.1 hl.2.2]
                      exact gon_ge
                    have hAF : aft tx q = e := by rw [aft_w (by omega) he7, he6]
                    have hs0 := spB_le (tx := tx) (p := q) (L := e - q) (j := 0)
                    have hs1 := spB_le (tx := tx) (p := q) (L := e - q) (j := 1)
                    refine tr_aload_n (pc := 116) 0 dX10_next_116 rfl rfl ?_
                    refine tr_aload_n (pc := 117) 0 dX10_next_117 rfl rfl ?_
                    refine tr_getI (pc := 118) (x := nI e) dX10_next_118 (hS.1 50 (13, 45) rfl) fi_X10_93 rfl hA3 ?_
                    refine tr_aload_n (pc := 121) 0 dX10_next_121 rfl rfl ?_
                    refine tr_getI (pc := 122) (x := nI q) dX10_next_122 (hS.1 50 (13, 45) rfl) fi_X10_103 rfl hP3 ?_
                    refine tr_iconst (pc := 125) (v := nI 1) dX10_next_125 (by decide) ?_
                    refine tr_iadd (pc := 126) (v := nI (q + 1)) dX10_next_126 (nI_add _ _) ?_
                    refine tr_icmp_ne (pc := 127) (tgt := 142) dX10_next_127 (by decide) (nI_eq (by omega) (by omega)) (fun hb127 => ?_) (fun hb127 => ?_)
                    · skip
                      refine tr_aload_n (pc := 142) 0 dX10_next_142 rfl rfl ?_
                      refine tr_bipush (pc := 143) (v := nI 110) dX10_next_143 (by decide) ?_
                      refine tr_bipush (pc := 145) (v := nI 101) dX10_next_145 (by decide) ?_
                      refine tr_bipush (pc := 147) (v := nI 119) dX10_next_147 (by decide) ?_
                      refine tr_iconst (pc := 149) (v := nI 0) dX10_next_149 (by decide) ?_
                      refine tr_callV (pc := 150) (rest := [rv a 50]) (ci := 10) dX10_next_150 ml_X10_113 cv_X10_isWord rfl rfl (Nat.le_of_ble_eq_true rfl) (hS.1 50 (13, 45) rfl) rfl (by decide) (c_mw0 hS hX3 hv hP3 hA3 he1 he2) ?_
                      rintro _ _ _ ⟨rfl, rfl, rfl⟩
                      show T a 2 mX10_next 153 [(0, rv a 50)] [.int (nI (spB tx q (e - q) 0)), rv a 50] S h3 _
                      refine tr_if_eq (pc := 153) (tgt := 162) dX10_next_153 (by decide) (nI_z_eq (by omega)) (fun hb153 => ?_) (fun hb153 => ?_)
                      · skip
                        refine tr_aload_n (pc := 162) 0 dX10_next_162 rfl rfl ?_
                        refine tr_bipush (pc := 163) (v := nI 108) dX10_next_163 (by decide) ?_
                        refine tr_bipush (pc := 165) (v := nI 111) dX10_next_165 (by decide) ?_
                        refine tr_bipush (pc := 167) (v := nI 99) dX10_next_167 (by decide) ?_
                        refine tr_bipush (pc := 169) (v := nI 107) dX10_next_169 (by decide) ?_
                        refine tr_callV (pc := 171) (rest := [rv a 50]) (ci := 10) dX10_next_171 ml_X10_113 cv_X10_isWord rfl rfl (Nat.le_of_ble_eq_true rfl) (hS.1 50 (13, 45) rfl) rfl (by decide) (c_mw1 hS hX3 hv hP3 hA3 he1 he2) ?_
                        rintro _ _ _ ⟨rfl, rfl, rfl⟩
                        show T a 2 mX10_next 174 [(0, rv a 50)] [.int (nI (spB tx q (e - q) 1)), rv a 50] S h3 _
                        refine tr_if_eq (pc := 174) (tgt := 183) dX10_next_174 (by decide) (nI_z_eq (by omega)) (fun hb174 => ?_) (fun hb174 => ?_)
                        · skip
                          refine tr_sipush (pc := 183) (v := nI 1003) dX10_next_183 (by decide) ?_
                          refine tr_putI (pc := 186) (x := nI 1003) dX10_next_186 (hS.1 50 (13, 45) rfl) fi_X10_106 rfl rfl rfl ?_
                          have hX4 := hX3.put (k := 8) (x := nI 1003) (by decide)
                          have hM4 := hM3.put (p := 8) (x := nI 1003) (by decide)
                          have hA4 : (hs h3 50 (upd (h3 50) 8 (nI 1003))) 50 7 = nI e := (f50_n (by decide)).trans hA3
                          have hP4 : (hs h3 50 (upd (h3 50) 8 (nI 1003))) 50 9 = nI q := (f50_n (by decide)).trans hP3
                          have hK4 : (hs h3 50 (upd (h3 50) 8 (nI 1003))) 50 8 = nI 1003 := f50_s
                          generalize hs h3 50 (upd (h3 50) 8 (nI 1003)) = h4 at hX4 hM4 hA4 hP4 hK4 ⊢
                          exact tr_vret (pc := 189) dX10_next_189 rfl (⟨rfl, rfl, by
                              rw [hsk]
                              exact mtk_of hK4 hP4 (by rw [hA4, hAF]) hq2 (by rw [kd_wd (by omega) (by omega), ← he6, if_neg (by omega), if_neg (by omega)]; rfl), hX4, hM4⟩)
                        · skip
                          refine tr_sipush (pc := 177) (v := nI 1002) dX10_next_177 (by decide) ?_
                          refine tr_goto (pc := 180) (tgt := 186) dX10_next_180 (by decide) ?_
                          refine tr_putI (pc := 186) (x := nI 1002) dX10_next_186 (hS.1 50 (13, 45) rfl) fi_X10_106 rfl rfl rfl ?_
                          have hX4 := hX3.put (k := 8) (x := nI 1002) (by decide)
                          have hM4 := hM3.put (p := 8) (x := nI 1002) (by decide)
                          have hA4 : (hs h3 50 (upd (h3 50) 8 (nI 1002))) 50 7 = nI e := (f50_n (by decide)).trans hA3
                          have hP4 : (hs h3 50 (upd (h3 50) 8 (nI 1002))) 50 9 = nI q := (f50_n (by decide)).trans hP3
                          have hK4 : (hs h3 50 (upd (h3 50) 8 (nI 1002))) 50 8 = nI 1002 := f50_s
                          generalize hs h3 50 (upd (h3 50) 8 (nI 1002)) = h4 at hX4 hM4 hA4 hP4 hK4 ⊢
                          exact tr_vret (pc := 189) dX10_next_189 rfl (⟨rfl, rfl, by
                              rw [hsk]
                              exact mtk_of hK4 hP4 (by rw [hA4, hAF]) hq2 (by rw [kd_wd (by omega) (by omega), ← he6, if_neg (by omega), if_pos (by omega)]; rfl), hX4, hM4⟩)
                      · skip
                        refine tr_sipush (pc := 156) (v := nI 1001) dX10_next_156 (by decide) ?_
                        refine tr_goto (pc := 159) (tgt := 186) dX10_next_159 (by decide) ?_
                        refine tr_putI (pc := 186) (x := nI 1001) dX10_next_186 (hS.1 50 (13, 45) rfl) fi_X10_106 rfl rfl rfl ?_
                        have hX4 := hX3.put (k := 8) (x := nI 1001) (by decide)
                        have hM4 := hM3.put (p := 8) (x := nI 1001) (by decide)
                        have hA4 : (hs h3 50 (upd (h3 50) 8 (nI 1001))) 50 7 = nI e := (f50_n (by decide)).trans hA3
                        have hP4 : (hs h3 50 (upd (h3 50) 8 (nI 1001))) 50 9 = nI q := (f50_n (by decide)).trans hP3
                        have hK4 : (hs h3 50 (upd (h3 50) 8 (nI 1001))) 50 8 = nI 1001 := f50_s
                        generalize hs h3 50 (upd (h3 50) 8 (nI 1001)) = h4 at hX4 hM4 hA4 hP4 hK4 ⊢
                        exact tr_vret (pc := 189) dX10_next_189 rfl (⟨rfl, rfl, by
                            rw [hsk]
                            exact mtk_of hK4 hP4 (by rw [hA4, hAF]) hq2 (by rw [kd_wd (by omega) (by omega), ← he6, if_pos (by omega)]; rfl), hX4, hM4⟩)
                    · skip
                      refine tr_aload_n (pc := 130) 0 dX10_next_130 rfl rfl ?_
                      refine tr_getR (pc := 131) (q := 55) dX10_next_131 (hS.1 50 (13, 45) rfl) fi_X10_22 rfl (hS.2 50 5 55 rfl) ?_
                      refine tr_aload_n (pc := 134) 0 dX10_next_134 rfl rfl ?_
                      refine tr_getI (pc := 135) (x := nI q) dX10_next_135 (hS.1 50 (13, 45) rfl) fi_X10_103 rfl hP3 ?_
                      refine tr_iald (pc := 138) (v := nI (tx.getD q 0)) q dX10_next_138 (hS.1 55 (0, 200) rfl) rfl (by omega) (by decide) (hX3.2 q (by omega)) ?_
                      refine tr_goto (pc := 139) (tgt := 186) dX10_next_139 (by decide) ?_
                      refine tr_putI (pc := 186) (x := nI (tx.getD q 0)) dX10_next_186 (hS.1 50 (13, 45) rfl) fi_X10_106 rfl rfl rfl ?_
                      have hX4 := hX3.put (k := 8) (x := nI (tx.getD q 0)) (by decide)
                      have hM4 := hM3.put (p := 8) (x := nI (tx.getD q 0)) (by decide)
                      have hA4 : (hs h3 50 (upd (h3 50) 8 (nI (tx.getD q 0)))) 50 7 = nI e := (f50_n (by decide)).trans hA3
                      have hP4 : (hs h3 50 (upd (h3 50) 8 (nI (tx.getD q 0)))) 50 9 = nI q := (f50_n (by decide)).trans hP3
                      have hK4 : (hs h3 50 (upd (h3 50) 8 (nI (tx.getD q 0)))) 50 8 = nI (tx.getD q 0) := f50_s
                      generalize hs h3 50 (upd (h3 50) 8 (nI (tx.getD q 0))) = h4 at hX4 hM4 hA4 hP4 hK4 ⊢
                      exact tr_vret (pc := 189) dX10_next_189 rfl (⟨rfl, rfl, by
                          rw [hsk]
                          exact mtk_of hK4 hP4 (by rw [hA4, hAF]) hq2 (by rw [kd_by (by omega) (by omega), mkd_s (by omega)]), hX4, hM4⟩)
              exact L96 (tx.length + 1) q h2 (by omega) (Nat.le_refl _) hq2 rfl hX2 hA2 hP2 hM2
            · skip
              refine tr_aload_n (pc := 65) 0 dX10_next_65 rfl rfl ?_
              refine tr_callV (pc := 66) (rest := []) (ci := 10) dX10_next_66 ml_X10_109 cv_X10_isWordByte rfl rfl (Nat.le_of_ble_eq_true rfl) (hS.1 50 (13, 45) rfl) rfl (by decide) (c_mwb_n hS hX2 hv hA2 hq2 hl) ?_
              rintro _ _ _ ⟨rfl, rfl, rfl⟩
              show T a 2 mX10_next 69 [(0, rv a 50)] [.int (nI 0)] S h2 _
              refine tr_if_ne (pc := 69) (tgt := 96) dX10_next_69 (by decide) (nI_z_eq (by omega)) (fun hcc => absurd (by decide) hcc) (fun _ => ?_)
              refine tr_aload_n (pc := 72) 0 dX10_next_72 rfl rfl ?_
              refine tr_aload_n (pc := 73) 0 dX10_next_73 rfl rfl ?_
              refine tr_getR (pc := 74) (q := 55) dX10_next_74 (hS.1 50 (13, 45) rfl) fi_X10_22 rfl (hS.2 50 5 55 rfl) ?_
              refine tr_aload_n (pc := 77) 0 dX10_next_77 rfl rfl ?_
              refine tr_getI (pc := 78) (x := nI q) dX10_next_78 (hS.1 50 (13, 45) rfl) fi_X10_93 rfl hA2 ?_
              refine tr_iald (pc := 81) (v := nI (tx.getD q 0)) q dX10_next_81 (hS.1 55 (0, 200) rfl) rfl (by omega) (by decide) (hX2.2 q (by omega)) ?_
              refine tr_putI (pc := 82) (x := nI (tx.getD q 0)) dX10_next_82 (hS.1 50 (13, 45) rfl) fi_X10_106 rfl rfl rfl ?_
              have hX3 := hX2.put (k := 8) (x := nI (tx.getD q 0)) (by decide)
              have hM3 := hM2.put (p := 8) (x := nI (tx.getD q 0)) (by decide)
              have hA3 : (hs h2 50 (upd (h2 50) 8 (nI (tx.getD q 0)))) 50 7 = nI q := (f50_n (by decide)).trans hA2
              have hP3 : (hs h2 50 (upd (h2 50) 8 (nI (tx.getD q 0)))) 50 9 = nI q := (f50_n (by decide)).trans hP2
              have hK3 : (hs h2 50 (upd (h2 50) 8 (nI (tx.getD q 0)))) 50 8 = nI (tx.getD q 0) := f50_s
              generalize hs h2 50 (upd (h2 50) 8 (nI (tx.getD q 0))) = h3 at hX3 hM3 hA3 hP3 hK3 ⊢
              refine tr_aload_n (pc := 85) 0 dX10_next_85 rfl rfl ?_
              refine tr_dup (pc := 86) dX10_next_86 rfl ?_
              refine tr_getI (pc := 87) (x := nI q) dX10_next_87 (hS.1 50 (13, 45) rfl) fi_X10_93 rfl hA3 ?_
              refine tr_iconst (pc := 90) (v := nI 1) dX10_next_90 (by decide) ?_
              refine tr_iadd (pc := 91) (v := nI (q + 1)) dX10_next_91 (nI_add _ _) ?_
              refine tr_putI (pc := 92) (x := nI (q + 1)) dX10_next_92 (hS.1 50 (13, 45) rfl) fi_X10_93 rfl rfl rfl ?_
              have hX4 := hX3.put (k := 7) (x := nI (q + 1)) (by decide)
              have hM4 := hM3.put (p := 7) (x := nI (q + 1)) (by decide)
              have hA4 : (hs h3 50 (upd (h3 50) 7 (nI (q + 1)))) 50 7 = nI (q + 1) := f50_s
              have hP4 : (hs h3 50 (upd (h3 50) 7 (nI (q + 1)))) 50 9 = nI q := (f50_n (by decide)).trans hP3
              have hK4 : (hs h3 50 (upd (h3 50) 7 (nI (q + 1)))) 50 8 = nI (tx.getD q 0) := (f50_n (by decide)).trans hK3
              generalize hs h3 50 (upd (h3 50) 7 (nI (q + 1))) = h4 at hX4 hM4 hA4 hP4 hK4 ⊢
              exact tr_vret (pc := 95) dX10_next_95 rfl (⟨rfl, rfl, by
                  rw [hsk]
                  exact mtk_of hK4 hP4 (by rw [hA4, aft_1 (by omega) (by rw [lend_stop hl]; omega)]) hq2 (by rw [kd_by (by omega) (by rw [lend_stop hl]; omega), mkd_s (by omega)]), hX4, hM4⟩)
          · skip
            refine tr_aload_n (pc := 57) 0 dX10_next_57 rfl rfl ?_
            refine tr_sipush (pc := 58) (v := nI 1000) dX10_next_58 (by decide) ?_
            refine tr_putI (pc := 61) (x := nI 1000) dX10_next_61 (hS.1 50 (13, 45) rfl) fi_X10_106 rfl rfl rfl ?_
            have hX3 := hX2.put (k := 8) (x := nI 1000) (by decide)
            have hM3 := hM2.put (p := 8) (x := nI 1000) (by decide)
            have hA3 : (hs h2 50 (upd (h2 50) 8 (nI 1000))) 50 7 = nI q := (f50_n (by decide)).trans hA2
            have hP3 : (hs h2 50 (upd (h2 50) 8 (nI 1000))) 50 9 = nI q := (f50_n (by decide)).trans hP2
            have hK3 : (hs h2 50 (upd (h2 50) 8 (nI 1000))) 50 8 = nI 1000 := f50_s
            generalize hs h2 50 (upd (h2 50) 8 (nI 1000)) = h3 at hX3 hM3 hA3 hP3 hK3 ⊢
            exact tr_vret (pc := 64) dX10_next_64 rfl (⟨rfl, rfl, by
                rw [hsk]
                exact mtk_of hK3 hP3 (by rw [hA3]; unfold aft; rw [if_pos (by omega)]) hq2 (by rw [kd_end (by omega)]; rfl), hX3, hM3⟩)
        · skip
          refine tr_aload_n (pc := 25) 0 dX10_next_25 rfl rfl ?_
          refine tr_dup (pc := 26) dX10_next_26 rfl ?_
          refine tr_getI (pc := 27) (x := nI q) dX10_next_27 (hS.1 50 (13, 45) rfl) fi_X10_93 rfl hA1 ?_
          refine tr_iconst (pc := 30) (v := nI 1) dX10_next_30 (by decide) ?_
          refine tr_iadd (pc := 31) (v := nI (q + 1)) dX10_next_31 (nI_add _ _) ?_
          refine tr_putI (pc := 32) (x := nI (q + 1)) dX10_next_32 (hS.1 50 (13, 45) rfl) fi_X10_93 rfl rfl rfl ?_
          have hX2 := hX1.put (k := 7) (x := nI (q + 1)) (by decide)
          have hM2 := hM1.put (p := 7) (x := nI (q + 1)) (by decide)
          have hA2 : (hs h1 50 (upd (h1 50) 7 (nI (q + 1)))) 50 7 = nI (q + 1) := f50_s
          generalize hs h1 50 (upd (h1 50) 7 (nI (q + 1))) = h2 at hX2 hM2 hA2 ⊢
          refine tr_goto (pc := 35) (tgt := 0) dX10_next_35 (by decide) ?_
          exact ih (q + 1) h2 (by omega) (by omega) (by rw [← skp_step (by omega) hb22]; exact hq3) hX2 hA2 hM2
  exact L0 (tx.length + 1) q0 h (by omega) hq0 rfl hX hA0 Fm.rf

set_option maxHeartbeats 4000000 in
set_option maxRecDepth 100000 in
theorem c_mnameOf {a : Am} {S : St} {h : Hp} {k : Nat} (hk : k ≤ 131) : CT a 0 mX10_nameOf [.int (nI (mkd k))] S h (Rt (nmI k) S h) := by
  have hm := mkd_lt (k := k)
  refine met_of (by decide +kernel) (Nat.le_of_ble_eq_true rfl) ?_
  show T a 0 mX10_nameOf 0 [(0, .int (nI (mkd k)))] [] S h _
  refine tr_iload_n (pc := 0) 0 dX10_nameOf_0 rfl rfl ?_
  refine tr_bipush (pc := 1) (v := nI 112) dX10_nameOf_1 (by decide) ?_
  refine tr_icmp_ne (pc := 3) (tgt := 10) dX10_nameOf_3 (by decide) (nI_eq (by omega) (by omega)) (fun hb3 => ?_) (fun hb3 => ?_)
  · skip
    refine tr_iload_n (pc := 10) 0 dX10_nameOf_10 rfl rfl ?_
    refine tr_bipush (pc := 11) (v := nI 97) dX10_nameOf_11 (by decide) ?_
    refine tr_icmp_ne (pc := 13) (tgt := 20) dX10_nameOf_13 (by decide) (nI_eq (by omega) (by omega)) (fun hb13 => ?_) (fun hb13 => ?_)
    · skip
      refine tr_iload_n (pc := 20) 0 dX10_nameOf_20 rfl rfl ?_
      refine tr_bipush (pc := 21) (v := nI 98) dX10_nameOf_21 (by decide) ?_
      refine tr_icmp_ne (pc := 23) (tgt := 30) dX10_nameOf_23 (by decide) (nI_eq (by omega) (by omega)) (fun hb23 => ?_) (fun hb23 => ?_)
      · skip
        refine tr_iload_n (pc := 30) 0 dX10_nameOf_30 rfl rfl ?_
        refine tr_bipush (pc := 31) (v := nI 114) dX10_nameOf_31 (by decide) ?_
        refine tr_icmp_ne (pc := 33) (tgt := 40) dX10_nameOf_33 (by decide) (nI_eq (by omega) (by omega)) (fun hb33 => ?_) (fun hb33 => ?_)
        · skip
          refine tr_iconst (pc := 40) (v := -1) dX10_nameOf_40 (by decide) ?_
          exact tr_iret (pc := 41) dX10_nameOf_41 rfl rfl (⟨by
              have n1 := fun z => hb3 ((mkd_b (by decide)).2 z)
              have n2 := fun z => hb13 ((mkd_b (by decide)).2 z)
              have n3 := fun z => hb23 ((mkd_b (by decide)).2 z)
              have n4 := fun z => hb33 ((mkd_b (by decide)).2 z)
              have hn : nm k = 4 := by unfold nm; rw [if_neg n1, if_neg n2, if_neg n3, if_neg n4]
              rw [nmI_n (by omega)], rfl, rfl⟩)
        · skip
          refine tr_iconst (pc := 36) (v := nI 3) dX10_nameOf_36 (by decide) ?_
          refine tr_goto (pc := 37) (tgt := 41) dX10_nameOf_37 (by decide) ?_
          exact tr_iret (pc := 41) dX10_nameOf_41 rfl rfl (⟨by rw [(mkd_b (by decide)).1 hb33]; rfl, rfl, rfl⟩)
      · skip
        refine tr_iconst (pc := 26) (v := nI 2) dX10_nameOf_26 (by decide) ?_
        refine tr_goto (pc := 27) (tgt := 41) dX10_nameOf_27 (by decide) ?_
        exact tr_iret (pc := 41) dX10_nameOf_41 rfl rfl (⟨by rw [(mkd_b (by decide)).1 hb23]; rfl, rfl, rfl⟩)
    · skip
      refine tr_iconst (pc := 16) (v := nI 1) dX10_nameOf_16 (by decide) ?_
      refine tr_goto (pc := 17) (tgt := 41) dX10_nameOf_17 (by decide) ?_
      exact tr_iret (pc := 41) dX10_nameOf_41 rfl rfl (⟨by rw [(mkd_b (by decide)).1 hb13]; rfl, rfl, rfl⟩)
  · skip
    refine tr_iconst (pc := 6) (v := nI 0) dX10_nameOf_6 (by decide) ?_
    refine tr_goto (pc := 7) (tgt := 41) dX10_nameOf_7 (by decide) ?_
    exact tr_iret (pc := 41) dX10_nameOf_41 rfl rfl (⟨by rw [(mkd_b (by decide)).1 hb3]; rfl, rfl, rfl⟩)
