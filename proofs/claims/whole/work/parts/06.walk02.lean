set_option maxHeartbeats 4000000 in
set_option maxRecDepth 100000 in
theorem wb_X0_countedAtBest_41 {l : Launch} {E : Ep} {X : Fx} {res : Int32} (C : CX E X RX0 cX0_countedAtBest 5 1) (h : Hp) (x3 : Int32) (hs : b_X0_countedAtBest_41  h x3 = some res) (hR : RT E X (some .int) (some (.int res)) h) : GG l E X h 41 [(3, .int x3)] [] := by
  refine g_iload_n C 0 dX0_countedAtBest_41 rfl rfl ?_
  have e9 := Option.some.inj hs
  subst e9
  exact g_iret C hR dX0_countedAtBest_42
set_option maxHeartbeats 4000000 in
set_option maxRecDepth 100000 in
theorem wb_X0_countedAtBest_5 {l : Launch} {E : Ep} {X : Fx} {res : Int32} (C : CX E X RX0 cX0_countedAtBest 5 1) : ∀ (n : Nat) (h : Hp) (a0 : Nat) (x1 : Int32) (x2 : Int32) (x3 : Int32) (x4 : Int32) (oa0 : OKr a0 0), b_X0_countedAtBest_5  n h a0 x1 x2 x3 x4 = some res → RT E X (some .int) (some (.int res)) h → GG l E X h 5 [(0, .ref (ad E a0)), (1, .int x1), (2, .int x2), (3, .int x3), (4, .int x4)] [] := by
  intro n
  induction n with
  | zero =>
    intro h a0 x1 x2 x3 x4 oa0
    intro hs
    exact absurd hs (by intro e; cases e)
  | succ n ih =>
    intro h a0 x1 x2 x3 x4 oa0 hs hR
    have hk5 := ih
    have hs : f_X0_countedAtBest_5  (b_X0_countedAtBest_5  n) h a0 x1 x2 x3 x4 = some res := hs
    generalize b_X0_countedAtBest_5  n = k5 at hs hk5
    refine g_iload C 4 dX0_countedAtBest_5 rfl ?_
    refine g_iload_n C 1 dX0_countedAtBest_7 rfl rfl ?_
    refine g_icmp_gt (tgt := 41) C dX0_countedAtBest_8 (by decide) hs (fun hs => ?_) (fun hs => ?_)
    · refine g_sub [3] rfl ?_
      exact wb_X0_countedAtBest_41 C h x3 hs hR
    · refine g_iload C 4 dX0_countedAtBest_11 rfl ?_
      refine g_bipush C dX0_countedAtBest_13 cc_b_6 ?_
      refine g_icmp_ge (tgt := 41) C dX0_countedAtBest_15 (by decide) hs (fun hs => ?_) (fun hs => ?_)
      · refine g_sub [3] rfl ?_
        exact wb_X0_countedAtBest_41 C h x3 hs hR
      · refine g_iload_n C 3 dX0_countedAtBest_18 rfl rfl ?_
        refine g_aload_n C 0 dX0_countedAtBest_19 rfl rfl ?_
        refine gf0_1 C oa0 lf_X0_15 dX0_countedAtBest_20 ?_
        refine g_iload C 4 dX0_countedAtBest_23 rfl ?_
        refine g_bipush C dX0_countedAtBest_25 cc_b_6 ?_
        refine g_imul C dX0_countedAtBest_27 ?_
        refine g_iload_n C 2 dX0_countedAtBest_28 rfl rfl ?_
        refine g_iadd C dX0_countedAtBest_29 ?_
        refine g_iald C (tg0_1 oa0) dX0_countedAtBest_30 hs (fun v1 hs => ?_)
        refine g_mmax C (by decide) dX0_countedAtBest_31 lm_X0_32 kw_mmax_1 kw_math kw_mmax_2 (Nat.le_of_ble_eq_true rfl) ?_
        refine g_istore_n (lv' := [(3, .int (if x3 < v1 then v1 else x3)), (0, .ref (ad E a0)), (1, .int x1), (2, .int x2), (4, .int x4)]) C dX0_countedAtBest_34 rfl (by decide) rfl ?_
        refine g_iinc (lv' := [(4, .int (x4 + (1 : Int32))), (3, .int (if x3 < v1 then v1 else x3)), (0, .ref (ad E a0)), (1, .int x1), (2, .int x2)]) (j := 4) C dX0_countedAtBest_35 rfl (cc_n_1 _) (by decide) rfl ?_
        refine g_goto (tgt := 5) C dX0_countedAtBest_38 (by decide) ?_
        refine g_sub [2, 3, 4, 1, 0] rfl ?_
        exact hk5 h a0 x1 x2 (if x3 < v1 then v1 else x3) (x4 + (1 : Int32)) oa0 hs hR
set_option maxHeartbeats 4000000 in
set_option maxRecDepth 100000 in
theorem w_X0_countedAtBest (l : Launch) (E : Ep) (h : Hp) (a0 : Nat) (x1 : Int32) (x2 : Int32) (res : Int32) (oa0 : OKr a0 0) (hs : sh_X0_countedAtBest h a0 x1 x2 = some res) : MG l E yX0_countedAtBest cX0_countedAtBest 5 (some .int) 1 [.ref (ad E a0), .int x1, .int x2] h (some (.int res)) h := by
  refine MG.of (by decide) (Nat.le_of_ble_eq_true rfl) ?_
  intro X C hR
  have C : CX E X RX0 cX0_countedAtBest 5 1 := C
  show GG l E X h 0 [(0, .ref (ad E a0)), (1, .int x1), (2, .int x2)] []
  refine g_iconst C dX0_countedAtBest_0 cc_i_0 ?_
  refine g_istore_n (lv' := [(3, .int (0 : Int32)), (0, .ref (ad E a0)), (1, .int x1), (2, .int x2)]) C dX0_countedAtBest_1 rfl (by decide) rfl ?_
  refine g_iconst C dX0_countedAtBest_2 cc_i_1 ?_
  refine g_istore (lv' := [(4, .int (1 : Int32)), (3, .int (0 : Int32)), (0, .ref (ad E a0)), (1, .int x1), (2, .int x2)]) C dX0_countedAtBest_3 (by decide) rfl ?_
  refine g_sub [2, 3, 4, 1, 0] rfl ?_
  exact wb_X0_countedAtBest_5 C 1000 h a0 x1 x2 (0 : Int32) (1 : Int32) oa0 hs hR
set_option maxHeartbeats 4000000 in
set_option maxRecDepth 100000 in
theorem wb_X3_leave_141 {l : Launch} {E : Ep} {X : Fx} {res : Int32} (C : CX E X RX3 cX3_leave 3 2) (h : Hp) (a0 : Nat) (x2 : Int32) (oa0 : OKr a0 3) (hs : b_X3_leave_141  h a0 x2 = some res) (hR : RT E X (some .int) (some (.int res)) h) : GG l E X h 141 [(0, .ref (ad E a0)), (2, .int x2)] [] := by
  refine g_aload_n C 0 dX3_leave_141 rfl rfl ?_
  refine g_iload_n C 1 dX3_leave_142 rfl rfl ?_
  obtain ⟨v1, hcv1, hs⟩ := bnd hs
  refine g_cV (As := [.int x2]) (rest := []) C (w_X3_bounded l E _ _ _ _ oa0 hcv1) mw_X3_bounded lm_X3_82 oa0 rfl (ce3 E _ (oa0).2) rfl (by decide) rfl (Nat.le_of_ble_eq_true rfl) dX3_leave_143 rfl ?_
  have e9 := Option.some.inj hs
  subst e9
  exact g_iret C hR dX3_leave_146
set_option maxHeartbeats 4000000 in
set_option maxRecDepth 100000 in
theorem w_X3_leave (l : Launch) (E : Ep) (h : Hp) (a0 : Nat) (x1 : Int32) (res : Int32) (oa0 : OKr a0 3) (hs : sh_X3_leave h a0 x1 = some res) : MG l E yX3_leave cX3_leave 3 (some .int) 2 [.ref (ad E a0), .int x1] h (some (.int res)) h := by
  refine MG.of (by decide) (Nat.le_of_ble_eq_true rfl) ?_
  intro X C hR
  have C : CX E X RX3 cX3_leave 3 2 := C
  show GG l E X h 0 [(0, .ref (ad E a0)), (1, .int x1)] []
  refine g_aload_n C 0 dX3_leave_0 rfl rfl ?_
  refine gf3_0 C oa0 lf_X3_9 dX3_leave_1 ?_
  refine g_iload_n C 1 dX3_leave_4 rfl rfl ?_
  refine g_iald C (tg3_0 oa0) dX3_leave_5 hs (fun v1 hs => ?_)
  refine g_bipush C dX3_leave_6 cc_b_7 ?_
  refine g_icmp_ne (tgt := 15) C dX3_leave_8 (by decide) hs (fun hs => ?_) (fun hs => ?_)
  · refine g_sipush C dX3_leave_11 cc_s_9999 ?_
    have e9 := Option.some.inj hs
    subst e9
    exact g_iret C hR dX3_leave_14
  · refine g_aload_n C 0 dX3_leave_15 rfl rfl ?_
    refine gf3_6 C oa0 lf_X3_33 dX3_leave_16 ?_
    refine g_iload_n C 1 dX3_leave_19 rfl rfl ?_
    obtain ⟨v2, hcv2, hs⟩ := bnd hs
    refine g_cVN (As := [.int x1]) (rest := []) C (w_X0_countedYesterday l E _ _ _ _ (tg3_6 oa0) hcv2) mw_X0_countedYesterday lm_X3_79 (tg3_6 oa0) rfl (ce0 E _ ((tg3_6 oa0)).2) rfl (by decide) rfl (Nat.le_of_ble_eq_true rfl) dX3_leave_20 rfl ?_
    refine g_istore_n (lv' := [(2, .int v2), (0, .ref (ad E a0)), (1, .int x1)]) C dX3_leave_23 rfl (by decide) rfl ?_
    refine g_aload_n C 1 dX3_leave_24 rfl rfl ?_
    refine gf3_5 C oa0 lf_X3_27 dX3_leave_25 ?_
    refine g_iconst C dX3_leave_28 cc_i_0 ?_
    refine g_iald C (tg3_5 oa0) dX3_leave_29 hs (fun v3 hs => ?_)
    refine g_case hs (fun hx30_0 hs => ?_) (fun hx30_0 hs => ?_)
    · refine g_tabIn (v := (0 : Int32)) (tgt := 141) C dX3_leave_30 hx30_0 (by decide) (by decide) rfl (by decide) ?_
      refine g_sub [1, 0] rfl ?_
      exact wb_X3_leave_141 C h a0 v2 oa0 hs hR
    refine g_case hs (fun hx30_1 hs => ?_) (fun hx30_1 hs => ?_)
    · refine g_tabIn (v := (1 : Int32)) (tgt := 68) C dX3_leave_30 hx30_1 (by decide) (by decide) rfl (by decide) ?_
      refine g_aload_n C 1 dX3_leave_68 rfl rfl ?_
      refine g_iload_n C 0 dX3_leave_69 rfl rfl ?_
      refine g_iconst C dX3_leave_70 cc_i_1 ?_
      refine g_iadd C dX3_leave_71 ?_
      refine g_iconst C dX3_leave_72 cc_i_2 ?_
      refine g_idivC C dX3_leave_73 (by decide) ?_
      obtain ⟨v4, hcv4, hs⟩ := bnd hs
      refine g_cV (As := [.int ((v2 + (1 : Int32)) / (2 : Int32))]) (rest := []) C (w_X3_bounded l E _ _ _ _ oa0 hcv4) mw_X3_bounded lm_X3_82 oa0 rfl (ce3 E _ (oa0).2) rfl (by decide) rfl (Nat.le_of_ble_eq_true rfl) dX3_leave_74 rfl ?_
      have e9 := Option.some.inj hs
      subst e9
      exact g_iret C hR dX3_leave_77
    refine g_case hs (fun hx30_2 hs => ?_) (fun hx30_2 hs => ?_)
    · refine g_tabIn (v := (2 : Int32)) (tgt := 78) C dX3_leave_30 hx30_2 (by decide) (by decide) rfl (by decide) ?_
      refine g_aload_n C 1 dX3_leave_78 rfl rfl ?_
      refine g_iload_n C 0 dX3_leave_79 rfl rfl ?_
      refine g_iconst C dX3_leave_80 cc_i_2 ?_
      refine g_imul C dX3_leave_81 ?_
      obtain ⟨v5, hcv5, hs⟩ := bnd hs
      refine g_cV (As := [.int (v2 * (2 : Int32))]) (rest := []) C (w_X3_bounded l E _ _ _ _ oa0 hcv5) mw_X3_bounded lm_X3_82 oa0 rfl (ce3 E _ (oa0).2) rfl (by decide) rfl (Nat.le_of_ble_eq_true rfl) dX3_leave_82 rfl ?_
      have e9 := Option.some.inj hs
      subst e9
      exact g_iret C hR dX3_leave_85
    refine g_case hs (fun hx30_3 hs => ?_) (fun hx30_3 hs => ?_)
    · refine g_tabIn (v := (3 : Int32)) (tgt := 86) C dX3_leave_30 hx30_3 (by decide) (by decide) rfl (by decide) ?_
      refine g_aload_n C 1 dX3_leave_86 rfl rfl ?_
      refine g_aload_n C 1 dX3_leave_87 rfl rfl ?_
      refine gf3_6 C oa0 lf_X3_33 dX3_leave_88 ?_
      refine g_aload_n C 1 dX3_leave_91 rfl rfl ?_
      refine gf3_5 C oa0 lf_X3_27 dX3_leave_92 ?_
      refine g_iconst C dX3_leave_95 cc_i_1 ?_
      refine g_iald C (tg3_5 oa0) dX3_leave_96 hs (fun v6 hs => ?_)
      refine g_iload_n C 2 dX3_leave_97 rfl rfl ?_
      obtain ⟨v7, hcv7, hs⟩ := bnd hs
      refine g_cVN (As := [.int v6, .int x1]) (rest := [.ref (ad E a0)]) C (w_X0_countedTogether l E _ _ _ _ _ (tg3_6 oa0) hcv7) mw_X0_countedTogether lm_X3_85 (tg3_6 oa0) rfl (ce0 E _ ((tg3_6 oa0)).2) rfl (by decide) rfl (Nat.le_of_ble_eq_true rfl) dX3_leave_98 rfl ?_
      obtain ⟨v8, hcv8, hs⟩ := bnd hs
      refine g_cV (As := [.int v7]) (rest := []) C (w_X3_bounded l E _ _ _ _ oa0 hcv8) mw_X3_bounded lm_X3_82 oa0 rfl (ce3 E _ (oa0).2) rfl (by decide) rfl (Nat.le_of_ble_eq_true rfl) dX3_leave_101 rfl ?_
      have e9 := Option.some.inj hs
      subst e9
      exact g_iret C hR dX3_leave_104
    refine g_case hs (fun hx30_4 hs => ?_) (fun hx30_4 hs => ?_)
    · refine g_tabIn (v := (4 : Int32)) (tgt := 105) C dX3_leave_30 hx30_4 (by decide) (by decide) rfl (by decide) ?_
      refine g_aload_n C 1 dX3_leave_105 rfl rfl ?_
      refine g_aload_n C 1 dX3_leave_106 rfl rfl ?_
      refine gf3_6 C oa0 lf_X3_33 dX3_leave_107 ?_
      refine g_aload_n C 1 dX3_leave_110 rfl rfl ?_
      refine gf3_5 C oa0 lf_X3_27 dX3_leave_111 ?_
      refine g_iconst C dX3_leave_114 cc_i_1 ?_
      refine g_iald C (tg3_5 oa0) dX3_leave_115 hs (fun v9 hs => ?_)
      refine g_iload_n C 2 dX3_leave_116 rfl rfl ?_
      obtain ⟨v10, hcv10, hs⟩ := bnd hs
      refine g_cVN (As := [.int v9, .int x1]) (rest := [.ref (ad E a0)]) C (w_X0_countedAtBest l E _ _ _ _ _ (tg3_6 oa0) hcv10) mw_X0_countedAtBest lm_X3_88 (tg3_6 oa0) rfl (ce0 E _ ((tg3_6 oa0)).2) rfl (by decide) rfl (Nat.le_of_ble_eq_true rfl) dX3_leave_117 rfl ?_
      obtain ⟨v11, hcv11, hs⟩ := bnd hs
      refine g_cV (As := [.int v10]) (rest := []) C (w_X3_bounded l E _ _ _ _ oa0 hcv11) mw_X3_bounded lm_X3_82 oa0 rfl (ce3 E _ (oa0).2) rfl (by decide) rfl (Nat.le_of_ble_eq_true rfl) dX3_leave_120 rfl ?_
      have e9 := Option.some.inj hs
      subst e9
      exact g_iret C hR dX3_leave_123
    refine g_case hs (fun hx30_5 hs => ?_) (fun hx30_5 hs => ?_)
    · refine g_tabIn (v := (5 : Int32)) (tgt := 124) C dX3_leave_30 hx30_5 (by decide) (by decide) rfl (by decide) ?_
      refine g_aload_n C 1 dX3_leave_124 rfl rfl ?_
      refine g_iload_n C 0 dX3_leave_125 rfl rfl ?_
      refine g_iconst C dX3_leave_126 cc_i_1 ?_
      refine g_iadd C dX3_leave_127 ?_
      refine g_iconst C dX3_leave_128 cc_i_2 ?_
      refine g_idivC C dX3_leave_129 (by decide) ?_
      refine g_aload_n C 1 dX3_leave_130 rfl rfl ?_
      refine gf3_1 C oa0 lf_X3_15 dX3_leave_131 ?_
      refine g_iload_n C 2 dX3_leave_134 rfl rfl ?_
      refine g_iald C (tg3_1 oa0) dX3_leave_135 hs (fun v12 hs => ?_)
      refine g_iadd C dX3_leave_136 ?_
      obtain ⟨v13, hcv13, hs⟩ := bnd hs
      refine g_cV (As := [.int (((v2 + (1 : Int32)) / (2 : Int32)) + v12)]) (rest := []) C (w_X3_bounded l E _ _ _ _ oa0 hcv13) mw_X3_bounded lm_X3_82 oa0 rfl (ce3 E _ (oa0).2) rfl (by decide) rfl (Nat.le_of_ble_eq_true rfl) dX3_leave_137 rfl ?_
      have e9 := Option.some.inj hs
      subst e9
      exact g_iret C hR dX3_leave_140
    refine g_tabOut (tgt := 141) C dX3_leave_30 (by have z0 := ne_tz (z := 0) (by decide) hx30_0; have z1 := ne_tz (z := 1) (by decide) hx30_1; have z2 := ne_tz (z := 2) (by decide) hx30_2; have z3 := ne_tz (z := 3) (by decide) hx30_3; have z4 := ne_tz (z := 4) (by decide) hx30_4; have z5 := ne_tz (z := 5) (by decide) hx30_5; omega) (by decide) ?_
    refine g_sub [1, 0] rfl ?_
    exact wb_X3_leave_141 C h a0 v2 oa0 hs hR
set_option maxHeartbeats 4000000 in
set_option maxRecDepth 100000 in
theorem wb_X0_givenToday_4 {l : Launch} {E : Ep} {X : Fx} {res : Int32} (C : CX E X RX0 cX0_givenToday 4 0) : ∀ (n : Nat) (h : Hp) (a0 : Nat) (x1 : Int32) (x2 : Int32) (x3 : Int32) (oa0 : OKr a0 0), b_X0_givenToday_4  n h a0 x1 x2 x3 = some res → RT E X (some .int) (some (.int res)) h → GG l E X h 4 [(0, .ref (ad E a0)), (1, .int x1), (2, .int x2), (3, .int x3)] [] := by
  intro n
  induction n with
  | zero =>
    intro h a0 x1 x2 x3 oa0
    intro hs
    exact absurd hs (by intro e; cases e)
  | succ n ih =>
    intro h a0 x1 x2 x3 oa0 hs hR
    have hk4 := ih
    have hs : f_X0_givenToday_4  (b_X0_givenToday_4  n) h a0 x1 x2 x3 = some res := hs
    generalize b_X0_givenToday_4  n = k4 at hs hk4
    refine g_iload_n C 3 dX0_givenToday_4 rfl rfl ?_
    refine g_bipush C dX0_givenToday_5 cc_b_7 ?_
    refine g_icmp_ge (tgt := 30) C dX0_givenToday_7 (by decide) hs (fun hs => ?_) (fun hs => ?_)
    · refine g_iload_n C 2 dX0_givenToday_30 rfl rfl ?_
      have e9 := Option.some.inj hs
      subst e9
      exact g_iret C hR dX0_givenToday_31
    · refine g_iload_n C 2 dX0_givenToday_10 rfl rfl ?_
      refine g_aload_n C 0 dX0_givenToday_11 rfl rfl ?_
      refine gf0_0 C oa0 lf_X0_11 dX0_givenToday_12 ?_
      refine g_iload_n C 1 dX0_givenToday_15 rfl rfl ?_
      refine g_bipush C dX0_givenToday_16 cc_b_7 ?_
      refine g_imul C dX0_givenToday_18 ?_
      refine g_iload_n C 3 dX0_givenToday_19 rfl rfl ?_
      refine g_iadd C dX0_givenToday_20 ?_
      refine g_iald C (tg0_0 oa0) dX0_givenToday_21 hs (fun v1 hs => ?_)
      refine g_iadd C dX0_givenToday_22 ?_
      refine g_istore_n (lv' := [(2, .int (x2 + v1)), (0, .ref (ad E a0)), (1, .int x1), (3, .int x3)]) C dX0_givenToday_23 rfl (by decide) rfl ?_
      refine g_iinc (lv' := [(3, .int (x3 + (1 : Int32))), (2, .int (x2 + v1)), (0, .ref (ad E a0)), (1, .int x1)]) (j := 3) C dX0_givenToday_24 rfl (cc_n_1 _) (by decide) rfl ?_
      refine g_goto (tgt := 4) C dX0_givenToday_27 (by decide) ?_
      refine g_sub [2, 3, 1, 0] rfl ?_
      exact hk4 h a0 x1 (x2 + v1) (x3 + (1 : Int32)) oa0 hs hR
set_option maxHeartbeats 4000000 in
set_option maxRecDepth 100000 in
theorem w_X0_givenToday (l : Launch) (E : Ep) (h : Hp) (a0 : Nat) (x1 : Int32) (res : Int32) (oa0 : OKr a0 0) (hs : sh_X0_givenToday h a0 x1 = some res) : MG l E yX0_givenToday cX0_givenToday 4 (some .int) 0 [.ref (ad E a0), .int x1] h (some (.int res)) h := by
  refine MG.of (by decide) (Nat.le_of_ble_eq_true rfl) ?_
  intro X C hR
  have C : CX E X RX0 cX0_givenToday 4 0 := C
  show GG l E X h 0 [(0, .ref (ad E a0)), (1, .int x1)] []
  refine g_iconst C dX0_givenToday_0 cc_i_0 ?_
  refine g_istore_n (lv' := [(2, .int (0 : Int32)), (0, .ref (ad E a0)), (1, .int x1)]) C dX0_givenToday_1 rfl (by decide) rfl ?_
  refine g_iconst C dX0_givenToday_2 cc_i_0 ?_
  refine g_istore_n (lv' := [(3, .int (0 : Int32)), (2, .int (0 : Int32)), (0, .ref (ad E a0)), (1, .int x1)]) C dX0_givenToday_3 rfl (by decide) rfl ?_
  refine g_sub [2, 3, 1, 0] rfl ?_
  exact wb_X0_givenToday_4 C 1000 h a0 x1 (0 : Int32) (0 : Int32) oa0 hs hR
set_option maxHeartbeats 4000000 in
set_option maxRecDepth 100000 in
theorem w_X4_person (l : Launch) (E : Ep) (h : Hp) (a0 : Nat) (x1 : Int32) (x2 : Int32) (res : Int32 × Hp) (oa0 : OKr a0 4) (hs : sh_X4_person h a0 x1 x2 = some res) : MG l E yX4_person cX4_person 3 (some .int) 3 [.ref (ad E a0), .int x1, .int x2] h (some (.int res.1)) res.2 := by
  refine MG.of (by decide) (Nat.le_of_ble_eq_true rfl) ?_
  intro X C hR
  have C : CX E X RX4 cX4_person 3 3 := C
  show GG l E X h 0 [(0, .ref (ad E a0)), (1, .int x1), (2, .int x2)] []
  refine g_aload_n C 0 dX4_person_0 rfl rfl ?_
  refine gf4_0 C oa0 lf_X4_10 dX4_person_1 ?_
  refine g_iload_n C 1 dX4_person_4 rfl rfl ?_
  obtain ⟨v1, hcv1, hs⟩ := bnd hs
  refine g_cVN (As := [.int x1]) (rest := []) C (w_X3_exists l E _ _ _ _ (tg4_0 oa0) hcv1) mw_X3_exists lm_X4_64 (tg4_0 oa0) rfl (ce3 E _ ((tg4_0 oa0)).2) rfl (by decide) rfl (Nat.le_of_ble_eq_true rfl) dX4_person_5 rfl ?_
  refine g_if_ne (tgt := 17) C dX4_person_8 (by decide) hs (fun hs => ?_) (fun hs => ?_)
  · refine g_aload_n C 0 dX4_person_11 rfl rfl ?_
    refine g_iconst C dX4_person_12 cc_i_m1 ?_
    obtain ⟨q2, hcq2, hs⟩ := bnd hs
    refine g_cV (As := [.int (-1 : Int32)]) (rest := []) C (w_X4_refuse l E _ _ _ _ oa0 hcq2) mw_X4_refuse lm_X4_46 oa0 rfl (ce4 E _ (oa0).2) rfl (by decide) rfl (Nat.le_of_ble_eq_true rfl) dX4_person_13 rfl ?_
    have e9 := Option.some.inj hs
    subst e9
    exact g_iret C hR dX4_person_16
  · refine g_iload_n C 2 dX4_person_17 rfl rfl ?_
    refine g_case hs (fun hx18_0 hs => ?_) (fun hx18_0 hs => ?_)
    · refine g_tabIn (v := (0 : Int32)) (tgt := 68) C dX4_person_18 hx18_0 (by decide) (by decide) rfl (by decide) ?_
      refine g_aload_n C 0 dX4_person_68 rfl rfl ?_
      refine gf4_0 C oa0 lf_X4_10 dX4_person_69 ?_
      refine gf3_0N C (tg4_0 oa0) lf_X4_68 dX4_person_72 ?_
      refine g_iload_n C 1 dX4_person_75 rfl rfl ?_
      refine g_iald C (tg3_0 (tg4_0 oa0)) dX4_person_76 hs (fun v3 hs => ?_)
      have e9 := Option.some.inj hs
      subst e9
      exact g_iret C hR dX4_person_77
    refine g_case hs (fun hx18_1 hs => ?_) (fun hx18_1 hs => ?_)
    · refine g_tabIn (v := (1 : Int32)) (tgt := 78) C dX4_person_18 hx18_1 (by decide) (by decide) rfl (by decide) ?_
      refine g_aload_n C 0 dX4_person_78 rfl rfl ?_
      refine gf4_0 C oa0 lf_X4_10 dX4_person_79 ?_
      refine gf3_1N C (tg4_0 oa0) lf_X4_71 dX4_person_82 ?_
      refine g_iload_n C 1 dX4_person_85 rfl rfl ?_
      refine g_iald C (tg3_1 (tg4_0 oa0)) dX4_person_86 hs (fun v4 hs => ?_)
      have e9 := Option.some.inj hs
      subst e9
      exact g_iret C hR dX4_person_87
    refine g_case hs (fun hx18_2 hs => ?_) (fun hx18_2 hs => ?_)
    · refine g_tabIn (v := (2 : Int32)) (tgt := 88) C dX4_person_18 hx18_2 (by decide) (by decide) rfl (by decide) ?_
      refine g_aload_n C 0 dX4_person_88 rfl rfl ?_
      refine gf4_0 C oa0 lf_X4_10 dX4_person_89 ?_
      refine gf3_2N C (tg4_0 oa0) lf_X4_74 dX4_person_92 ?_
      refine g_iload_n C 1 dX4_person_95 rfl rfl ?_
      refine g_iald C (tg3_2 (tg4_0 oa0)) dX4_person_96 hs (fun v5 hs => ?_)
      have e9 := Option.some.inj hs
      subst e9
      exact g_iret C hR dX4_person_97
    refine g_case hs (fun hx18_3 hs => ?_) (fun hx18_3 hs => ?_)
    · refine g_tabIn (v := (3 : Int32)) (tgt := 98) C dX4_person_18 hx18_3 (by decide) (by decide) rfl (by decide) ?_
      refine g_aload_n C 0 dX4_person_98 rfl rfl ?_
      refine gf4_0 C oa0 lf_X4_10 dX4_person_99 ?_
      refine gf3_3N C (tg4_0 oa0) lf_X4_77 dX4_person_102 ?_
      refine g_iload_n C 1 dX4_person_105 rfl rfl ?_
      refine g_iald C (tg3_3 (tg4_0 oa0)) dX4_person_106 hs (fun v6 hs => ?_)
      have e9 := Option.some.inj hs
      subst e9
      exact g_iret C hR dX4_person_107
    refine g_case hs (fun hx18_4 hs => ?_) (fun hx18_4 hs => ?_)
    · refine g_tabIn (v := (4 : Int32)) (tgt := 108) C dX4_person_18 hx18_4 (by decide) (by decide) rfl (by decide) ?_
      refine g_aload_n C 0 dX4_person_108 rfl rfl ?_
      refine gf4_0 C oa0 lf_X4_10 dX4_person_109 ?_
      refine gf3_4N C (tg4_0 oa0) lf_X4_80 dX4_person_112 ?_
      refine g_iload_n C 1 dX4_person_115 rfl rfl ?_
      refine g_iald C (tg3_4 (tg4_0 oa0)) dX4_person_116 hs (fun v7 hs => ?_)
      have e9 := Option.some.inj hs
      subst e9
      exact g_iret C hR dX4_person_117
    refine g_case hs (fun hx18_5 hs => ?_) (fun hx18_5 hs => ?_)
    · refine g_tabIn (v := (5 : Int32)) (tgt := 118) C dX4_person_18 hx18_5 (by decide) (by decide) rfl (by decide) ?_
      refine g_aload_n C 0 dX4_person_118 rfl rfl ?_
      refine gf4_0 C oa0 lf_X4_10 dX4_person_119 ?_
      refine gf3_6N C (tg4_0 oa0) lf_X4_83 dX4_person_122 ?_
      refine g_iload_n C 1 dX4_person_125 rfl rfl ?_
      obtain ⟨v8, hcv8, hs⟩ := bnd hs
      refine g_cVN (As := [.int x1]) (rest := []) C (w_X0_gotToday l E _ _ _ _ (tg3_6 (tg4_0 oa0)) hcv8) mw_X0_gotToday lm_X4_87 (tg3_6 (tg4_0 oa0)) rfl (ce0 E _ ((tg3_6 (tg4_0 oa0))).2) rfl (by decide) rfl (Nat.le_of_ble_eq_true rfl) dX4_person_126 rfl ?_
      have e9 := Option.some.inj hs
      subst e9
      exact g_iret C hR dX4_person_129
    refine g_case hs (fun hx18_6 hs => ?_) (fun hx18_6 hs => ?_)
    · refine g_tabIn (v := (6 : Int32)) (tgt := 130) C dX4_person_18 hx18_6 (by decide) (by decide) rfl (by decide) ?_
      refine g_aload_n C 0 dX4_person_130 rfl rfl ?_
      refine gf4_0 C oa0 lf_X4_10 dX4_person_131 ?_
      refine g_iload_n C 1 dX4_person_134 rfl rfl ?_
      obtain ⟨v9, hcv9, hs⟩ := bnd hs
      refine g_cVN (As := [.int x1]) (rest := []) C (w_X3_leave l E _ _ _ _ (tg4_0 oa0) hcv9) mw_X3_leave lm_X4_92 (tg4_0 oa0) rfl (ce3 E _ ((tg4_0 oa0)).2) rfl (by decide) rfl (Nat.le_of_ble_eq_true rfl) dX4_person_135 rfl ?_
      have e9 := Option.some.inj hs
      subst e9
      exact g_iret C hR dX4_person_138
    refine g_case hs (fun hx18_7 hs => ?_) (fun hx18_7 hs => ?_)
    · refine g_tabIn (v := (7 : Int32)) (tgt := 139) C dX4_person_18 hx18_7 (by decide) (by decide) rfl (by decide) ?_
      refine g_aload_n C 0 dX4_person_139 rfl rfl ?_
      refine gf4_0 C oa0 lf_X4_10 dX4_person_140 ?_
      refine gf3_6N C (tg4_0 oa0) lf_X4_83 dX4_person_143 ?_
      refine g_iload_n C 1 dX4_person_146 rfl rfl ?_
      obtain ⟨v10, hcv10, hs⟩ := bnd hs
      refine g_cVN (As := [.int x1]) (rest := []) C (w_X0_givenToday l E _ _ _ _ (tg3_6 (tg4_0 oa0)) hcv10) mw_X0_givenToday lm_X4_95 (tg3_6 (tg4_0 oa0)) rfl (ce0 E _ ((tg3_6 (tg4_0 oa0))).2) rfl (by decide) rfl (Nat.le_of_ble_eq_true rfl) dX4_person_147 rfl ?_
      have e9 := Option.some.inj hs
      subst e9
      exact g_iret C hR dX4_person_150
    refine g_case hs (fun hx18_8 hs => ?_) (fun hx18_8 hs => ?_)
    · refine g_tabIn (v := (8 : Int32)) (tgt := 151) C dX4_person_18 hx18_8 (by decide) (by decide) rfl (by decide) ?_
      refine g_aload_n C 0 dX4_person_151 rfl rfl ?_
      refine gf4_0 C oa0 lf_X4_10 dX4_person_152 ?_
      refine gf3_6N C (tg4_0 oa0) lf_X4_83 dX4_person_155 ?_
      refine g_iload_n C 1 dX4_person_158 rfl rfl ?_
      obtain ⟨v11, hcv11, hs⟩ := bnd hs
      refine g_cVN (As := [.int x1]) (rest := []) C (w_X0_countedYesterday l E _ _ _ _ (tg3_6 (tg4_0 oa0)) hcv11) mw_X0_countedYesterday lm_X4_98 (tg3_6 (tg4_0 oa0)) rfl (ce0 E _ ((tg3_6 (tg4_0 oa0))).2) rfl (by decide) rfl (Nat.le_of_ble_eq_true rfl) dX4_person_159 rfl ?_
      have e9 := Option.some.inj hs
      subst e9
      exact g_iret C hR dX4_person_162
    refine g_tabOut (tgt := 163) C dX4_person_18 (by have z0 := ne_tz (z := 0) (by decide) hx18_0; have z1 := ne_tz (z := 1) (by decide) hx18_1; have z2 := ne_tz (z := 2) (by decide) hx18_2; have z3 := ne_tz (z := 3) (by decide) hx18_3; have z4 := ne_tz (z := 4) (by decide) hx18_4; have z5 := ne_tz (z := 5) (by decide) hx18_5; have z6 := ne_tz (z := 6) (by decide) hx18_6; have z7 := ne_tz (z := 7) (by decide) hx18_7; have z8 := ne_tz (z := 8) (by decide) hx18_8; omega) (by decide) ?_
    refine g_aload_n C 0 dX4_person_163 rfl rfl ?_
    refine g_bipush C dX4_person_164 cc_b_m2 ?_
    obtain ⟨q12, hcq12, hs⟩ := bnd hs
    refine g_cV (As := [.int (-2 : Int32)]) (rest := []) C (w_X4_refuse l E _ _ _ _ oa0 hcq12) mw_X4_refuse lm_X4_46 oa0 rfl (ce4 E _ (oa0).2) rfl (by decide) rfl (Nat.le_of_ble_eq_true rfl) dX4_person_166 rfl ?_
    have e9 := Option.some.inj hs
    subst e9
    exact g_iret C hR dX4_person_169
set_option maxHeartbeats 4000000 in
set_option maxRecDepth 100000 in
theorem wb_X4_putRefusal_22 {l : Launch} {E : Ep} {X : Fx} {res : Int32} (C : CX E X RX4 cX4_putRefusal 4 1) (h : Hp) (hs : b_X4_putRefusal_22  h  = some res) (hR : RT E X (some .int) (some (.int res)) h) : GG l E X h 22 [] [] := by
  refine g_bipush C dX4_putRefusal_22 cc_b_m2 ?_
  have e9 := Option.some.inj hs
  subst e9
  exact g_iret C hR dX4_putRefusal_24
set_option maxHeartbeats 4000000 in
set_option maxRecDepth 100000 in
theorem wb_X4_putRefusal_52 {l : Launch} {E : Ep} {X : Fx} {res : Int32} (C : CX E X RX4 cX4_putRefusal 4 1) (h : Hp) (s0 : Int32) (hs : b_X4_putRefusal_52  h s0 = some res) (hR : RT E X (some .int) (some (.int res)) h) : GG l E X h 52 [] [.int s0] := by
  have e9 := Option.some.inj hs
  subst e9
  exact g_iret C hR dX4_putRefusal_52
set_option maxHeartbeats 4000000 in
set_option maxRecDepth 100000 in
theorem wb_X4_putRefusal_47 {l : Launch} {E : Ep} {X : Fx} {res : Int32} (C : CX E X RX4 cX4_putRefusal 4 1) (h : Hp) (hs : b_X4_putRefusal_47  h  = some res) (hR : RT E X (some .int) (some (.int res)) h) : GG l E X h 47 [] [] := by
  refine g_iconst C dX4_putRefusal_47 cc_i_0 ?_
  refine g_goto (tgt := 52) C dX4_putRefusal_48 (by decide) ?_
  exact wb_X4_putRefusal_52 C h (0 : Int32) hs hR
set_option maxHeartbeats 4000000 in
set_option maxRecDepth 100000 in
theorem wb_X4_putRefusal_67 {l : Launch} {E : Ep} {X : Fx} {res : Int32} (C : CX E X RX4 cX4_putRefusal 4 1) (h : Hp) (s0 : Int32) (s1 : Int32) (s2 : Int32) (hs : b_X4_putRefusal_67  h s0 s1 s2 = some res) (hR : RT E X (some .int) (some (.int res)) h) : GG l E X h 67 [] [.int s2, .int s1, .int s0] := by
  obtain ⟨v1, hcv1, hs⟩ := bnd hs
  refine g_cS (As := [.int s0, .int s1, .int s2]) (rest := []) C (w_X4_outside l E _ _ _ _ _ hcv1) mw_X4_outside lm_X4_111 rfl (by decide) rfl (Nat.le_of_ble_eq_true rfl) dX4_putRefusal_67 rfl ?_
  have e9 := Option.some.inj hs
  subst e9
  exact g_iret C hR dX4_putRefusal_70
set_option maxHeartbeats 4000000 in
set_option maxRecDepth 100000 in
theorem w_X4_putRefusal (l : Launch) (E : Ep) (h : Hp) (a0 : Nat) (x1 : Int32) (x2 : Int32) (x3 : Int32) (res : Int32) (oa0 : OKr a0 4) (hs : sh_X4_putRefusal h a0 x1 x2 x3 = some res) : MG l E yX4_putRefusal cX4_putRefusal 4 (some .int) 1 [.ref (ad E a0), .int x1, .int x2, .int x3] h (some (.int res)) h := by
  refine MG.of (by decide) (Nat.le_of_ble_eq_true rfl) ?_
  intro X C hR
  have C : CX E X RX4 cX4_putRefusal 4 1 := C
  show GG l E X h 0 [(0, .ref (ad E a0)), (1, .int x1), (2, .int x2), (3, .int x3)] []
  refine g_aload_n C 0 dX4_putRefusal_0 rfl rfl ?_
  refine gf4_0 C oa0 lf_X4_10 dX4_putRefusal_1 ?_
  refine g_iload_n C 1 dX4_putRefusal_4 rfl rfl ?_
  obtain ⟨v1, hcv1, hs⟩ := bnd hs
  refine g_cVN (As := [.int x1]) (rest := []) C (w_X3_exists l E _ _ _ _ (tg4_0 oa0) hcv1) mw_X3_exists lm_X4_64 (tg4_0 oa0) rfl (ce3 E _ ((tg4_0 oa0)).2) rfl (by decide) rfl (Nat.le_of_ble_eq_true rfl) dX4_putRefusal_5 rfl ?_
  refine g_if_ne (tgt := 13) C dX4_putRefusal_8 (by decide) hs (fun hs => ?_) (fun hs => ?_)
  · refine g_iconst C dX4_putRefusal_11 cc_i_m1 ?_
    have e9 := Option.some.inj hs
    subst e9
    exact g_iret C hR dX4_putRefusal_12
  · refine g_iload_n C 2 dX4_putRefusal_13 rfl rfl ?_
    refine g_if_lt (tgt := 22) C dX4_putRefusal_14 (by decide) hs (fun hs => ?_) (fun hs => ?_)
    · refine g_sub [] rfl ?_
      exact wb_X4_putRefusal_22 C h hs hR
    · refine g_iload_n C 2 dX4_putRefusal_17 rfl rfl ?_
      refine g_iconst C dX4_putRefusal_18 cc_i_2 ?_
      refine g_icmp_le (tgt := 25) C dX4_putRefusal_19 (by decide) hs (fun hs => ?_) (fun hs => ?_)
      · refine g_iload_n C 2 dX4_putRefusal_25 rfl rfl ?_
        refine g_iconst C dX4_putRefusal_26 cc_i_2 ?_
        refine g_icmp_ne (tgt := 53) C dX4_putRefusal_27 (by decide) hs (fun hs => ?_) (fun hs => ?_)
        · refine g_iload_n C 3 dX4_putRefusal_30 rfl rfl ?_
          refine g_bipush C dX4_putRefusal_31 cc_b_9 ?_
          refine g_icmp_eq (tgt := 47) C dX4_putRefusal_33 (by decide) hs (fun hs => ?_) (fun hs => ?_)
          · refine g_sub [] rfl ?_
            exact wb_X4_putRefusal_47 C h hs hR
          · refine g_aload_n C 0 dX4_putRefusal_36 rfl rfl ?_
            refine gf4_0 C oa0 lf_X4_10 dX4_putRefusal_37 ?_
            refine g_iload_n C 3 dX4_putRefusal_40 rfl rfl ?_
            obtain ⟨v2, hcv2, hs⟩ := bnd hs
            refine g_cVN (As := [.int x3]) (rest := []) C (w_X3_exists l E _ _ _ _ (tg4_0 oa0) hcv2) mw_X3_exists lm_X4_64 (tg4_0 oa0) rfl (ce3 E _ ((tg4_0 oa0)).2) rfl (by decide) rfl (Nat.le_of_ble_eq_true rfl) dX4_putRefusal_41 rfl ?_
            refine g_if_eq (tgt := 51) C dX4_putRefusal_44 (by decide) hs (fun hs => ?_) (fun hs => ?_)
            · refine g_iconst C dX4_putRefusal_51 cc_i_m1 ?_
              refine g_sub [] rfl ?_
              exact wb_X4_putRefusal_52 C h (-1 : Int32) hs hR
            · refine g_sub [] rfl ?_
              exact wb_X4_putRefusal_47 C h hs hR
        · refine g_iload_n C 3 dX4_putRefusal_53 rfl rfl ?_
          refine g_iconst C dX4_putRefusal_54 cc_i_0 ?_
          refine g_iload_n C 2 dX4_putRefusal_55 rfl rfl ?_
          refine g_if_ne (tgt := 65) C dX4_putRefusal_56 (by decide) hs (fun hs => ?_) (fun hs => ?_)
          · refine g_sipush C dX4_putRefusal_59 cc_s_9999 ?_
            refine g_goto (tgt := 67) C dX4_putRefusal_62 (by decide) ?_
            refine g_sub [] rfl ?_
            exact wb_X4_putRefusal_67 C h x3 (0 : Int32) (9999 : Int32) hs hR
          · refine g_bipush C dX4_putRefusal_65 cc_b_99 ?_
            refine g_sub [] rfl ?_
            exact wb_X4_putRefusal_67 C h x3 (0 : Int32) (99 : Int32) hs hR
      · refine g_sub [] rfl ?_
        exact wb_X4_putRefusal_22 C h hs hR
set_option maxHeartbeats 4000000 in
set_option maxRecDepth 100000 in
theorem wb_X4_put_57 {l : Launch} {E : Ep} {X : Fx} {res : Int32 × Hp} (C : CX E X RX4 cX4_put 7 2) (h : Hp) (x1 : Int32) (x3 : Int32) (b0 : Nat) (ob0 : OKr b0 6) (hs : b_X4_put_57  h x1 x3 b0 = some res) (hR : RT E X (some .int) (some (.int res.1)) res.2) : GG l E X h 57 [(1, .int x1), (3, .int x3)] [.ref (ad E b0)] := by
  refine g_astore (lv' := [(5, .ref (ad E b0)), (1, .int x1), (3, .int x3)]) C dX4_put_57 (by decide) rfl ?_
  refine g_aload C 0 dX4_put_59 rfl ?_
  refine g_iload_n C 1 dX4_put_61 rfl rfl ?_
  refine g_iald C ob0 dX4_put_62 hs (fun v1 hs => ?_)
  refine g_istore (lv' := [(6, .int v1), (5, .ref (ad E b0)), (1, .int x1), (3, .int x3)]) C dX4_put_63 (by decide) rfl ?_
  refine g_aload C 1 dX4_put_65 rfl ?_
  refine g_iload_n C 2 dX4_put_67 rfl rfl ?_
  refine g_iload_n C 3 dX4_put_68 rfl rfl ?_
  refine g_iast C ob0 dX4_put_69 hs (fun h2 hs => ?_)
  refine g_iload C 0 dX4_put_70 rfl ?_
  have e9 := Option.some.inj hs
  subst e9
  exact g_iret C hR dX4_put_72
set_option maxHeartbeats 4000000 in
set_option maxRecDepth 100000 in
theorem w_X4_put (l : Launch) (E : Ep) (h : Hp) (a0 : Nat) (x1 : Int32) (x2 : Int32) (x3 : Int32) (res : Int32 × Hp) (oa0 : OKr a0 4) (hs : sh_X4_put h a0 x1 x2 x3 = some res) : MG l E yX4_put cX4_put 7 (some .int) 2 [.ref (ad E a0), .int x1, .int x2, .int x3] h (some (.int res.1)) res.2 := by
  refine MG.of (by decide) (Nat.le_of_ble_eq_true rfl) ?_
  intro X C hR
  have C : CX E X RX4 cX4_put 7 2 := C
  show GG l E X h 0 [(0, .ref (ad E a0)), (1, .int x1), (2, .int x2), (3, .int x3)] []
  refine g_aload_n C 0 dX4_put_0 rfl rfl ?_
  refine g_iload_n C 1 dX4_put_1 rfl rfl ?_
  refine g_iload_n C 2 dX4_put_2 rfl rfl ?_
  refine g_iload_n C 3 dX4_put_3 rfl rfl ?_
  obtain ⟨v1, hcv1, hs⟩ := bnd hs
  refine g_cV (As := [.int x1, .int x2, .int x3]) (rest := []) C (w_X4_putRefusal l E _ _ _ _ _ _ oa0 hcv1) mw_X4_putRefusal lm_X4_101 oa0 rfl (ce4 E _ (oa0).2) rfl (by decide) rfl (Nat.le_of_ble_eq_true rfl) dX4_put_4 rfl ?_
  refine g_istore (lv' := [(4, .int v1), (0, .ref (ad E a0)), (1, .int x1), (2, .int x2), (3, .int x3)]) C dX4_put_7 (by decide) rfl ?_
  refine g_iload C 0 dX4_put_9 rfl ?_
  refine g_if_eq (tgt := 21) C dX4_put_11 (by decide) hs (fun hs => ?_) (fun hs => ?_)
  · refine g_iload_n C 3 dX4_put_21 rfl rfl ?_
    refine g_if_ne (tgt := 35) C dX4_put_22 (by decide) hs (fun hs => ?_) (fun hs => ?_)
    · refine g_aload_n C 1 dX4_put_25 rfl rfl ?_
      refine gf4_0 C oa0 lf_X4_10 dX4_put_26 ?_
      refine gf3_3N C (tg4_0 oa0) lf_X4_77 dX4_put_29 ?_
      refine g_goto (tgt := 57) C dX4_put_32 (by decide) ?_
      refine g_sub [2, 4] rfl ?_
      exact wb_X4_put_57 C h x1 x3 (rf (rf a0 0) 3) (tg3_3 (tg4_0 oa0)) hs hR
    · refine g_iload_n C 3 dX4_put_35 rfl rfl ?_
      refine g_iconst C dX4_put_36 cc_i_1 ?_
      refine g_icmp_ne (tgt := 50) C dX4_put_37 (by decide) hs (fun hs => ?_) (fun hs => ?_)
      · refine g_aload_n C 1 dX4_put_40 rfl rfl ?_
        refine gf4_0 C oa0 lf_X4_10 dX4_put_41 ?_
        refine gf3_4N C (tg4_0 oa0) lf_X4_80 dX4_put_44 ?_
        refine g_goto (tgt := 57) C dX4_put_47 (by decide) ?_
        refine g_sub [2, 4] rfl ?_
        exact wb_X4_put_57 C h x1 x3 (rf (rf a0 0) 4) (tg3_4 (tg4_0 oa0)) hs hR
      · refine g_aload_n C 1 dX4_put_50 rfl rfl ?_
        refine gf4_0 C oa0 lf_X4_10 dX4_put_51 ?_
        refine gf3_2N C (tg4_0 oa0) lf_X4_74 dX4_put_54 ?_
        refine g_sub [2, 4] rfl ?_
        exact wb_X4_put_57 C h x1 x3 (rf (rf a0 0) 2) (tg3_2 (tg4_0 oa0)) hs hR
  · refine g_aload_n C 1 dX4_put_14 rfl rfl ?_
    refine g_iload C 0 dX4_put_15 rfl ?_
    obtain ⟨q2, hcq2, hs⟩ := bnd hs
    refine g_cV (As := [.int v1]) (rest := []) C (w_X4_refuse l E _ _ _ _ oa0 hcq2) mw_X4_refuse lm_X4_46 oa0 rfl (ce4 E _ (oa0).2) rfl (by decide) rfl (Nat.le_of_ble_eq_true rfl) dX4_put_17 rfl ?_
    have e9 := Option.some.inj hs
    subst e9
    exact g_iret C hR dX4_put_20
set_option maxHeartbeats 4000000 in
set_option maxRecDepth 100000 in
theorem wb_X4_set_12 {l : Launch} {E : Ep} {X : Fx} {res : Int32 × Hp} (C : CX E X RX4 cX4_set 4 4) (h : Hp) (a0 : Nat) (oa0 : OKr a0 4) (hs : b_X4_set_12  h a0 = some res) (hR : RT E X (some .int) (some (.int res.1)) res.2) : GG l E X h 12 [(0, .ref (ad E a0))] [] := by
  refine g_aload_n C 0 dX4_set_12 rfl rfl ?_
  refine g_bipush C dX4_set_13 cc_b_m2 ?_
  obtain ⟨q1, hcq1, hs⟩ := bnd hs
  refine g_cV (As := [.int (-2 : Int32)]) (rest := []) C (w_X4_refuse l E _ _ _ _ oa0 hcq1) mw_X4_refuse lm_X4_46 oa0 rfl (ce4 E _ (oa0).2) rfl (by decide) rfl (Nat.le_of_ble_eq_true rfl) dX4_set_15 rfl ?_
  have e9 := Option.some.inj hs
  subst e9
  exact g_iret C hR dX4_set_18
set_option maxHeartbeats 4000000 in
set_option maxRecDepth 100000 in
theorem w_X4_set (l : Launch) (E : Ep) (h : Hp) (a0 : Nat) (x1 : Int32) (x2 : Int32) (res : Int32 × Hp) (oa0 : OKr a0 4) (hs : sh_X4_set h a0 x1 x2 = some res) : MG l E yX4_set cX4_set 4 (some .int) 4 [.ref (ad E a0), .int x1, .int x2] h (some (.int res.1)) res.2 := by
  refine MG.of (by decide) (Nat.le_of_ble_eq_true rfl) ?_
  intro X C hR
  have C : CX E X RX4 cX4_set 4 4 := C
  show GG l E X h 0 [(0, .ref (ad E a0)), (1, .int x1), (2, .int x2)] []
  refine g_iload_n C 1 dX4_set_0 rfl rfl ?_
  refine g_if_lt (tgt := 12) C dX4_set_1 (by decide) hs (fun hs => ?_) (fun hs => ?_)
  · refine g_sub [0] rfl ?_
    exact wb_X4_set_12 C h a0 oa0 hs hR
  · refine g_iload_n C 1 dX4_set_4 rfl rfl ?_
    refine g_gets138 C dX4_set_5 lf_X4_105 ?_
    refine g_slen138 C dX4_set_8 ?_
    refine g_icmp_lt (tgt := 19) C dX4_set_9 (by decide) hs (fun hs => ?_) (fun hs => ?_)
    · refine g_iload_n C 2 dX4_set_19 rfl rfl ?_
      refine g_gets138 C dX4_set_20 lf_X4_105 ?_
      refine g_iload_n C 1 dX4_set_23 rfl rfl ?_
      refine g_sald138 C dX4_set_24 hs (fun v1 hs => ?_)
      refine g_gets139 C dX4_set_25 lf_X4_108 ?_
      refine g_iload_n C 1 dX4_set_28 rfl rfl ?_
      refine g_sald139 C dX4_set_29 hs (fun v2 hs => ?_)
      obtain ⟨v3, hcv3, hs⟩ := bnd hs
      refine g_cS (As := [.int x2, .int v1, .int v2]) (rest := []) C (w_X4_outside l E _ _ _ _ _ hcv3) mw_X4_outside lm_X4_111 rfl (by decide) rfl (Nat.le_of_ble_eq_true rfl) dX4_set_30 rfl ?_
      refine g_istore_n (lv' := [(3, .int v3), (0, .ref (ad E a0)), (1, .int x1), (2, .int x2)]) C dX4_set_33 rfl (by decide) rfl ?_
      refine g_iload_n C 0 dX4_set_34 rfl rfl ?_
      refine g_if_eq (tgt := 44) C dX4_set_35 (by decide) hs (fun hs => ?_) (fun hs => ?_)
      · refine g_aload_n C 1 dX4_set_44 rfl rfl ?_
        refine gf4_0 C oa0 lf_X4_10 dX4_set_45 ?_
        refine g_iload_n C 2 dX4_set_48 rfl rfl ?_
        refine g_iload_n C 3 dX4_set_49 rfl rfl ?_
        obtain ⟨q4, hcq4, hs⟩ := bnd hs
        refine g_cVN (As := [.int x1, .int x2]) (rest := []) C (w_X3_changeSetting l E _ _ _ _ _ (tg4_0 oa0) hcq4) mw_X3_changeSetting lm_X4_114 (tg4_0 oa0) rfl (ce3 E _ ((tg4_0 oa0)).2) rfl (by decide) rfl (Nat.le_of_ble_eq_true rfl) dX4_set_50 rfl ?_
        have e9 := Option.some.inj hs
        subst e9
        exact g_iret C hR dX4_set_53
      · refine g_aload_n C 1 dX4_set_38 rfl rfl ?_
        refine g_iload_n C 0 dX4_set_39 rfl rfl ?_
        obtain ⟨q5, hcq5, hs⟩ := bnd hs
        refine g_cV (As := [.int v3]) (rest := []) C (w_X4_refuse l E _ _ _ _ oa0 hcq5) mw_X4_refuse lm_X4_46 oa0 rfl (ce4 E _ (oa0).2) rfl (by decide) rfl (Nat.le_of_ble_eq_true rfl) dX4_set_40 rfl ?_
        have e9 := Option.some.inj hs
        subst e9
        exact g_iret C hR dX4_set_43
    · refine g_sub [0] rfl ?_
      exact wb_X4_set_12 C h a0 oa0 hs hR
set_option maxHeartbeats 4000000 in
set_option maxRecDepth 100000 in
theorem wb_X3_giftRefusal_27 {l : Launch} {E : Ep} {X : Fx} {res : Int32} (C : CX E X RX3 cX3_giftRefusal 4 1) (h : Hp) (hs : b_X3_giftRefusal_27  h  = some res) (hR : RT E X (some .int) (some (.int res)) h) : GG l E X h 27 [] [] := by
  refine g_iconst C dX3_giftRefusal_27 cc_i_m1 ?_
  have e9 := Option.some.inj hs
  subst e9
  exact g_iret C hR dX3_giftRefusal_28
set_option maxHeartbeats 4000000 in
set_option maxRecDepth 100000 in
theorem wb_X3_giftRefusal_29 {l : Launch} {E : Ep} {X : Fx} {res : Int32} (C : CX E X RX3 cX3_giftRefusal 4 1) (h : Hp) (a0 : Nat) (x1 : Int32) (x3 : Int32) (oa0 : OKr a0 3) (hs : b_X3_giftRefusal_29  h a0 x1 x3 = some res) (hR : RT E X (some .int) (some (.int res)) h) : GG l E X h 29 [(0, .ref (ad E a0)), (1, .int x1), (3, .int x3)] [] := by
  refine g_iload_n C 2 dX3_giftRefusal_29 rfl rfl ?_
  refine g_iconst C dX3_giftRefusal_30 cc_i_1 ?_
  refine g_aload_n C 0 dX3_giftRefusal_31 rfl rfl ?_
  refine gf3_3 C oa0 lf_X3_21 dX3_giftRefusal_32 ?_
  refine g_iload_n C 1 dX3_giftRefusal_35 rfl rfl ?_
  refine g_iald C (tg3_3 oa0) dX3_giftRefusal_36 hs (fun v1 hs => ?_)
  obtain ⟨v2, hcv2, hs⟩ := bnd hs
  refine g_cSN (As := [.int x3, .int (1 : Int32), .int v1]) (rest := []) C (w_X4_outside l E _ _ _ _ _ hcv2) mw_X4_outside lm_X3_60 rfl (by decide) rfl (Nat.le_of_ble_eq_true rfl) dX3_giftRefusal_37 rfl ?_
  have e9 := Option.some.inj hs
  subst e9
  exact g_iret C hR dX3_giftRefusal_40
set_option maxHeartbeats 4000000 in
set_option maxRecDepth 100000 in
theorem w_X3_giftRefusal (l : Launch) (E : Ep) (h : Hp) (a0 : Nat) (x1 : Int32) (x2 : Int32) (x3 : Int32) (res : Int32) (oa0 : OKr a0 3) (hs : sh_X3_giftRefusal h a0 x1 x2 x3 = some res) : MG l E yX3_giftRefusal cX3_giftRefusal 4 (some .int) 1 [.ref (ad E a0), .int x1, .int x2, .int x3] h (some (.int res)) h := by
  refine MG.of (by decide) (Nat.le_of_ble_eq_true rfl) ?_
  intro X C hR
  have C : CX E X RX3 cX3_giftRefusal 4 1 := C
  show GG l E X h 0 [(0, .ref (ad E a0)), (1, .int x1), (2, .int x2), (3, .int x3)] []
  refine g_aload_n C 0 dX3_giftRefusal_0 rfl rfl ?_
  refine g_iload_n C 1 dX3_giftRefusal_1 rfl rfl ?_
  obtain ⟨v1, hcv1, hs⟩ := bnd hs
  refine g_cV (As := [.int x1]) (rest := []) C (w_X3_exists l E _ _ _ _ oa0 hcv1) mw_X3_exists lm_X3_118 oa0 rfl (ce3 E _ (oa0).2) rfl (by decide) rfl (Nat.le_of_ble_eq_true rfl) dX3_giftRefusal_2 rfl ?_
  refine g_if_eq (tgt := 27) C dX3_giftRefusal_5 (by decide) hs (fun hs => ?_) (fun hs => ?_)
  · refine g_sub [] rfl ?_
    exact wb_X3_giftRefusal_27 C h hs hR
  · refine g_iload_n C 2 dX3_giftRefusal_8 rfl rfl ?_
    refine g_iload_n C 1 dX3_giftRefusal_9 rfl rfl ?_
    refine g_icmp_eq (tgt := 27) C dX3_giftRefusal_10 (by decide) hs (fun hs => ?_) (fun hs => ?_)
    · refine g_sub [] rfl ?_
      exact wb_X3_giftRefusal_27 C h hs hR
    · refine g_iload_n C 2 dX3_giftRefusal_13 rfl rfl ?_
      refine g_bipush C dX3_giftRefusal_14 cc_b_9 ?_
      refine g_icmp_eq (tgt := 29) C dX3_giftRefusal_16 (by decide) hs (fun hs => ?_) (fun hs => ?_)
      · refine g_sub [0, 1, 3] rfl ?_
        exact wb_X3_giftRefusal_29 C h a0 x1 x3 oa0 hs hR
      · refine g_aload_n C 0 dX3_giftRefusal_19 rfl rfl ?_
        refine g_iload_n C 2 dX3_giftRefusal_20 rfl rfl ?_
        obtain ⟨v2, hcv2, hs⟩ := bnd hs
        refine g_cV (As := [.int x2]) (rest := []) C (w_X3_exists l E _ _ _ _ oa0 hcv2) mw_X3_exists lm_X3_118 oa0 rfl (ce3 E _ (oa0).2) rfl (by decide) rfl (Nat.le_of_ble_eq_true rfl) dX3_giftRefusal_21 rfl ?_
        refine g_if_ne (tgt := 29) C dX3_giftRefusal_24 (by decide) hs (fun hs => ?_) (fun hs => ?_)
        · refine g_sub [] rfl ?_
          exact wb_X3_giftRefusal_27 C h hs hR
        · refine g_sub [0, 1, 3] rfl ?_
          exact wb_X3_giftRefusal_29 C h a0 x1 x3 oa0 hs hR
set_option maxHeartbeats 4000000 in
set_option maxRecDepth 100000 in
theorem wb_X0_add_54 {l : Launch} {E : Ep} {X : Fx} {res : Hp} (C : CX E X RX0 cX0_add 5 0) (h : Hp) (hs : b_X0_add_54  h  = some res) (hR : RT E X none none res) : GG l E X h 54 [] [] := by
  have e9 := Option.some.inj hs
  subst e9
  exact g_vret C hR dX0_add_54
set_option maxHeartbeats 4000000 in
set_option maxRecDepth 100000 in
theorem wb_X0_add_12 {l : Launch} {E : Ep} {X : Fx} {res : Hp} (C : CX E X RX0 cX0_add 5 0) (h : Hp) (a0 : Nat) (x1 : Int32) (x2 : Int32) (x3 : Int32) (s0 : Int32) (oa0 : OKr a0 0) (hs : b_X0_add_12  h a0 x1 x2 x3 s0 = some res) (hR : RT E X none none res) : GG l E X h 12 [(0, .ref (ad E a0)), (1, .int x1), (2, .int x2), (3, .int x3)] [.int s0] := by
  refine g_istore (lv' := [(4, .int s0), (0, .ref (ad E a0)), (1, .int x1), (2, .int x2), (3, .int x3)]) C dX0_add_12 (by decide) rfl ?_
  refine g_aload_n C 1 dX0_add_14 rfl rfl ?_
  refine gf0_0 C oa0 lf_X0_11 dX0_add_15 ?_
  refine g_iload_n C 2 dX0_add_18 rfl rfl ?_
  refine g_bipush C dX0_add_19 cc_b_7 ?_
  refine g_imul C dX0_add_21 ?_
  refine g_iload C 0 dX0_add_22 rfl ?_
  refine g_iadd C dX0_add_24 ?_
  refine g_dup2 C dX0_add_25 rfl rfl ?_
  refine g_iald C (tg0_0 oa0) dX0_add_26 hs (fun v1 hs => ?_)
  refine g_iload_n C 4 dX0_add_27 rfl rfl ?_
  refine g_iadd C dX0_add_28 ?_
  refine g_iast C (tg0_0 oa0) dX0_add_29 hs (fun h2 hs => ?_)
  refine g_iload C 0 dX0_add_30 rfl ?_
  refine g_bipush C dX0_add_32 cc_b_6 ?_
  refine g_icmp_eq (tgt := 54) C dX0_add_34 (by decide) hs (fun hs => ?_) (fun hs => ?_)
  · refine g_sub [] rfl ?_
    exact wb_X0_add_54 C h2 hs hR
  · refine g_aload_n C 1 dX0_add_37 rfl rfl ?_
    refine gf0_2 C oa0 lf_X0_18 dX0_add_38 ?_
    refine g_iconst C dX0_add_41 cc_i_0 ?_
    refine g_dup2 C dX0_add_42 rfl rfl ?_
    refine g_lald C (tg0_2 oa0) dX0_add_43 hs (fun v3 hs => ?_)
    refine g_lconst (v := (1 : Int64)) C dX0_add_44 (by decide) ?_
    refine g_iload_n C 2 dX0_add_45 rfl rfl ?_
    refine g_bipush C dX0_add_46 cc_b_6 ?_
    refine g_imul C dX0_add_48 ?_
    refine g_iload_n C 3 dX0_add_49 rfl rfl ?_
    refine g_iadd C dX0_add_50 ?_
    refine g_lshl C dX0_add_51 ?_
    refine g_lor C dX0_add_52 ?_
    refine g_last C (tg0_2 oa0) dX0_add_53 hs (fun h4 hs => ?_)
    refine g_sub [] rfl ?_
    exact wb_X0_add_54 C h4 hs hR
set_option maxHeartbeats 4000000 in
set_option maxRecDepth 100000 in
theorem w_X0_add (l : Launch) (E : Ep) (h : Hp) (a0 : Nat) (x1 : Int32) (x2 : Int32) (x3 : Int32) (res : Hp) (oa0 : OKr a0 0) (hs : sh_X0_add h a0 x1 x2 x3 = some res) : MG l E yX0_add cX0_add 5 none 0 [.ref (ad E a0), .int x1, .int x2, .int x3] h none res := by
  refine MG.of (by decide) (Nat.le_of_ble_eq_true rfl) ?_
  intro X C hR
  have C : CX E X RX0 cX0_add 5 0 := C
  show GG l E X h 0 [(0, .ref (ad E a0)), (1, .int x1), (2, .int x2), (3, .int x3)] []
  refine g_iload_n C 2 dX0_add_0 rfl rfl ?_
  refine g_bipush C dX0_add_1 cc_b_9 ?_
  refine g_icmp_ne (tgt := 11) C dX0_add_3 (by decide) hs (fun hs => ?_) (fun hs => ?_)
  · refine g_bipush C dX0_add_6 cc_b_6 ?_
    refine g_goto (tgt := 12) C dX0_add_8 (by decide) ?_
    exact wb_X0_add_12 C h a0 x1 x2 x3 (6 : Int32) oa0 hs hR
  · refine g_iload_n C 2 dX0_add_11 rfl rfl ?_
    exact wb_X0_add_12 C h a0 x1 x2 x3 x2 oa0 hs hR
set_option maxHeartbeats 4000000 in
set_option maxRecDepth 100000 in
theorem w_X3_hand (l : Launch) (E : Ep) (h : Hp) (a0 : Nat) (x1 : Int32) (x2 : Int32) (x3 : Int32) (res : Hp) (oa0 : OKr a0 3) (hs : sh_X3_hand h a0 x1 x2 x3 = some res) : MG l E yX3_hand cX3_hand 4 none 1 [.ref (ad E a0), .int x1, .int x2, .int x3] h none res := by
  refine MG.of (by decide) (Nat.le_of_ble_eq_true rfl) ?_
  intro X C hR
  have C : CX E X RX3 cX3_hand 4 1 := C
  show GG l E X h 0 [(0, .ref (ad E a0)), (1, .int x1), (2, .int x2), (3, .int x3)] []
  refine g_aload_n C 0 dX3_hand_0 rfl rfl ?_
  refine gf3_3 C oa0 lf_X3_21 dX3_hand_1 ?_
  refine g_iload_n C 1 dX3_hand_4 rfl rfl ?_
  refine g_dup2 C dX3_hand_5 rfl rfl ?_
  refine g_iald C (tg3_3 oa0) dX3_hand_6 hs (fun v1 hs => ?_)
  refine g_iload_n C 3 dX3_hand_7 rfl rfl ?_
  refine g_isub C dX3_hand_8 ?_
  refine g_iast C (tg3_3 oa0) dX3_hand_9 hs (fun h2 hs => ?_)
  refine g_aload_n C 0 dX3_hand_10 rfl rfl ?_
  refine gf3_6 C oa0 lf_X3_33 dX3_hand_11 ?_
  refine g_iload_n C 1 dX3_hand_14 rfl rfl ?_
  refine g_iload_n C 2 dX3_hand_15 rfl rfl ?_
  refine g_iload_n C 3 dX3_hand_16 rfl rfl ?_
  obtain ⟨h3, hch3, hs⟩ := bnd hs
  refine g_cVN (As := [.int x1, .int x2, .int x3]) (rest := []) C (w_X0_add l E _ _ _ _ _ _ (tg3_6 oa0) hch3) mw_X0_add lm_X3_122 (tg3_6 oa0) rfl (ce0 E _ ((tg3_6 oa0)).2) rfl (by decide) rfl (Nat.le_of_ble_eq_true rfl) dX3_hand_17 rfl ?_
  have e9 := Option.some.inj hs
  subst e9
  exact g_vret C hR dX3_hand_20
set_option maxHeartbeats 4000000 in
set_option maxRecDepth 100000 in
theorem w_X4_give (l : Launch) (E : Ep) (h : Hp) (a0 : Nat) (x1 : Int32) (x2 : Int32) (x3 : Int32) (res : Int32 × Hp) (oa0 : OKr a0 4) (hs : sh_X4_give h a0 x1 x2 x3 = some res) : MG l E yX4_give cX4_give 5 (some .int) 2 [.ref (ad E a0), .int x1, .int x2, .int x3] h (some (.int res.1)) res.2 := by
  refine MG.of (by decide) (Nat.le_of_ble_eq_true rfl) ?_
  intro X C hR
  have C : CX E X RX4 cX4_give 5 2 := C
  show GG l E X h 0 [(0, .ref (ad E a0)), (1, .int x1), (2, .int x2), (3, .int x3)] []
  refine g_aload_n C 0 dX4_give_0 rfl rfl ?_
  refine gf4_0 C oa0 lf_X4_10 dX4_give_1 ?_
  refine g_iload_n C 1 dX4_give_4 rfl rfl ?_
  refine g_iload_n C 2 dX4_give_5 rfl rfl ?_
  refine g_iload_n C 3 dX4_give_6 rfl rfl ?_
  obtain ⟨v1, hcv1, hs⟩ := bnd hs
  refine g_cVN (As := [.int x1, .int x2, .int x3]) (rest := []) C (w_X3_giftRefusal l E _ _ _ _ _ _ (tg4_0 oa0) hcv1) mw_X3_giftRefusal lm_X4_118 (tg4_0 oa0) rfl (ce3 E _ ((tg4_0 oa0)).2) rfl (by decide) rfl (Nat.le_of_ble_eq_true rfl) dX4_give_7 rfl ?_
  refine g_istore (lv' := [(4, .int v1), (0, .ref (ad E a0)), (1, .int x1), (2, .int x2), (3, .int x3)]) C dX4_give_10 (by decide) rfl ?_
  refine g_iload C 0 dX4_give_12 rfl ?_
  refine g_if_eq (tgt := 24) C dX4_give_14 (by decide) hs (fun hs => ?_) (fun hs => ?_)
  · refine g_aload_n C 1 dX4_give_24 rfl rfl ?_
    refine gf4_0 C oa0 lf_X4_10 dX4_give_25 ?_
    refine g_iload_n C 2 dX4_give_28 rfl rfl ?_
    refine g_iload_n C 3 dX4_give_29 rfl rfl ?_
    refine g_iload_n C 4 dX4_give_30 rfl rfl ?_
    obtain ⟨h2, hch2, hs⟩ := bnd hs
    refine g_cVN (As := [.int x1, .int x2, .int x3]) (rest := []) C (w_X3_hand l E _ _ _ _ _ _ (tg4_0 oa0) hch2) mw_X3_hand lm_X4_121 (tg4_0 oa0) rfl (ce3 E _ ((tg4_0 oa0)).2) rfl (by decide) rfl (Nat.le_of_ble_eq_true rfl) dX4_give_31 rfl ?_
    refine g_aload_n C 1 dX4_give_34 rfl rfl ?_
    refine gf4_0 C oa0 lf_X4_10 dX4_give_35 ?_
    refine gf3_3N C (tg4_0 oa0) lf_X4_77 dX4_give_38 ?_
    refine g_iload_n C 2 dX4_give_41 rfl rfl ?_
    refine g_iald C (tg3_3 (tg4_0 oa0)) dX4_give_42 hs (fun v3 hs => ?_)
    have e9 := Option.some.inj hs
    subst e9
    exact g_iret C hR dX4_give_43
  · refine g_aload_n C 1 dX4_give_17 rfl rfl ?_
    refine g_iload C 0 dX4_give_18 rfl ?_
    obtain ⟨q4, hcq4, hs⟩ := bnd hs
    refine g_cV (As := [.int v1]) (rest := []) C (w_X4_refuse l E _ _ _ _ oa0 hcq4) mw_X4_refuse lm_X4_46 oa0 rfl (ce4 E _ (oa0).2) rfl (by decide) rfl (Nat.le_of_ble_eq_true rfl) dX4_give_20 rfl ?_
    have e9 := Option.some.inj hs
    subst e9
    exact g_iret C hR dX4_give_23
set_option maxHeartbeats 4000000 in
set_option maxRecDepth 100000 in
theorem wb_X0_turnToNextDay_66 {l : Launch} {E : Ep} {X : Fx} {res : Hp} (C : CX E X RX0 cX0_turnToNextDay 2 1) : ∀ (n : Nat) (h : Hp) (a0 : Nat) (x1 : Int32) (oa0 : OKr a0 0), b_X0_turnToNextDay_66  n h a0 x1 = some res → RT E X none none res → GG l E X h 66 [(0, .ref (ad E a0)), (1, .int x1)] [] := by
  intro n
  induction n with
  | zero =>
    intro h a0 x1 oa0
    intro hs
    exact absurd hs (by intro e; cases e)
  | succ n ih =>
    intro h a0 x1 oa0 hs hR
    have hk66 := ih
    have hs : f_X0_turnToNextDay_66  (b_X0_turnToNextDay_66  n) h a0 x1 = some res := hs
    generalize b_X0_turnToNextDay_66  n = k66 at hs hk66
    refine g_iload_n C 1 dX0_turnToNextDay_66 rfl rfl ?_
    refine g_bipush C dX0_turnToNextDay_67 cc_b_42 ?_
    refine g_icmp_ge (tgt := 85) C dX0_turnToNextDay_69 (by decide) hs (fun hs => ?_) (fun hs => ?_)
    · refine g_aload_n C 0 dX0_turnToNextDay_85 rfl rfl ?_
      refine gf0_2 C oa0 lf_X0_18 dX0_turnToNextDay_86 ?_
      refine g_iconst C dX0_turnToNextDay_89 cc_i_0 ?_
      refine g_lconst (v := (0 : Int64)) C dX0_turnToNextDay_90 (by decide) ?_
      refine g_last C (tg0_2 oa0) dX0_turnToNextDay_91 hs (fun h1 hs => ?_)
      have e9 := Option.some.inj hs
      subst e9
      exact g_vret C hR dX0_turnToNextDay_92
    · refine g_aload_n C 0 dX0_turnToNextDay_72 rfl rfl ?_
      refine gf0_0 C oa0 lf_X0_11 dX0_turnToNextDay_73 ?_
      refine g_iload_n C 1 dX0_turnToNextDay_76 rfl rfl ?_
      refine g_iconst C dX0_turnToNextDay_77 cc_i_0 ?_
      refine g_iast C (tg0_0 oa0) dX0_turnToNextDay_78 hs (fun h2 hs => ?_)
      refine g_iinc (lv' := [(1, .int (x1 + (1 : Int32))), (0, .ref (ad E a0))]) (j := 1) C dX0_turnToNextDay_79 rfl (cc_n_1 _) (by decide) rfl ?_
      refine g_goto (tgt := 66) C dX0_turnToNextDay_82 (by decide) ?_
      refine g_sub [1, 0] rfl ?_
      exact hk66 h2 a0 (x1 + (1 : Int32)) oa0 hs hR
set_option maxHeartbeats 4000000 in
set_option maxRecDepth 100000 in
theorem w_X0_turnToNextDay (l : Launch) (E : Ep) (h : Hp) (a0 : Nat) (res : Hp) (oa0 : OKr a0 0) (hs : sh_X0_turnToNextDay h a0 = some res) : MG l E yX0_turnToNextDay cX0_turnToNextDay 2 none 1 [.ref (ad E a0)] h none res := by
  refine MG.of (by decide) (Nat.le_of_ble_eq_true rfl) ?_
  intro X C hR
  have C : CX E X RX0 cX0_turnToNextDay 2 1 := C
  show GG l E X h 0 [(0, .ref (ad E a0))] []
  refine g_aload_n C 0 dX0_turnToNextDay_0 rfl rfl ?_
  refine gf0_0 C oa0 lf_X0_11 dX0_turnToNextDay_1 ?_
  refine g_iconst C dX0_turnToNextDay_4 cc_i_0 ?_
  refine g_aload_n C 0 dX0_turnToNextDay_5 rfl rfl ?_
  refine gf0_0 C oa0 lf_X0_11 dX0_turnToNextDay_6 ?_
  refine g_bipush C dX0_turnToNextDay_9 cc_b_42 ?_
  refine g_aload_n C 0 dX0_turnToNextDay_11 rfl rfl ?_
  refine gf0_0 C oa0 lf_X0_11 dX0_turnToNextDay_12 ?_
  refine g_alen C (tg0_0 oa0) dX0_turnToNextDay_15 ?_
  refine g_bipush C dX0_turnToNextDay_16 cc_b_42 ?_
  refine g_isub C dX0_turnToNextDay_18 ?_
  refine g_acI C (by decide) (tg0_0 oa0) (tg0_0 oa0) dX0_turnToNextDay_19 lm_X0_22 kw_ac_1 kw_ac_2 kw_ac_3 (Nat.le_of_ble_eq_true rfl) hs (fun h1 hs => ?_)
  refine g_aload_n C 0 dX0_turnToNextDay_22 rfl rfl ?_
  refine gf0_1 C oa0 lf_X0_15 dX0_turnToNextDay_23 ?_
  refine g_iconst C dX0_turnToNextDay_26 cc_i_0 ?_
  refine g_aload_n C 0 dX0_turnToNextDay_27 rfl rfl ?_
  refine gf0_1 C oa0 lf_X0_15 dX0_turnToNextDay_28 ?_
  refine g_bipush C dX0_turnToNextDay_31 cc_b_6 ?_
  refine g_aload_n C 0 dX0_turnToNextDay_33 rfl rfl ?_
  refine gf0_1 C oa0 lf_X0_15 dX0_turnToNextDay_34 ?_
  refine g_alen C (tg0_1 oa0) dX0_turnToNextDay_37 ?_
  refine g_bipush C dX0_turnToNextDay_38 cc_b_6 ?_
  refine g_isub C dX0_turnToNextDay_40 ?_
  refine g_acI C (by decide) (tg0_1 oa0) (tg0_1 oa0) dX0_turnToNextDay_41 lm_X0_22 kw_ac_1 kw_ac_2 kw_ac_3 (Nat.le_of_ble_eq_true rfl) hs (fun h2 hs => ?_)
  refine g_aload_n C 0 dX0_turnToNextDay_44 rfl rfl ?_
  refine gf0_2 C oa0 lf_X0_18 dX0_turnToNextDay_45 ?_
  refine g_iconst C dX0_turnToNextDay_48 cc_i_0 ?_
  refine g_aload_n C 0 dX0_turnToNextDay_49 rfl rfl ?_
  refine gf0_2 C oa0 lf_X0_18 dX0_turnToNextDay_50 ?_
  refine g_iconst C dX0_turnToNextDay_53 cc_i_1 ?_
  refine g_aload_n C 0 dX0_turnToNextDay_54 rfl rfl ?_
  refine gf0_2 C oa0 lf_X0_18 dX0_turnToNextDay_55 ?_
  refine g_alenJ C (tg0_2 oa0) dX0_turnToNextDay_58 ?_
  refine g_iconst C dX0_turnToNextDay_59 cc_i_1 ?_
  refine g_isub C dX0_turnToNextDay_60 ?_
  refine g_acJ C (by decide) (tg0_2 oa0) (tg0_2 oa0) dX0_turnToNextDay_61 lm_X0_22 kw_ac_1 kw_ac_2 kw_ac_3 (Nat.le_of_ble_eq_true rfl) hs (fun h3 hs => ?_)
  refine g_iconst C dX0_turnToNextDay_64 cc_i_0 ?_
  refine g_istore_n (lv' := [(1, .int (0 : Int32)), (0, .ref (ad E a0))]) C dX0_turnToNextDay_65 rfl (by decide) rfl ?_
  refine g_sub [1, 0] rfl ?_
  exact wb_X0_turnToNextDay_66 C 1000 h3 a0 (0 : Int32) oa0 hs hR
set_option maxHeartbeats 4000000 in
set_option maxRecDepth 100000 in
theorem wb_X3_endDay_4 {l : Launch} {E : Ep} {X : Fx} {res : Int32 × Hp} (C : CX E X RX3 cX3_endDay 5 3) : ∀ (n : Nat) (h : Hp) (a0 : Nat) (x1 : Int32) (x2 : Int32) (oa0 : OKr a0 3), b_X3_endDay_4  n h a0 x1 x2 = some res → RT E X (some .int) (some (.int res.1)) res.2 → GG l E X h 4 [(0, .ref (ad E a0)), (1, .int x1), (2, .int x2)] [] := by
  intro n
  induction n with
  | zero =>
    intro h a0 x1 x2 oa0
    intro hs
    exact absurd hs (by intro e; cases e)
  | succ n ih =>
    intro h a0 x1 x2 oa0 hs hR
    have hk4 := ih
    have hs : f_X3_endDay_4  (b_X3_endDay_4  n) h a0 x1 x2 = some res := hs
    generalize b_X3_endDay_4  n = k4 at hs hk4
    refine g_iload_n C 2 dX3_endDay_4 rfl rfl ?_
    refine g_aload_n C 0 dX3_endDay_5 rfl rfl ?_
    refine gf3_7 C oa0 lf_X3_47 dX3_endDay_6 ?_
    refine g_icmp_ge (tgt := 80) C dX3_endDay_9 (by decide) hs (fun hs => ?_) (fun hs => ?_)
    · refine g_aload_n C 0 dX3_endDay_80 rfl rfl ?_
      refine gf3_6 C oa0 lf_X3_33 dX3_endDay_81 ?_
      refine g_iconst C dX3_endDay_84 cc_i_0 ?_
      refine g_aload_n C 0 dX3_endDay_85 rfl rfl ?_
      refine gf3_5 C oa0 lf_X3_27 dX3_endDay_86 ?_
      refine g_iconst C dX3_endDay_89 cc_i_2 ?_
      refine g_iald C (tg3_5 oa0) dX3_endDay_90 hs (fun v1 hs => ?_)
      obtain ⟨h2, hch2, hs⟩ := bnd hs
      refine g_cVN (As := [.int (0 : Int32), .int v1]) (rest := []) C (w_X0_countDay l E _ _ _ _ _ (tg3_6 oa0) hch2) mw_X0_countDay lm_X3_142 (tg3_6 oa0) rfl (ce0 E _ ((tg3_6 oa0)).2) rfl (by decide) rfl (Nat.le_of_ble_eq_true rfl) dX3_endDay_91 rfl ?_
      refine g_aload_n C 0 dX3_endDay_94 rfl rfl ?_
      refine gf3_6 C oa0 lf_X3_33 dX3_endDay_95 ?_
      obtain ⟨h3, hch3, hs⟩ := bnd hs
      refine g_cVN (As := []) (rest := []) C (w_X0_turnToNextDay l E _ _ _ (tg3_6 oa0) hch3) mw_X0_turnToNextDay lm_X3_146 (tg3_6 oa0) rfl (ce0 E _ ((tg3_6 oa0)).2) rfl (by decide) rfl (Nat.le_of_ble_eq_true rfl) dX3_endDay_98 rfl ?_
      refine g_aload_n C 0 dX3_endDay_101 rfl rfl ?_
      refine g_dup C dX3_endDay_102 rfl ?_
      refine gf3_8 C oa0 lf_X3_51 dX3_endDay_103 ?_
      refine g_iconst C dX3_endDay_106 cc_i_1 ?_
      refine g_iadd C dX3_endDay_107 ?_
      refine pf3_8 C oa0 lf_X3_51 dX3_endDay_108 ?_
      refine g_iload_n C 1 dX3_endDay_111 rfl rfl ?_
      have e9 := Option.some.inj hs
      subst e9
      exact g_iret C hR dX3_endDay_112
    · refine g_aload_n C 0 dX3_endDay_12 rfl rfl ?_
      refine gf3_6 C oa0 lf_X3_33 dX3_endDay_13 ?_
      refine g_iload_n C 2 dX3_endDay_16 rfl rfl ?_
      obtain ⟨v4, hcv4, hs⟩ := bnd hs
      refine g_cVN (As := [.int x2]) (rest := []) C (w_X0_gotToday l E _ _ _ _ (tg3_6 oa0) hcv4) mw_X0_gotToday lm_X3_72 (tg3_6 oa0) rfl (ce0 E _ ((tg3_6 oa0)).2) rfl (by decide) rfl (Nat.le_of_ble_eq_true rfl) dX3_endDay_17 rfl ?_
      refine g_aload_n C 0 dX3_endDay_20 rfl rfl ?_
      refine gf3_4 C oa0 lf_X3_24 dX3_endDay_21 ?_
      refine g_iload_n C 2 dX3_endDay_24 rfl rfl ?_
      refine g_iald C (tg3_4 oa0) dX3_endDay_25 hs (fun v5 hs => ?_)
      refine g_iadd C dX3_endDay_26 ?_
      refine g_istore_n (lv' := [(3, .int (v4 + v5)), (0, .ref (ad E a0)), (1, .int x1), (2, .int x2)]) C dX3_endDay_27 rfl (by decide) rfl ?_
      refine g_aload_n C 1 dX3_endDay_28 rfl rfl ?_
      refine gf3_3 C oa0 lf_X3_21 dX3_endDay_29 ?_
      refine g_iload_n C 3 dX3_endDay_32 rfl rfl ?_
      refine g_iald C (tg3_3 oa0) dX3_endDay_33 hs (fun v6 hs => ?_)
      refine g_iload_n C 0 dX3_endDay_34 rfl rfl ?_
      refine g_aload_n C 1 dX3_endDay_35 rfl rfl ?_
      refine g_iload_n C 3 dX3_endDay_36 rfl rfl ?_
      obtain ⟨v7, hcv7, hs⟩ := bnd hs
      refine g_cV (As := [.int x2]) (rest := [.int (v4 + v5), .int v6]) C (w_X3_leave l E _ _ _ _ oa0 hcv7) mw_X3_leave lm_X3_139 oa0 rfl (ce3 E _ (oa0).2) rfl (by decide) rfl (Nat.le_of_ble_eq_true rfl) dX3_endDay_37 rfl ?_
      refine g_mmin C (by decide) dX3_endDay_40 lm_X3_91 kw_mmin_1 kw_math kw_mmin_2 (Nat.le_of_ble_eq_true rfl) ?_
      refine g_iadd C dX3_endDay_43 ?_
      refine g_sipush C dX3_endDay_44 cc_s_9999 ?_
      refine g_mmin C (by decide) dX3_endDay_47 lm_X3_91 kw_mmin_1 kw_math kw_mmin_2 (Nat.le_of_ble_eq_true rfl) ?_
      refine g_istore (lv' := [(4, .int (if (9999 : Int32) < (v6 + (if v7 < (v4 + v5) then v7 else (v4 + v5))) then (9999 : Int32) else (v6 + (if v7 < (v4 + v5) then v7 else (v4 + v5))))), (3, .int (v4 + v5)), (0, .ref (ad E a0)), (1, .int x1), (2, .int x2)]) C dX3_endDay_50 (by decide) rfl ?_
      refine g_iload_n C 3 dX3_endDay_52 rfl rfl ?_
      refine g_iload_n C 1 dX3_endDay_53 rfl rfl ?_
      refine g_iload C 0 dX3_endDay_54 rfl ?_
      refine g_aload_n C 2 dX3_endDay_56 rfl rfl ?_
      refine gf3_3 C oa0 lf_X3_21 dX3_endDay_57 ?_
      refine g_iload_n C 4 dX3_endDay_60 rfl rfl ?_
      refine g_iald C (tg3_3 oa0) dX3_endDay_61 hs (fun v8 hs => ?_)
      refine g_isub C dX3_endDay_62 ?_
      refine g_isub C dX3_endDay_63 ?_
      refine g_iadd C dX3_endDay_64 ?_
      refine g_istore_n (lv' := [(1, .int (x1 + ((v4 + v5) - ((if (9999 : Int32) < (v6 + (if v7 < (v4 + v5) then v7 else (v4 + v5))) then (9999 : Int32) else (v6 + (if v7 < (v4 + v5) then v7 else (v4 + v5)))) - v8)))), (4, .int (if (9999 : Int32) < (v6 + (if v7 < (v4 + v5) then v7 else (v4 + v5))) then (9999 : Int32) else (v6 + (if v7 < (v4 + v5) then v7 else (v4 + v5))))), (3, .int (v4 + v5)), (0, .ref (ad E a0)), (2, .int x2)]) C dX3_endDay_65 rfl (by decide) rfl ?_
      refine g_aload_n C 3 dX3_endDay_66 rfl rfl ?_
      refine gf3_3 C oa0 lf_X3_21 dX3_endDay_67 ?_
      refine g_iload_n C 4 dX3_endDay_70 rfl rfl ?_
      refine g_iload C 1 dX3_endDay_71 rfl ?_
      refine g_iast C (tg3_3 oa0) dX3_endDay_73 hs (fun h9 hs => ?_)
      refine g_iinc (lv' := [(2, .int (x2 + (1 : Int32))), (1, .int (x1 + ((v4 + v5) - ((if (9999 : Int32) < (v6 + (if v7 < (v4 + v5) then v7 else (v4 + v5))) then (9999 : Int32) else (v6 + (if v7 < (v4 + v5) then v7 else (v4 + v5)))) - v8)))), (4, .int (if (9999 : Int32) < (v6 + (if v7 < (v4 + v5) then v7 else (v4 + v5))) then (9999 : Int32) else (v6 + (if v7 < (v4 + v5) then v7 else (v4 + v5))))), (3, .int (v4 + v5)), (0, .ref (ad E a0))]) (j := 4) C dX3_endDay_74 rfl (cc_n_1 _) (by decide) rfl ?_
      refine g_goto (tgt := 4) C dX3_endDay_77 (by decide) ?_
      refine g_sub [4, 1, 0] rfl ?_
      exact hk4 h9 a0 (x1 + ((v4 + v5) - ((if (9999 : Int32) < (v6 + (if v7 < (v4 + v5) then v7 else (v4 + v5))) then (9999 : Int32) else (v6 + (if v7 < (v4 + v5) then v7 else (v4 + v5)))) - v8))) (x2 + (1 : Int32)) oa0 hs hR
set_option maxHeartbeats 4000000 in
set_option maxRecDepth 100000 in
theorem w_X3_endDay (l : Launch) (E : Ep) (h : Hp) (a0 : Nat) (res : Int32 × Hp) (oa0 : OKr a0 3) (hs : sh_X3_endDay h a0 = some res) : MG l E yX3_endDay cX3_endDay 5 (some .int) 3 [.ref (ad E a0)] h (some (.int res.1)) res.2 := by
  refine MG.of (by decide) (Nat.le_of_ble_eq_true rfl) ?_
  intro X C hR
  have C : CX E X RX3 cX3_endDay 5 3 := C
  show GG l E X h 0 [(0, .ref (ad E a0))] []
  refine g_iconst C dX3_endDay_0 cc_i_0 ?_
  refine g_istore_n (lv' := [(1, .int (0 : Int32)), (0, .ref (ad E a0))]) C dX3_endDay_1 rfl (by decide) rfl ?_
  refine g_iconst C dX3_endDay_2 cc_i_0 ?_
  refine g_istore_n (lv' := [(2, .int (0 : Int32)), (1, .int (0 : Int32)), (0, .ref (ad E a0))]) C dX3_endDay_3 rfl (by decide) rfl ?_
  refine g_sub [2, 1, 0] rfl ?_
  exact wb_X3_endDay_4 C 1000 h a0 (0 : Int32) (0 : Int32) oa0 hs hR
set_option maxHeartbeats 4000000 in
set_option maxRecDepth 100000 in
theorem w_X4_evening (l : Launch) (E : Ep) (h : Hp) (a0 : Nat) (res : Int32 × Hp) (oa0 : OKr a0 4) (hs : sh_X4_evening h a0 = some res) : MG l E yX4_evening cX4_evening 1 (some .int) 4 [.ref (ad E a0)] h (some (.int res.1)) res.2 := by
  refine MG.of (by decide) (Nat.le_of_ble_eq_true rfl) ?_
  intro X C hR
  have C : CX E X RX4 cX4_evening 1 4 := C
  show GG l E X h 0 [(0, .ref (ad E a0))] []
  refine g_aload_n C 0 dX4_evening_0 rfl rfl ?_
  refine gf4_0 C oa0 lf_X4_10 dX4_evening_1 ?_
  refine gf3_8N C (tg4_0 oa0) lf_X4_125 dX4_evening_4 ?_
  refine g_sipush C dX4_evening_7 cc_s_999 ?_
  refine g_icmp_lt (tgt := 20) C dX4_evening_10 (by decide) hs (fun hs => ?_) (fun hs => ?_)
  · refine g_aload_n C 0 dX4_evening_20 rfl rfl ?_
    refine gf4_0 C oa0 lf_X4_10 dX4_evening_21 ?_
    obtain ⟨q1, hcq1, hs⟩ := bnd hs
    refine g_cVN (As := []) (rest := []) C (w_X3_endDay l E _ _ _ (tg4_0 oa0) hcq1) mw_X3_endDay lm_X4_129 (tg4_0 oa0) rfl (ce3 E _ ((tg4_0 oa0)).2) rfl (by decide) rfl (Nat.le_of_ble_eq_true rfl) dX4_evening_24 rfl ?_
    refine g_pop C dX4_evening_27 rfl ?_
    refine g_aload_n C 0 dX4_evening_28 rfl rfl ?_
    refine gf4_0 C oa0 lf_X4_10 dX4_evening_29 ?_
    refine gf3_8N C (tg4_0 oa0) lf_X4_125 dX4_evening_32 ?_
    have e9 := Option.some.inj hs
    subst e9
    exact g_iret C hR dX4_evening_35
  · refine g_aload_n C 0 dX4_evening_13 rfl rfl ?_
    refine g_bipush C dX4_evening_14 cc_b_m6 ?_
    obtain ⟨q2, hcq2, hs⟩ := bnd hs
    refine g_cV (As := [.int (-6 : Int32)]) (rest := []) C (w_X4_refuse l E _ _ _ _ oa0 hcq2) mw_X4_refuse lm_X4_46 oa0 rfl (ce4 E _ (oa0).2) rfl (by decide) rfl (Nat.le_of_ble_eq_true rfl) dX4_evening_16 rfl ?_
    have e9 := Option.some.inj hs
    subst e9
    exact g_iret C hR dX4_evening_19
set_option maxHeartbeats 4000000 in
set_option maxRecDepth 100000 in
theorem wb_X3_nextOne_17 {l : Launch} {E : Ep} {X : Fx} {res : Int32} (C : CX E X RX3 cX3_nextOne 2 0) (h : Hp) (s0 : Int32) (hs : b_X3_nextOne_17  h s0 = some res) (hR : RT E X (some .int) (some (.int res)) h) : GG l E X h 17 [] [.int s0] := by
  have e9 := Option.some.inj hs
  subst e9
  exact g_iret C hR dX3_nextOne_17
set_option maxHeartbeats 4000000 in
set_option maxRecDepth 100000 in
theorem w_X3_nextOne (l : Launch) (E : Ep) (h : Hp) (a0 : Nat) (x1 : Int32) (res : Int32) (oa0 : OKr a0 3) (hs : sh_X3_nextOne h a0 x1 = some res) : MG l E yX3_nextOne cX3_nextOne 2 (some .int) 0 [.ref (ad E a0), .int x1] h (some (.int res)) h := by
  refine MG.of (by decide) (Nat.le_of_ble_eq_true rfl) ?_
  intro X C hR
  have C : CX E X RX3 cX3_nextOne 2 0 := C
  show GG l E X h 0 [(0, .ref (ad E a0)), (1, .int x1)] []
  refine g_iload_n C 1 dX3_nextOne_0 rfl rfl ?_
  refine g_iconst C dX3_nextOne_1 cc_i_1 ?_
  refine g_iadd C dX3_nextOne_2 ?_
  refine g_aload_n C 0 dX3_nextOne_3 rfl rfl ?_
  refine gf3_7 C oa0 lf_X3_47 dX3_nextOne_4 ?_
  refine g_icmp_ge (tgt := 16) C dX3_nextOne_7 (by decide) hs (fun hs => ?_) (fun hs => ?_)
  · refine g_iconst C dX3_nextOne_16 cc_i_0 ?_
    refine g_sub [] rfl ?_
    exact wb_X3_nextOne_17 C h (0 : Int32) hs hR
  · refine g_iload_n C 1 dX3_nextOne_10 rfl rfl ?_
    refine g_iconst C dX3_nextOne_11 cc_i_1 ?_
    refine g_iadd C dX3_nextOne_12 ?_
    refine g_goto (tgt := 17) C dX3_nextOne_13 (by decide) ?_
    refine g_sub [] rfl ?_
    exact wb_X3_nextOne_17 C h (x1 + (1 : Int32)) hs hR
set_option maxHeartbeats 4000000 in
set_option maxRecDepth 100000 in
theorem wb_X3_takerByKind_48 {l : Launch} {E : Ep} {X : Fx} {res : Int32} (C : CX E X RX3 cX3_takerByKind 2 1) (h : Hp) (s0 : Int32) (hs : b_X3_takerByKind_48  h s0 = some res) (hR : RT E X (some .int) (some (.int res)) h) : GG l E X h 48 [] [.int s0] := by
  have e9 := Option.some.inj hs
  subst e9
  exact g_iret C hR dX3_takerByKind_48
set_option maxHeartbeats 4000000 in
set_option maxRecDepth 100000 in
theorem wb_X3_takerByKind_42 {l : Launch} {E : Ep} {X : Fx} {res : Int32} (C : CX E X RX3 cX3_takerByKind 2 1) (h : Hp) (a0 : Nat) (x1 : Int32) (oa0 : OKr a0 3) (hs : b_X3_takerByKind_42  h a0 x1 = some res) (hR : RT E X (some .int) (some (.int res)) h) : GG l E X h 42 [(0, .ref (ad E a0)), (1, .int x1)] [] := by
  refine g_aload_n C 0 dX3_takerByKind_42 rfl rfl ?_
  refine gf3_2 C oa0 lf_X3_18 dX3_takerByKind_43 ?_
  refine g_iload_n C 1 dX3_takerByKind_46 rfl rfl ?_
  refine g_iald C (tg3_2 oa0) dX3_takerByKind_47 hs (fun v1 hs => ?_)
  refine g_sub [] rfl ?_
  exact wb_X3_takerByKind_48 C h v1 hs hR
set_option maxHeartbeats 4000000 in
set_option maxRecDepth 100000 in
theorem w_X3_takerByKind (l : Launch) (E : Ep) (h : Hp) (a0 : Nat) (x1 : Int32) (res : Int32) (oa0 : OKr a0 3) (hs : sh_X3_takerByKind h a0 x1 = some res) : MG l E yX3_takerByKind cX3_takerByKind 2 (some .int) 1 [.ref (ad E a0), .int x1] h (some (.int res)) h := by
  refine MG.of (by decide) (Nat.le_of_ble_eq_true rfl) ?_
  intro X C hR
  have C : CX E X RX3 cX3_takerByKind 2 1 := C
  show GG l E X h 0 [(0, .ref (ad E a0)), (1, .int x1)] []
  refine g_aload_n C 0 dX3_takerByKind_0 rfl rfl ?_
  refine gf3_0 C oa0 lf_X3_9 dX3_takerByKind_1 ?_
  refine g_iload_n C 1 dX3_takerByKind_4 rfl rfl ?_
  refine g_iald C (tg3_0 oa0) dX3_takerByKind_5 hs (fun v1 hs => ?_)
  refine g_iconst C dX3_takerByKind_6 cc_i_4 ?_
  refine g_icmp_ne (tgt := 16) C dX3_takerByKind_7 (by decide) hs (fun hs => ?_) (fun hs => ?_)
  · refine g_aload_n C 0 dX3_takerByKind_10 rfl rfl ?_
    refine g_iload_n C 1 dX3_takerByKind_11 rfl rfl ?_
    obtain ⟨v2, hcv2, hs⟩ := bnd hs
    refine g_cV (As := [.int x1]) (rest := []) C (w_X3_nextOne l E _ _ _ _ oa0 hcv2) mw_X3_nextOne lm_X3_109 oa0 rfl (ce3 E _ (oa0).2) rfl (by decide) rfl (Nat.le_of_ble_eq_true rfl) dX3_takerByKind_12 rfl ?_
    have e9 := Option.some.inj hs
    subst e9
    exact g_iret C hR dX3_takerByKind_15
  · refine g_aload_n C 0 dX3_takerByKind_16 rfl rfl ?_
    refine gf3_0 C oa0 lf_X3_9 dX3_takerByKind_17 ?_
    refine g_iload_n C 1 dX3_takerByKind_20 rfl rfl ?_
    refine g_iald C (tg3_0 oa0) dX3_takerByKind_21 hs (fun v3 hs => ?_)
    refine g_bipush C dX3_takerByKind_22 cc_b_6 ?_
    refine g_icmp_ne (tgt := 42) C dX3_takerByKind_24 (by decide) hs (fun hs => ?_) (fun hs => ?_)
    · refine g_aload_n C 0 dX3_takerByKind_27 rfl rfl ?_
      refine gf3_8 C oa0 lf_X3_51 dX3_takerByKind_28 ?_
      refine g_iconst C dX3_takerByKind_31 cc_i_2 ?_
      refine g_iremC C dX3_takerByKind_32 (by decide) ?_
      refine g_iconst C dX3_takerByKind_33 cc_i_1 ?_
      refine g_icmp_ne (tgt := 42) C dX3_takerByKind_34 (by decide) hs (fun hs => ?_) (fun hs => ?_)
      · refine g_bipush C dX3_takerByKind_37 cc_b_9 ?_
        refine g_goto (tgt := 48) C dX3_takerByKind_39 (by decide) ?_
        refine g_sub [] rfl ?_
        exact wb_X3_takerByKind_48 C h (9 : Int32) hs hR
      · exact wb_X3_takerByKind_42 C h a0 x1 oa0 hs hR
    · exact wb_X3_takerByKind_42 C h a0 x1 oa0 hs hR
set_option maxHeartbeats 4000000 in
set_option maxRecDepth 100000 in
theorem w_X0_gotYesterday (l : Launch) (E : Ep) (h : Hp) (a0 : Nat) (x1 : Int32) (res : Int32) (oa0 : OKr a0 0) (hs : sh_X0_gotYesterday h a0 x1 = some res) : MG l E yX0_gotYesterday cX0_gotYesterday 2 (some .int) 1 [.ref (ad E a0), .int x1] h (some (.int res)) h := by
  refine MG.of (by decide) (Nat.le_of_ble_eq_true rfl) ?_
  intro X C hR
  have C : CX E X RX0 cX0_gotYesterday 2 1 := C
  show GG l E X h 0 [(0, .ref (ad E a0)), (1, .int x1)] []
  refine g_aload_n C 0 dX0_gotYesterday_0 rfl rfl ?_
  refine g_iconst C dX0_gotYesterday_1 cc_i_1 ?_
  refine g_iload_n C 1 dX0_gotYesterday_2 rfl rfl ?_
  obtain ⟨v1, hcv1, hs⟩ := bnd hs
  refine g_cV (As := [.int (1 : Int32), .int x1]) (rest := []) C (w_X0_got l E _ _ _ _ _ oa0 hcv1) mw_X0_got lm_X0_28 oa0 rfl (ce0 E _ (oa0).2) rfl (by decide) rfl (Nat.le_of_ble_eq_true rfl) dX0_gotYesterday_3 rfl ?_
  have e9 := Option.some.inj hs
  subst e9
  exact g_iret C hR dX0_gotYesterday_6
set_option maxHeartbeats 4000000 in
set_option maxRecDepth 100000 in
theorem w_X3_whatGrew (l : Launch) (E : Ep) (h : Hp) (a0 : Nat) (x1 : Int32) (res : Int32) (oa0 : OKr a0 3) (hs : sh_X3_whatGrew h a0 x1 = some res) : MG l E yX3_whatGrew cX3_whatGrew 2 (some .int) 2 [.ref (ad E a0), .int x1] h (some (.int res)) h := by
  refine MG.of (by decide) (Nat.le_of_ble_eq_true rfl) ?_
  intro X C hR
  have C : CX E X RX3 cX3_whatGrew 2 2 := C
  show GG l E X h 0 [(0, .ref (ad E a0)), (1, .int x1)] []
  refine g_aload_n C 0 dX3_whatGrew_0 rfl rfl ?_
  refine gf3_3 C oa0 lf_X3_21 dX3_whatGrew_1 ?_
  refine g_iload_n C 1 dX3_whatGrew_4 rfl rfl ?_
  refine g_iald C (tg3_3 oa0) dX3_whatGrew_5 hs (fun v1 hs => ?_)
  refine g_aload_n C 0 dX3_whatGrew_6 rfl rfl ?_
  refine gf3_4 C oa0 lf_X3_24 dX3_whatGrew_7 ?_
  refine g_iload_n C 1 dX3_whatGrew_10 rfl rfl ?_
  refine g_iald C (tg3_4 oa0) dX3_whatGrew_11 hs (fun v2 hs => ?_)
  refine g_aload_n C 0 dX3_whatGrew_12 rfl rfl ?_
  refine gf3_6 C oa0 lf_X3_33 dX3_whatGrew_13 ?_
  refine g_iload_n C 1 dX3_whatGrew_16 rfl rfl ?_
  obtain ⟨v3, hcv3, hs⟩ := bnd hs
  refine g_cVN (As := [.int x1]) (rest := [.int v2, .int v1]) C (w_X0_gotYesterday l E _ _ _ _ (tg3_6 oa0) hcv3) mw_X0_gotYesterday lm_X3_106 (tg3_6 oa0) rfl (ce0 E _ ((tg3_6 oa0)).2) rfl (by decide) rfl (Nat.le_of_ble_eq_true rfl) dX3_whatGrew_17 rfl ?_
  refine g_iadd C dX3_whatGrew_20 ?_
  refine g_mmin C (by decide) dX3_whatGrew_21 lm_X3_91 kw_mmin_1 kw_math kw_mmin_2 (Nat.le_of_ble_eq_true rfl) ?_
  have e9 := Option.some.inj hs
  subst e9
  exact g_iret C hR dX3_whatGrew_24
set_option maxHeartbeats 4000000 in
set_option maxRecDepth 100000 in
theorem wb_X3_divides_15 {l : Launch} {E : Ep} {X : Fx} {res : Int32} (C : CX E X RX3 cX3_divides 2 0) (h : Hp) (s0 : Int32) (hs : b_X3_divides_15  h s0 = some res) (hR : RT E X (some .boolean) (some (.int res)) h) : GG l E X h 15 [] [.int s0] := by
  obtain ⟨v1, hbv1, hs⟩ := bnd hs
  obtain ⟨hzv1, hyv1⟩ := bol_v hbv1
  have e9 := Option.some.inj hs
  subst e9
  refine g_top hyv1 ?_
  exact g_zret C hzv1 hR dX3_divides_15
set_option maxHeartbeats 4000000 in
set_option maxRecDepth 100000 in
theorem wb_X3_divides_14 {l : Launch} {E : Ep} {X : Fx} {res : Int32} (C : CX E X RX3 cX3_divides 2 0) (h : Hp) (hs : b_X3_divides_14  h  = some res) (hR : RT E X (some .boolean) (some (.int res)) h) : GG l E X h 14 [] [] := by
  refine g_iconst C dX3_divides_14 cc_i_0 ?_
  exact wb_X3_divides_15 C h (0 : Int32) hs hR
set_option maxHeartbeats 4000000 in
set_option maxRecDepth 100000 in
theorem w_X3_divides (l : Launch) (E : Ep) (h : Hp) (x0 : Int32) (x1 : Int32) (res : Int32) (hs : sh_X3_divides h x0 x1 = some res) : MG l E yX3_divides cX3_divides 2 (some .boolean) 0 [.int x0, .int x1] h (some (.int res)) h := by
  refine MG.of (by decide) (Nat.le_of_ble_eq_true rfl) ?_
  intro X C hR
  have C : CX E X RX3 cX3_divides 2 0 := C
  show GG l E X h 0 [(0, .int x0), (1, .int x1)] []
  refine g_iload_n C 0 dX3_divides_0 rfl rfl ?_
  refine g_if_le (tgt := 14) C dX3_divides_1 (by decide) hs (fun hs => ?_) (fun hs => ?_)
  · refine g_sub [] rfl ?_
    exact wb_X3_divides_14 C h hs hR
  · refine g_iload_n C 1 dX3_divides_4 rfl rfl ?_
    refine g_iload_n C 0 dX3_divides_5 rfl rfl ?_
    refine g_irem C dX3_divides_6 hs (fun v1 hs => ?_)
    refine g_if_ne (tgt := 14) C dX3_divides_7 (by decide) hs (fun hs => ?_) (fun hs => ?_)
    · refine g_iconst C dX3_divides_10 cc_i_1 ?_
      refine g_goto (tgt := 15) C dX3_divides_11 (by decide) ?_
      refine g_sub [] rfl ?_
      exact wb_X3_divides_15 C h (1 : Int32) hs hR
    · refine g_sub [] rfl ?_
      exact wb_X3_divides_14 C h hs hR
set_option maxHeartbeats 4000000 in
set_option maxRecDepth 100000 in
theorem wb_X3_amountByKind_52 {l : Launch} {E : Ep} {X : Fx} {res : Int32} (C : CX E X RX3 cX3_amountByKind 2 3) (h : Hp) (a0 : Nat) (x1 : Int32) (oa0 : OKr a0 3) (hs : b_X3_amountByKind_52  h a0 x1 = some res) (hR : RT E X (some .int) (some (.int res)) h) : GG l E X h 52 [(0, .ref (ad E a0)), (1, .int x1)] [] := by
  refine g_aload_n C 0 dX3_amountByKind_52 rfl rfl ?_
  refine gf3_3 C oa0 lf_X3_21 dX3_amountByKind_53 ?_
  refine g_iload_n C 1 dX3_amountByKind_56 rfl rfl ?_
  refine g_iald C (tg3_3 oa0) dX3_amountByKind_57 hs (fun v1 hs => ?_)
  have e9 := Option.some.inj hs
  subst e9
  exact g_iret C hR dX3_amountByKind_58
set_option maxHeartbeats 4000000 in
set_option maxRecDepth 100000 in
theorem wb_X3_amountByKind_99 {l : Launch} {E : Ep} {X : Fx} {res : Int32} (C : CX E X RX3 cX3_amountByKind 2 3) (h : Hp) (s0 : Int32) (hs : b_X3_amountByKind_99  h s0 = some res) (hR : RT E X (some .int) (some (.int res)) h) : GG l E X h 99 [] [.int s0] := by
  have e9 := Option.some.inj hs
  subst e9
  exact g_iret C hR dX3_amountByKind_99
set_option maxHeartbeats 4000000 in
set_option maxRecDepth 100000 in
theorem wb_X3_amountByKind_130 {l : Launch} {E : Ep} {X : Fx} {res : Int32} (C : CX E X RX3 cX3_amountByKind 2 3) (h : Hp) (s0 : Int32) (hs : b_X3_amountByKind_130  h s0 = some res) (hR : RT E X (some .int) (some (.int res)) h) : GG l E X h 130 [] [.int s0] := by
  have e9 := Option.some.inj hs
  subst e9
  exact g_iret C hR dX3_amountByKind_130
set_option maxHeartbeats 4000000 in
set_option maxRecDepth 100000 in
theorem wb_X3_amountByKind_131 {l : Launch} {E : Ep} {X : Fx} {res : Int32} (C : CX E X RX3 cX3_amountByKind 2 3) (h : Hp) (hs : b_X3_amountByKind_131  h  = some res) (hR : RT E X (some .int) (some (.int res)) h) : GG l E X h 131 [] [] := by
  refine g_iconst C dX3_amountByKind_131 cc_i_0 ?_
  have e9 := Option.some.inj hs
  subst e9
  exact g_iret C hR dX3_amountByKind_132
set_option maxHeartbeats 4000000 in
set_option maxRecDepth 100000 in
theorem w_X3_amountByKind (l : Launch) (E : Ep) (h : Hp) (a0 : Nat) (x1 : Int32) (res : Int32) (oa0 : OKr a0 3) (hs : sh_X3_amountByKind h a0 x1 = some res) : MG l E yX3_amountByKind cX3_amountByKind 2 (some .int) 3 [.ref (ad E a0), .int x1] h (some (.int res)) h := by
  refine MG.of (by decide) (Nat.le_of_ble_eq_true rfl) ?_
  intro X C hR
  have C : CX E X RX3 cX3_amountByKind 2 3 := C
  show GG l E X h 0 [(0, .ref (ad E a0)), (1, .int x1)] []
  refine g_aload_n C 0 dX3_amountByKind_0 rfl rfl ?_
  refine gf3_0 C oa0 lf_X3_9 dX3_amountByKind_1 ?_
  refine g_iload_n C 1 dX3_amountByKind_4 rfl rfl ?_
  refine g_iald C (tg3_0 oa0) dX3_amountByKind_5 hs (fun v1 hs => ?_)
  refine g_case hs (fun hx6_0 hs => ?_) (fun hx6_0 hs => ?_)
  · refine g_tabIn (v := (0 : Int32)) (tgt := 131) C dX3_amountByKind_6 hx6_0 (by decide) (by decide) rfl (by decide) ?_
    refine g_sub [] rfl ?_
    exact wb_X3_amountByKind_131 C h hs hR
  refine g_case hs (fun hx6_1 hs => ?_) (fun hx6_1 hs => ?_)
  · refine g_tabIn (v := (1 : Int32)) (tgt := 52) C dX3_amountByKind_6 hx6_1 (by decide) (by decide) rfl (by decide) ?_
    exact wb_X3_amountByKind_52 C h a0 x1 oa0 hs hR
  refine g_case hs (fun hx6_2 hs => ?_) (fun hx6_2 hs => ?_)
  · refine g_tabIn (v := (2 : Int32)) (tgt := 59) C dX3_amountByKind_6 hx6_2 (by decide) (by decide) rfl (by decide) ?_
    refine g_aload_n C 0 dX3_amountByKind_59 rfl rfl ?_
    refine gf3_3 C oa0 lf_X3_21 dX3_amountByKind_60 ?_
    refine g_iload_n C 1 dX3_amountByKind_63 rfl rfl ?_
    refine g_iald C (tg3_3 oa0) dX3_amountByKind_64 hs (fun v2 hs => ?_)
    refine g_iconst C dX3_amountByKind_65 cc_i_2 ?_
    refine g_idivC C dX3_amountByKind_66 (by decide) ?_
    have e9 := Option.some.inj hs
    subst e9
    exact g_iret C hR dX3_amountByKind_67
  refine g_case hs (fun hx6_3 hs => ?_) (fun hx6_3 hs => ?_)
  · refine g_tabIn (v := (3 : Int32)) (tgt := 68) C dX3_amountByKind_6 hx6_3 (by decide) (by decide) rfl (by decide) ?_
    refine g_aload_n C 0 dX3_amountByKind_68 rfl rfl ?_
    refine g_iload_n C 1 dX3_amountByKind_69 rfl rfl ?_
    obtain ⟨v3, hcv3, hs⟩ := bnd hs
    refine g_cV (As := [.int x1]) (rest := []) C (w_X3_whatGrew l E _ _ _ _ oa0 hcv3) mw_X3_whatGrew lm_X3_99 oa0 rfl (ce3 E _ (oa0).2) rfl (by decide) rfl (Nat.le_of_ble_eq_true rfl) dX3_amountByKind_70 rfl ?_
    have e9 := Option.some.inj hs
    subst e9
    exact g_iret C hR dX3_amountByKind_73
  refine g_case hs (fun hx6_4 hs => ?_) (fun hx6_4 hs => ?_)
  · refine g_tabIn (v := (4 : Int32)) (tgt := 52) C dX3_amountByKind_6 hx6_4 (by decide) (by decide) rfl (by decide) ?_
    exact wb_X3_amountByKind_52 C h a0 x1 oa0 hs hR
  refine g_case hs (fun hx6_5 hs => ?_) (fun hx6_5 hs => ?_)
  · refine g_tabIn (v := (5 : Int32)) (tgt := 74) C dX3_amountByKind_6 hx6_5 (by decide) (by decide) rfl (by decide) ?_
    refine g_aload_n C 0 dX3_amountByKind_74 rfl rfl ?_
    refine gf3_8 C oa0 lf_X3_51 dX3_amountByKind_75 ?_
    refine g_bipush C dX3_amountByKind_78 cc_b_10 ?_
    refine g_aload_n C 0 dX3_amountByKind_80 rfl rfl ?_
    refine gf3_1 C oa0 lf_X3_15 dX3_amountByKind_81 ?_
    refine g_iload_n C 1 dX3_amountByKind_84 rfl rfl ?_
    refine g_iald C (tg3_1 oa0) dX3_amountByKind_85 hs (fun v4 hs => ?_)
    refine g_imul C dX3_amountByKind_86 ?_
    refine g_icmp_ge (tgt := 98) C dX3_amountByKind_87 (by decide) hs (fun hs => ?_) (fun hs => ?_)
    · refine g_iconst C dX3_amountByKind_98 cc_i_0 ?_
      refine g_sub [] rfl ?_
      exact wb_X3_amountByKind_99 C h (0 : Int32) hs hR
    · refine g_aload_n C 0 dX3_amountByKind_90 rfl rfl ?_
      refine g_iload_n C 1 dX3_amountByKind_91 rfl rfl ?_
      obtain ⟨v5, hcv5, hs⟩ := bnd hs
      refine g_cV (As := [.int x1]) (rest := []) C (w_X3_whatGrew l E _ _ _ _ oa0 hcv5) mw_X3_whatGrew lm_X3_99 oa0 rfl (ce3 E _ (oa0).2) rfl (by decide) rfl (Nat.le_of_ble_eq_true rfl) dX3_amountByKind_92 rfl ?_
      refine g_goto (tgt := 99) C dX3_amountByKind_95 (by decide) ?_
      refine g_sub [] rfl ?_
      exact wb_X3_amountByKind_99 C h v5 hs hR
  refine g_case hs (fun hx6_6 hs => ?_) (fun hx6_6 hs => ?_)
  · refine g_tabIn (v := (6 : Int32)) (tgt := 52) C dX3_amountByKind_6 hx6_6 (by decide) (by decide) rfl (by decide) ?_
    exact wb_X3_amountByKind_52 C h a0 x1 oa0 hs hR
  refine g_case hs (fun hx6_7 hs => ?_) (fun hx6_7 hs => ?_)
  · refine g_tabIn (v := (7 : Int32)) (tgt := 100) C dX3_amountByKind_6 hx6_7 (by decide) (by decide) rfl (by decide) ?_
    refine g_aload_n C 0 dX3_amountByKind_100 rfl rfl ?_
    refine gf3_1 C oa0 lf_X3_15 dX3_amountByKind_101 ?_
    refine g_iload_n C 1 dX3_amountByKind_104 rfl rfl ?_
    refine g_iald C (tg3_1 oa0) dX3_amountByKind_105 hs (fun v6 hs => ?_)
    refine g_iconst C dX3_amountByKind_106 cc_i_1 ?_
    refine g_iadd C dX3_amountByKind_107 ?_
    refine g_aload_n C 0 dX3_amountByKind_108 rfl rfl ?_
    refine gf3_8 C oa0 lf_X3_51 dX3_amountByKind_109 ?_
    obtain ⟨v7, hcv7, hs⟩ := bnd hs
    refine g_cS (As := [.int (v6 + (1 : Int32)), .int (h.1 a0 8)]) (rest := []) C (w_X3_divides l E _ _ _ _ hcv7) mw_X3_divides lm_X3_102 rfl (by decide) rfl (Nat.le_of_ble_eq_true rfl) dX3_amountByKind_112 rfl ?_
    refine g_if_eq (tgt := 129) C dX3_amountByKind_115 (by decide) hs (fun hs => ?_) (fun hs => ?_)
    · refine g_iconst C dX3_amountByKind_129 cc_i_0 ?_
      refine g_sub [] rfl ?_
      exact wb_X3_amountByKind_130 C h (0 : Int32) hs hR
    · refine g_aload_n C 0 dX3_amountByKind_118 rfl rfl ?_
      refine gf3_3 C oa0 lf_X3_21 dX3_amountByKind_119 ?_
      refine g_iload_n C 1 dX3_amountByKind_122 rfl rfl ?_
      refine g_iald C (tg3_3 oa0) dX3_amountByKind_123 hs (fun v8 hs => ?_)
      refine g_iconst C dX3_amountByKind_124 cc_i_2 ?_
      refine g_idivC C dX3_amountByKind_125 (by decide) ?_
      refine g_goto (tgt := 130) C dX3_amountByKind_126 (by decide) ?_
      refine g_sub [] rfl ?_
      exact wb_X3_amountByKind_130 C h (v8 / (2 : Int32)) hs hR
  refine g_tabOut (tgt := 131) C dX3_amountByKind_6 (by have z0 := ne_tz (z := 0) (by decide) hx6_0; have z1 := ne_tz (z := 1) (by decide) hx6_1; have z2 := ne_tz (z := 2) (by decide) hx6_2; have z3 := ne_tz (z := 3) (by decide) hx6_3; have z4 := ne_tz (z := 4) (by decide) hx6_4; have z5 := ne_tz (z := 5) (by decide) hx6_5; have z6 := ne_tz (z := 6) (by decide) hx6_6; have z7 := ne_tz (z := 7) (by decide) hx6_7; omega) (by decide) ?_
  refine g_sub [] rfl ?_
  exact wb_X3_amountByKind_131 C h hs hR
set_option maxHeartbeats 4000000 in
set_option maxRecDepth 100000 in
theorem wb_X3_handIfAny_16 {l : Launch} {E : Ep} {X : Fx} {res : Hp} (C : CX E X RX3 cX3_handIfAny 4 2) (h : Hp) (hs : b_X3_handIfAny_16  h  = some res) (hR : RT E X none none res) : GG l E X h 16 [] [] := by
  have e9 := Option.some.inj hs
  subst e9
  exact g_vret C hR dX3_handIfAny_16
set_option maxHeartbeats 4000000 in
set_option maxRecDepth 100000 in
theorem w_X3_handIfAny (l : Launch) (E : Ep) (h : Hp) (a0 : Nat) (x1 : Int32) (x2 : Int32) (x3 : Int32) (res : Hp) (oa0 : OKr a0 3) (hs : sh_X3_handIfAny h a0 x1 x2 x3 = some res) : MG l E yX3_handIfAny cX3_handIfAny 4 none 2 [.ref (ad E a0), .int x1, .int x2, .int x3] h none res := by
  refine MG.of (by decide) (Nat.le_of_ble_eq_true rfl) ?_
  intro X C hR
  have C : CX E X RX3 cX3_handIfAny 4 2 := C
  show GG l E X h 0 [(0, .ref (ad E a0)), (1, .int x1), (2, .int x2), (3, .int x3)] []
  refine g_iload_n C 2 dX3_handIfAny_0 rfl rfl ?_
  refine g_iload_n C 1 dX3_handIfAny_1 rfl rfl ?_
  refine g_icmp_eq (tgt := 16) C dX3_handIfAny_2 (by decide) hs (fun hs => ?_) (fun hs => ?_)
  · refine g_sub [] rfl ?_
    exact wb_X3_handIfAny_16 C h hs hR
  · refine g_iload_n C 3 dX3_handIfAny_5 rfl rfl ?_
    refine g_if_le (tgt := 16) C dX3_handIfAny_6 (by decide) hs (fun hs => ?_) (fun hs => ?_)
    · refine g_sub [] rfl ?_
      exact wb_X3_handIfAny_16 C h hs hR
    · refine g_aload_n C 0 dX3_handIfAny_9 rfl rfl ?_
      refine g_iload_n C 1 dX3_handIfAny_10 rfl rfl ?_
      refine g_iload_n C 2 dX3_handIfAny_11 rfl rfl ?_
      refine g_iload_n C 3 dX3_handIfAny_12 rfl rfl ?_
      obtain ⟨h1, hch1, hs⟩ := bnd hs
      refine g_cV (As := [.int x1, .int x2, .int x3]) (rest := []) C (w_X3_hand l E _ _ _ _ _ _ oa0 hch1) mw_X3_hand lm_X3_126 oa0 rfl (ce3 E _ (oa0).2) rfl (by decide) rfl (Nat.le_of_ble_eq_true rfl) dX3_handIfAny_13 rfl ?_
      refine g_sub [] rfl ?_
      exact wb_X3_handIfAny_16 C h1 hs hR
set_option maxHeartbeats 4000000 in
set_option maxRecDepth 100000 in
theorem wb_X3_passDay_2 {l : Launch} {E : Ep} {X : Fx} {res : Int32 × Hp} (C : CX E X RX3 cX3_passDay 2 4) : ∀ (n : Nat) (h : Hp) (a0 : Nat) (x1 : Int32) (oa0 : OKr a0 3), b_X3_passDay_2  n h a0 x1 = some res → RT E X (some .int) (some (.int res.1)) res.2 → GG l E X h 2 [(0, .ref (ad E a0)), (1, .int x1)] [] := by
  intro n
  induction n with
  | zero =>
    intro h a0 x1 oa0
    intro hs
    exact absurd hs (by intro e; cases e)
  | succ n ih =>
    intro h a0 x1 oa0 hs hR
    have hk2 := ih
    have hs : f_X3_passDay_2  (b_X3_passDay_2  n) h a0 x1 = some res := hs
    generalize b_X3_passDay_2  n = k2 at hs hk2
    refine g_iload_n C 1 dX3_passDay_2 rfl rfl ?_
    refine g_aload_n C 0 dX3_passDay_3 rfl rfl ?_
    refine gf3_7 C oa0 lf_X3_47 dX3_passDay_4 ?_
    refine g_icmp_ge (tgt := 31) C dX3_passDay_7 (by decide) hs (fun hs => ?_) (fun hs => ?_)
    · refine g_aload_n C 0 dX3_passDay_31 rfl rfl ?_
      obtain ⟨q1, hcq1, hs⟩ := bnd hs
      refine g_cV (As := []) (rest := []) C (w_X3_endDay l E _ _ _ oa0 hcq1) mw_X3_endDay lm_X3_136 oa0 rfl (ce3 E _ (oa0).2) rfl (by decide) rfl (Nat.le_of_ble_eq_true rfl) dX3_passDay_32 rfl ?_
      have e9 := Option.some.inj hs
      subst e9
      exact g_iret C hR dX3_passDay_35
    · refine g_aload_n C 0 dX3_passDay_10 rfl rfl ?_
      refine g_iload_n C 1 dX3_passDay_11 rfl rfl ?_
      refine g_aload_n C 0 dX3_passDay_12 rfl rfl ?_
      refine g_iload_n C 1 dX3_passDay_13 rfl rfl ?_
      obtain ⟨v2, hcv2, hs⟩ := bnd hs
      refine g_cV (As := [.int x1]) (rest := [.int x1, .ref (ad E a0)]) C (w_X3_takerByKind l E _ _ _ _ oa0 hcv2) mw_X3_takerByKind lm_X3_112 oa0 rfl (ce3 E _ (oa0).2) rfl (by decide) rfl (Nat.le_of_ble_eq_true rfl) dX3_passDay_14 rfl ?_
      refine g_aload_n C 0 dX3_passDay_17 rfl rfl ?_
      refine g_iload_n C 1 dX3_passDay_18 rfl rfl ?_
      obtain ⟨v3, hcv3, hs⟩ := bnd hs
      refine g_cV (As := [.int x1]) (rest := [.int v2, .int x1, .ref (ad E a0)]) C (w_X3_amountByKind l E _ _ _ _ oa0 hcv3) mw_X3_amountByKind lm_X3_115 oa0 rfl (ce3 E _ (oa0).2) rfl (by decide) rfl (Nat.le_of_ble_eq_true rfl) dX3_passDay_19 rfl ?_
      obtain ⟨h4, hch4, hs⟩ := bnd hs
      refine g_cV (As := [.int x1, .int v2, .int v3]) (rest := []) C (w_X3_handIfAny l E _ _ _ _ _ _ oa0 hch4) mw_X3_handIfAny lm_X3_133 oa0 rfl (ce3 E _ (oa0).2) rfl (by decide) rfl (Nat.le_of_ble_eq_true rfl) dX3_passDay_22 rfl ?_
      refine g_iinc (lv' := [(1, .int (x1 + (1 : Int32))), (0, .ref (ad E a0))]) (j := 1) C dX3_passDay_25 rfl (cc_n_1 _) (by decide) rfl ?_
      refine g_goto (tgt := 2) C dX3_passDay_28 (by decide) ?_
      refine g_sub [1, 0] rfl ?_
      exact hk2 h4 a0 (x1 + (1 : Int32)) oa0 hs hR
set_option maxHeartbeats 4000000 in
set_option maxRecDepth 100000 in
theorem w_X3_passDay (l : Launch) (E : Ep) (h : Hp) (a0 : Nat) (res : Int32 × Hp) (oa0 : OKr a0 3) (hs : sh_X3_passDay h a0 = some res) : MG l E yX3_passDay cX3_passDay 2 (some .int) 4 [.ref (ad E a0)] h (some (.int res.1)) res.2 := by
  refine MG.of (by decide) (Nat.le_of_ble_eq_true rfl) ?_
  intro X C hR
  have C : CX E X RX3 cX3_passDay 2 4 := C
  show GG l E X h 0 [(0, .ref (ad E a0))] []
  refine g_iconst C dX3_passDay_0 cc_i_0 ?_
  refine g_istore_n (lv' := [(1, .int (0 : Int32)), (0, .ref (ad E a0))]) C dX3_passDay_1 rfl (by decide) rfl ?_
  refine g_sub [1, 0] rfl ?_
  exact wb_X3_passDay_2 C 1000 h a0 (0 : Int32) oa0 hs hR
set_option maxHeartbeats 4000000 in
set_option maxRecDepth 100000 in
theorem w_X4_day (l : Launch) (E : Ep) (h : Hp) (a0 : Nat) (res : Int32 × Hp) (oa0 : OKr a0 4) (hs : sh_X4_day h a0 = some res) : MG l E yX4_day cX4_day 1 (some .int) 5 [.ref (ad E a0)] h (some (.int res.1)) res.2 := by
  refine MG.of (by decide) (Nat.le_of_ble_eq_true rfl) ?_
  intro X C hR
  have C : CX E X RX4 cX4_day 1 5 := C
  show GG l E X h 0 [(0, .ref (ad E a0))] []
  refine g_aload_n C 0 dX4_day_0 rfl rfl ?_
  refine gf4_0 C oa0 lf_X4_10 dX4_day_1 ?_
  refine gf3_8N C (tg4_0 oa0) lf_X4_125 dX4_day_4 ?_
  refine g_sipush C dX4_day_7 cc_s_999 ?_
  refine g_icmp_lt (tgt := 20) C dX4_day_10 (by decide) hs (fun hs => ?_) (fun hs => ?_)
  · refine g_aload_n C 0 dX4_day_20 rfl rfl ?_
    refine gf4_0 C oa0 lf_X4_10 dX4_day_21 ?_
    obtain ⟨q1, hcq1, hs⟩ := bnd hs
    refine g_cVN (As := []) (rest := []) C (w_X3_passDay l E _ _ _ (tg4_0 oa0) hcq1) mw_X3_passDay lm_X4_132 (tg4_0 oa0) rfl (ce3 E _ ((tg4_0 oa0)).2) rfl (by decide) rfl (Nat.le_of_ble_eq_true rfl) dX4_day_24 rfl ?_
    refine g_pop C dX4_day_27 rfl ?_
    refine g_aload_n C 0 dX4_day_28 rfl rfl ?_
    refine gf4_0 C oa0 lf_X4_10 dX4_day_29 ?_
    refine gf3_8N C (tg4_0 oa0) lf_X4_125 dX4_day_32 ?_
    have e9 := Option.some.inj hs
    subst e9
    exact g_iret C hR dX4_day_35
  · refine g_aload_n C 0 dX4_day_13 rfl rfl ?_
    refine g_bipush C dX4_day_14 cc_b_m6 ?_
    obtain ⟨q2, hcq2, hs⟩ := bnd hs
    refine g_cV (As := [.int (-6 : Int32)]) (rest := []) C (w_X4_refuse l E _ _ _ _ oa0 hcq2) mw_X4_refuse lm_X4_46 oa0 rfl (ce4 E _ (oa0).2) rfl (by decide) rfl (Nat.le_of_ble_eq_true rfl) dX4_day_16 rfl ?_
    have e9 := Option.some.inj hs
    subst e9
    exact g_iret C hR dX4_day_19
set_option maxHeartbeats 4000000 in
set_option maxRecDepth 100000 in
theorem wb_X3_giftByKind_18 {l : Launch} {E : Ep} {X : Fx} {res : Int32} (C : CX E X RX3 cX3_giftByKind 2 4) (h : Hp) (s0 : Int32) (hs : b_X3_giftByKind_18  h s0 = some res) (hR : RT E X (some .int) (some (.int res)) h) : GG l E X h 18 [] [.int s0] := by
  have e9 := Option.some.inj hs
  subst e9
  exact g_iret C hR dX3_giftByKind_18
set_option maxHeartbeats 4000000 in
set_option maxRecDepth 100000 in
theorem w_X3_giftByKind (l : Launch) (E : Ep) (h : Hp) (a0 : Nat) (x1 : Int32) (res : Int32) (oa0 : OKr a0 3) (hs : sh_X3_giftByKind h a0 x1 = some res) : MG l E yX3_giftByKind cX3_giftByKind 2 (some .int) 4 [.ref (ad E a0), .int x1] h (some (.int res)) h := by
  refine MG.of (by decide) (Nat.le_of_ble_eq_true rfl) ?_
  intro X C hR
  have C : CX E X RX3 cX3_giftByKind 2 4 := C
  show GG l E X h 0 [(0, .ref (ad E a0)), (1, .int x1)] []
  refine g_aload_n C 0 dX3_giftByKind_0 rfl rfl ?_
  refine g_iload_n C 1 dX3_giftByKind_1 rfl rfl ?_
  obtain ⟨v1, hcv1, hs⟩ := bnd hs
  refine g_cV (As := [.int x1]) (rest := []) C (w_X3_takerByKind l E _ _ _ _ oa0 hcv1) mw_X3_takerByKind lm_X3_112 oa0 rfl (ce3 E _ (oa0).2) rfl (by decide) rfl (Nat.le_of_ble_eq_true rfl) dX3_giftByKind_2 rfl ?_
  refine g_iload_n C 1 dX3_giftByKind_5 rfl rfl ?_
  refine g_icmp_ne (tgt := 13) C dX3_giftByKind_6 (by decide) hs (fun hs => ?_) (fun hs => ?_)
  · refine g_iconst C dX3_giftByKind_9 cc_i_0 ?_
    refine g_goto (tgt := 18) C dX3_giftByKind_10 (by decide) ?_
    refine g_sub [] rfl ?_
    exact wb_X3_giftByKind_18 C h (0 : Int32) hs hR
  · refine g_aload_n C 0 dX3_giftByKind_13 rfl rfl ?_
    refine g_iload_n C 1 dX3_giftByKind_14 rfl rfl ?_
    obtain ⟨v2, hcv2, hs⟩ := bnd hs
    refine g_cV (As := [.int x1]) (rest := []) C (w_X3_amountByKind l E _ _ _ _ oa0 hcv2) mw_X3_amountByKind lm_X3_115 oa0 rfl (ce3 E _ (oa0).2) rfl (by decide) rfl (Nat.le_of_ble_eq_true rfl) dX3_giftByKind_15 rfl ?_
    refine g_sub [] rfl ?_
    exact wb_X3_giftByKind_18 C h v2 hs hR
set_option maxHeartbeats 4000000 in
set_option maxRecDepth 100000 in
theorem wb_X4_gives_27 {l : Launch} {E : Ep} {X : Fx} {res : Int32 × Hp} (C : CX E X RX4 cX4_gives 2 5) (h : Hp) (s0 : Int32) (hs : b_X4_gives_27  h s0 = some res) (hR : RT E X (some .int) (some (.int res.1)) res.2) : GG l E X h 27 [] [.int s0] := by
  have e9 := Option.some.inj hs
  subst e9
  exact g_iret C hR dX4_gives_27
set_option maxHeartbeats 4000000 in
set_option maxRecDepth 100000 in
theorem w_X4_gives (l : Launch) (E : Ep) (h : Hp) (a0 : Nat) (x1 : Int32) (res : Int32 × Hp) (oa0 : OKr a0 4) (hs : sh_X4_gives h a0 x1 = some res) : MG l E yX4_gives cX4_gives 2 (some .int) 5 [.ref (ad E a0), .int x1] h (some (.int res.1)) res.2 := by
  refine MG.of (by decide) (Nat.le_of_ble_eq_true rfl) ?_
  intro X C hR
  have C : CX E X RX4 cX4_gives 2 5 := C
  show GG l E X h 0 [(0, .ref (ad E a0)), (1, .int x1)] []
  refine g_aload_n C 0 dX4_gives_0 rfl rfl ?_
  refine gf4_0 C oa0 lf_X4_10 dX4_gives_1 ?_
  refine g_iload_n C 1 dX4_gives_4 rfl rfl ?_
  obtain ⟨v1, hcv1, hs⟩ := bnd hs
  refine g_cVN (As := [.int x1]) (rest := []) C (w_X3_exists l E _ _ _ _ (tg4_0 oa0) hcv1) mw_X3_exists lm_X4_64 (tg4_0 oa0) rfl (ce3 E _ ((tg4_0 oa0)).2) rfl (by decide) rfl (Nat.le_of_ble_eq_true rfl) dX4_gives_5 rfl ?_
  refine g_if_eq (tgt := 22) C dX4_gives_8 (by decide) hs (fun hs => ?_) (fun hs => ?_)
  · refine g_aload_n C 0 dX4_gives_22 rfl rfl ?_
    refine g_iconst C dX4_gives_23 cc_i_m1 ?_
    obtain ⟨q2, hcq2, hs⟩ := bnd hs
    refine g_cV (As := [.int (-1 : Int32)]) (rest := []) C (w_X4_refuse l E _ _ _ _ oa0 hcq2) mw_X4_refuse lm_X4_46 oa0 rfl (ce4 E _ (oa0).2) rfl (by decide) rfl (Nat.le_of_ble_eq_true rfl) dX4_gives_24 rfl ?_
    refine g_sub [] rfl ?_
    exact wb_X4_gives_27 C q2.2 q2.1 hs hR
  · refine g_aload_n C 0 dX4_gives_11 rfl rfl ?_
    refine gf4_0 C oa0 lf_X4_10 dX4_gives_12 ?_
    refine g_iload_n C 1 dX4_gives_15 rfl rfl ?_
    obtain ⟨v3, hcv3, hs⟩ := bnd hs
    refine g_cVN (As := [.int x1]) (rest := []) C (w_X3_giftByKind l E _ _ _ _ (tg4_0 oa0) hcv3) mw_X3_giftByKind lm_X4_135 (tg4_0 oa0) rfl (ce3 E _ ((tg4_0 oa0)).2) rfl (by decide) rfl (Nat.le_of_ble_eq_true rfl) dX4_gives_16 rfl ?_
    refine g_goto (tgt := 27) C dX4_gives_19 (by decide) ?_
    refine g_sub [] rfl ?_
    exact wb_X4_gives_27 C h v3 hs hR
set_option maxHeartbeats 4000000 in
set_option maxRecDepth 100000 in
theorem wb_X4_ofOneRefusal_22 {l : Launch} {E : Ep} {X : Fx} {res : Int32} (C : CX E X RX4 cX4_ofOneRefusal 5 1) (h : Hp) (s0 : Int32) (hs : b_X4_ofOneRefusal_22  h s0 = some res) (hR : RT E X (some .int) (some (.int res)) h) : GG l E X h 22 [] [.int s0] := by
  have e9 := Option.some.inj hs
  subst e9
  exact g_iret C hR dX4_ofOneRefusal_22
set_option maxHeartbeats 4000000 in
set_option maxRecDepth 100000 in
theorem w_X4_ofOneRefusal (l : Launch) (E : Ep) (h : Hp) (a0 : Nat) (x1 : Int32) (x2 : Int32) (x3 : Int32) (x4 : Int32) (res : Int32) (oa0 : OKr a0 4) (hs : sh_X4_ofOneRefusal h a0 x1 x2 x3 x4 = some res) : MG l E yX4_ofOneRefusal cX4_ofOneRefusal 5 (some .int) 1 [.ref (ad E a0), .int x1, .int x2, .int x3, .int x4] h (some (.int res)) h := by
  refine MG.of (by decide) (Nat.le_of_ble_eq_true rfl) ?_
  intro X C hR
  have C : CX E X RX4 cX4_ofOneRefusal 5 1 := C
  show GG l E X h 0 [(0, .ref (ad E a0)), (1, .int x1), (2, .int x2), (3, .int x3), (4, .int x4)] []
  refine g_aload_n C 0 dX4_ofOneRefusal_0 rfl rfl ?_
  refine gf4_0 C oa0 lf_X4_10 dX4_ofOneRefusal_1 ?_
  refine g_iload_n C 1 dX4_ofOneRefusal_4 rfl rfl ?_
  obtain ⟨v1, hcv1, hs⟩ := bnd hs
  refine g_cVN (As := [.int x1]) (rest := []) C (w_X3_exists l E _ _ _ _ (tg4_0 oa0) hcv1) mw_X3_exists lm_X4_64 (tg4_0 oa0) rfl (ce3 E _ ((tg4_0 oa0)).2) rfl (by decide) rfl (Nat.le_of_ble_eq_true rfl) dX4_ofOneRefusal_5 rfl ?_
  refine g_if_eq (tgt := 21) C dX4_ofOneRefusal_8 (by decide) hs (fun hs => ?_) (fun hs => ?_)
  · refine g_iconst C dX4_ofOneRefusal_21 cc_i_m1 ?_
    refine g_sub [] rfl ?_
    exact wb_X4_ofOneRefusal_22 C h (-1 : Int32) hs hR
  · refine g_iload_n C 2 dX4_ofOneRefusal_11 rfl rfl ?_
    refine g_iload_n C 3 dX4_ofOneRefusal_12 rfl rfl ?_
    refine g_iload C 4 dX4_ofOneRefusal_13 rfl ?_
    obtain ⟨v2, hcv2, hs⟩ := bnd hs
    refine g_cS (As := [.int x2, .int x3, .int x4]) (rest := []) C (w_X4_outside l E _ _ _ _ _ hcv2) mw_X4_outside lm_X4_111 rfl (by decide) rfl (Nat.le_of_ble_eq_true rfl) dX4_ofOneRefusal_15 rfl ?_
    refine g_goto (tgt := 22) C dX4_ofOneRefusal_18 (by decide) ?_
    refine g_sub [] rfl ?_
    exact wb_X4_ofOneRefusal_22 C h v2 hs hR
set_option maxHeartbeats 4000000 in
set_option maxRecDepth 100000 in
theorem wb_X3_passDays_2 {l : Launch} {E : Ep} {X : Fx} {res : Hp} (C : CX E X RX3 cX3_passDays 3 5) : ∀ (n : Nat) (h : Hp) (a0 : Nat) (x1 : Int32) (x2 : Int32) (oa0 : OKr a0 3), b_X3_passDays_2  n h a0 x1 x2 = some res → RT E X none none res → GG l E X h 2 [(0, .ref (ad E a0)), (1, .int x1), (2, .int x2)] [] := by
  intro n
  induction n with
  | zero =>
    intro h a0 x1 x2 oa0
    intro hs
    exact absurd hs (by intro e; cases e)
  | succ n ih =>
    intro h a0 x1 x2 oa0 hs hR
    have hk2 := ih
    have hs : f_X3_passDays_2  (b_X3_passDays_2  n) h a0 x1 x2 = some res := hs
    generalize b_X3_passDays_2  n = k2 at hs hk2
    refine g_iload_n C 2 dX3_passDays_2 rfl rfl ?_
    refine g_iload_n C 1 dX3_passDays_3 rfl rfl ?_
    refine g_icmp_ge (tgt := 18) C dX3_passDays_4 (by decide) hs (fun hs => ?_) (fun hs => ?_)
    · have e9 := Option.some.inj hs
      subst e9
      exact g_vret C hR dX3_passDays_18
    · refine g_aload_n C 0 dX3_passDays_7 rfl rfl ?_
      obtain ⟨q1, hcq1, hs⟩ := bnd hs
      refine g_cV (As := []) (rest := []) C (w_X3_passDay l E _ _ _ oa0 hcq1) mw_X3_passDay lm_X3_129 oa0 rfl (ce3 E _ (oa0).2) rfl (by decide) rfl (Nat.le_of_ble_eq_true rfl) dX3_passDays_8 rfl ?_
      refine g_pop C dX3_passDays_11 rfl ?_
      refine g_iinc (lv' := [(2, .int (x2 + (1 : Int32))), (0, .ref (ad E a0)), (1, .int x1)]) (j := 2) C dX3_passDays_12 rfl (cc_n_1 _) (by decide) rfl ?_
      refine g_goto (tgt := 2) C dX3_passDays_15 (by decide) ?_
      refine g_sub [1, 2, 0] rfl ?_
      exact hk2 q1.2 a0 x1 (x2 + (1 : Int32)) oa0 hs hR
set_option maxHeartbeats 4000000 in
set_option maxRecDepth 100000 in
theorem w_X3_passDays (l : Launch) (E : Ep) (h : Hp) (a0 : Nat) (x1 : Int32) (res : Hp) (oa0 : OKr a0 3) (hs : sh_X3_passDays h a0 x1 = some res) : MG l E yX3_passDays cX3_passDays 3 none 5 [.ref (ad E a0), .int x1] h none res := by
  refine MG.of (by decide) (Nat.le_of_ble_eq_true rfl) ?_
  intro X C hR
  have C : CX E X RX3 cX3_passDays 3 5 := C
  show GG l E X h 0 [(0, .ref (ad E a0)), (1, .int x1)] []
  refine g_iconst C dX3_passDays_0 cc_i_0 ?_
  refine g_istore_n (lv' := [(2, .int (0 : Int32)), (0, .ref (ad E a0)), (1, .int x1)]) C dX3_passDays_1 rfl (by decide) rfl ?_
  refine g_sub [1, 2, 0] rfl ?_
  exact wb_X3_passDays_2 C 1000 h a0 x1 (0 : Int32) oa0 hs hR
set_option maxHeartbeats 4000000 in
set_option maxRecDepth 100000 in
theorem w_X4_think (l : Launch) (E : Ep) (h : Hp) (a0 : Nat) (x1 : Int32) (res : Hp) (oa0 : OKr a0 4) (hs : sh_X4_think h a0 x1 = some res) : MG l E yX4_think cX4_think 2 none 6 [.ref (ad E a0), .int x1] h none res := by
  refine MG.of (by decide) (Nat.le_of_ble_eq_true rfl) ?_
  intro X C hR
  have C : CX E X RX4 cX4_think 2 6 := C
  show GG l E X h 0 [(0, .ref (ad E a0)), (1, .int x1)] []
  refine g_aload_n C 0 dX4_think_0 rfl rfl ?_
  refine gf4_2 C oa0 lf_X4_19 dX4_think_1 ?_
  refine g_aload_n C 0 dX4_think_4 rfl rfl ?_
  refine gf4_0 C oa0 lf_X4_10 dX4_think_5 ?_
  obtain ⟨h1, hch1, hs⟩ := bnd hs
  refine g_cVN (As := [.ref (ad E (rf a0 0))]) (rest := []) C (w_X3_become l E _ _ _ _ (tg4_2 oa0) (tg4_0 oa0) hch1) mw_X3_become lm_X4_149 (tg4_2 oa0) rfl (ce3 E _ ((tg4_2 oa0)).2) rfl (by decide) rfl (Nat.le_of_ble_eq_true rfl) dX4_think_8 rfl ?_
  refine g_aload_n C 0 dX4_think_11 rfl rfl ?_
  refine gf4_2 C oa0 lf_X4_19 dX4_think_12 ?_
  refine g_iload_n C 1 dX4_think_15 rfl rfl ?_
  obtain ⟨h2, hch2, hs⟩ := bnd hs
  refine g_cVN (As := [.int x1]) (rest := []) C (w_X3_passDays l E _ _ _ _ (tg4_2 oa0) hch2) mw_X3_passDays lm_X4_187 (tg4_2 oa0) rfl (ce3 E _ ((tg4_2 oa0)).2) rfl (by decide) rfl (Nat.le_of_ble_eq_true rfl) dX4_think_16 rfl ?_
  have e9 := Option.some.inj hs
  subst e9
  exact g_vret C hR dX4_think_19
set_option maxHeartbeats 4000000 in
set_option maxRecDepth 100000 in
theorem w_X4_after (l : Launch) (E : Ep) (h : Hp) (a0 : Nat) (x1 : Int32) (x2 : Int32) (res : Int32 × Hp) (oa0 : OKr a0 4) (hs : sh_X4_after h a0 x1 x2 = some res) : MG l E yX4_after cX4_after 4 (some .int) 7 [.ref (ad E a0), .int x1, .int x2] h (some (.int res.1)) res.2 := by
  refine MG.of (by decide) (Nat.le_of_ble_eq_true rfl) ?_
  intro X C hR
  have C : CX E X RX4 cX4_after 4 7 := C
  show GG l E X h 0 [(0, .ref (ad E a0)), (1, .int x1), (2, .int x2)] []
  refine g_aload_n C 0 dX4_after_0 rfl rfl ?_
  refine g_iload_n C 1 dX4_after_1 rfl rfl ?_
  refine g_iload_n C 2 dX4_after_2 rfl rfl ?_
  refine g_iconst C dX4_after_3 cc_i_0 ?_
  refine g_bipush C dX4_after_4 cc_b_60 ?_
  obtain ⟨v1, hcv1, hs⟩ := bnd hs
  refine g_cV (As := [.int x1, .int x2, .int (0 : Int32), .int (60 : Int32)]) (rest := []) C (w_X4_ofOneRefusal l E _ _ _ _ _ _ _ oa0 hcv1) mw_X4_ofOneRefusal lm_X4_138 oa0 rfl (ce4 E _ (oa0).2) rfl (by decide) rfl (Nat.le_of_ble_eq_true rfl) dX4_after_6 rfl ?_
  refine g_istore_n (lv' := [(3, .int v1), (0, .ref (ad E a0)), (1, .int x1), (2, .int x2)]) C dX4_after_9 rfl (by decide) rfl ?_
  refine g_iload_n C 0 dX4_after_10 rfl rfl ?_
  refine g_if_eq (tgt := 20) C dX4_after_11 (by decide) hs (fun hs => ?_) (fun hs => ?_)
  · refine g_aload_n C 1 dX4_after_20 rfl rfl ?_
    refine g_iload_n C 3 dX4_after_21 rfl rfl ?_
    obtain ⟨h2, hch2, hs⟩ := bnd hs
    refine g_cV (As := [.int x2]) (rest := []) C (w_X4_think l E _ _ _ _ oa0 hch2) mw_X4_think lm_X4_142 oa0 rfl (ce4 E _ (oa0).2) rfl (by decide) rfl (Nat.le_of_ble_eq_true rfl) dX4_after_22 rfl ?_
    refine g_aload_n C 1 dX4_after_25 rfl rfl ?_
    refine gf4_2 C oa0 lf_X4_19 dX4_after_26 ?_
    refine gf3_3N C (tg4_2 oa0) lf_X4_77 dX4_after_29 ?_
    refine g_iload_n C 2 dX4_after_32 rfl rfl ?_
    refine g_iald C (tg3_3 (tg4_2 oa0)) dX4_after_33 hs (fun v3 hs => ?_)
    have e9 := Option.some.inj hs
    subst e9
    exact g_iret C hR dX4_after_34
  · refine g_aload_n C 1 dX4_after_14 rfl rfl ?_
    refine g_iload_n C 0 dX4_after_15 rfl rfl ?_
    obtain ⟨q4, hcq4, hs⟩ := bnd hs
    refine g_cV (As := [.int v1]) (rest := []) C (w_X4_refuse l E _ _ _ _ oa0 hcq4) mw_X4_refuse lm_X4_46 oa0 rfl (ce4 E _ (oa0).2) rfl (by decide) rfl (Nat.le_of_ble_eq_true rfl) dX4_after_16 rfl ?_
    have e9 := Option.some.inj hs
    subst e9
    exact g_iret C hR dX4_after_19
set_option maxHeartbeats 4000000 in
set_option maxRecDepth 100000 in
theorem wb_X3_sumOfHas_4 {l : Launch} {E : Ep} {X : Fx} {res : Int32} (C : CX E X RX3 cX3_sumOfHas 3 0) : ∀ (n : Nat) (h : Hp) (a0 : Nat) (x1 : Int32) (x2 : Int32) (oa0 : OKr a0 3), b_X3_sumOfHas_4  n h a0 x1 x2 = some res → RT E X (some .int) (some (.int res)) h → GG l E X h 4 [(0, .ref (ad E a0)), (1, .int x1), (2, .int x2)] [] := by
  intro n
  induction n with
  | zero =>
    intro h a0 x1 x2 oa0
    intro hs
    exact absurd hs (by intro e; cases e)
  | succ n ih =>
    intro h a0 x1 x2 oa0 hs hR
    have hk4 := ih
    have hs : f_X3_sumOfHas_4  (b_X3_sumOfHas_4  n) h a0 x1 x2 = some res := hs
    generalize b_X3_sumOfHas_4  n = k4 at hs hk4
    refine g_iload_n C 2 dX3_sumOfHas_4 rfl rfl ?_
    refine g_aload_n C 0 dX3_sumOfHas_5 rfl rfl ?_
    refine gf3_7 C oa0 lf_X3_47 dX3_sumOfHas_6 ?_
    refine g_icmp_ge (tgt := 27) C dX3_sumOfHas_9 (by decide) hs (fun hs => ?_) (fun hs => ?_)
    · refine g_iload_n C 1 dX3_sumOfHas_27 rfl rfl ?_
      have e9 := Option.some.inj hs
      subst e9
      exact g_iret C hR dX3_sumOfHas_28
    · refine g_iload_n C 1 dX3_sumOfHas_12 rfl rfl ?_
      refine g_aload_n C 0 dX3_sumOfHas_13 rfl rfl ?_
      refine gf3_3 C oa0 lf_X3_21 dX3_sumOfHas_14 ?_
      refine g_iload_n C 2 dX3_sumOfHas_17 rfl rfl ?_
      refine g_iald C (tg3_3 oa0) dX3_sumOfHas_18 hs (fun v1 hs => ?_)
      refine g_iadd C dX3_sumOfHas_19 ?_
      refine g_istore_n (lv' := [(1, .int (x1 + v1)), (0, .ref (ad E a0)), (2, .int x2)]) C dX3_sumOfHas_20 rfl (by decide) rfl ?_
      refine g_iinc (lv' := [(2, .int (x2 + (1 : Int32))), (1, .int (x1 + v1)), (0, .ref (ad E a0))]) (j := 2) C dX3_sumOfHas_21 rfl (cc_n_1 _) (by decide) rfl ?_
      refine g_goto (tgt := 4) C dX3_sumOfHas_24 (by decide) ?_
      refine g_sub [2, 1, 0] rfl ?_
      exact hk4 h a0 (x1 + v1) (x2 + (1 : Int32)) oa0 hs hR
set_option maxHeartbeats 4000000 in
set_option maxRecDepth 100000 in
theorem w_X3_sumOfHas (l : Launch) (E : Ep) (h : Hp) (a0 : Nat) (res : Int32) (oa0 : OKr a0 3) (hs : sh_X3_sumOfHas h a0 = some res) : MG l E yX3_sumOfHas cX3_sumOfHas 3 (some .int) 0 [.ref (ad E a0)] h (some (.int res)) h := by
  refine MG.of (by decide) (Nat.le_of_ble_eq_true rfl) ?_
  intro X C hR
  have C : CX E X RX3 cX3_sumOfHas 3 0 := C
  show GG l E X h 0 [(0, .ref (ad E a0))] []
  refine g_iconst C dX3_sumOfHas_0 cc_i_0 ?_
  refine g_istore_n (lv' := [(1, .int (0 : Int32)), (0, .ref (ad E a0))]) C dX3_sumOfHas_1 rfl (by decide) rfl ?_
  refine g_iconst C dX3_sumOfHas_2 cc_i_0 ?_
  refine g_istore_n (lv' := [(2, .int (0 : Int32)), (1, .int (0 : Int32)), (0, .ref (ad E a0))]) C dX3_sumOfHas_3 rfl (by decide) rfl ?_
  refine g_sub [2, 1, 0] rfl ?_
  exact wb_X3_sumOfHas_4 C 1000 h a0 (0 : Int32) (0 : Int32) oa0 hs hR
set_option maxHeartbeats 4000000 in
set_option maxRecDepth 100000 in
theorem w_X4_all (l : Launch) (E : Ep) (h : Hp) (a0 : Nat) (x1 : Int32) (res : Int32 × Hp) (oa0 : OKr a0 4) (hs : sh_X4_all h a0 x1 = some res) : MG l E yX4_all cX4_all 3 (some .int) 7 [.ref (ad E a0), .int x1] h (some (.int res.1)) res.2 := by
  refine MG.of (by decide) (Nat.le_of_ble_eq_true rfl) ?_
  intro X C hR
  have C : CX E X RX4 cX4_all 3 7 := C
  show GG l E X h 0 [(0, .ref (ad E a0)), (1, .int x1)] []
  refine g_iload_n C 1 dX4_all_0 rfl rfl ?_
  refine g_iconst C dX4_all_1 cc_i_0 ?_
  refine g_bipush C dX4_all_2 cc_b_60 ?_
  obtain ⟨v1, hcv1, hs⟩ := bnd hs
  refine g_cS (As := [.int x1, .int (0 : Int32), .int (60 : Int32)]) (rest := []) C (w_X4_outside l E _ _ _ _ _ hcv1) mw_X4_outside lm_X4_111 rfl (by decide) rfl (Nat.le_of_ble_eq_true rfl) dX4_all_4 rfl ?_
  refine g_istore_n (lv' := [(2, .int v1), (0, .ref (ad E a0)), (1, .int x1)]) C dX4_all_7 rfl (by decide) rfl ?_
  refine g_iload_n C 0 dX4_all_8 rfl rfl ?_
  refine g_if_eq (tgt := 18) C dX4_all_9 (by decide) hs (fun hs => ?_) (fun hs => ?_)
  · refine g_aload_n C 1 dX4_all_18 rfl rfl ?_
    refine g_iload_n C 2 dX4_all_19 rfl rfl ?_
    obtain ⟨h2, hch2, hs⟩ := bnd hs
    refine g_cV (As := [.int x1]) (rest := []) C (w_X4_think l E _ _ _ _ oa0 hch2) mw_X4_think lm_X4_142 oa0 rfl (ce4 E _ (oa0).2) rfl (by decide) rfl (Nat.le_of_ble_eq_true rfl) dX4_all_20 rfl ?_
    refine g_aload_n C 1 dX4_all_23 rfl rfl ?_
    refine gf4_2 C oa0 lf_X4_19 dX4_all_24 ?_
    obtain ⟨v3, hcv3, hs⟩ := bnd hs
    refine g_cVN (As := []) (rest := []) C (w_X3_sumOfHas l E _ _ _ (tg4_2 oa0) hcv3) mw_X3_sumOfHas lm_X4_146 (tg4_2 oa0) rfl (ce3 E _ ((tg4_2 oa0)).2) rfl (by decide) rfl (Nat.le_of_ble_eq_true rfl) dX4_all_27 rfl ?_
    have e9 := Option.some.inj hs
    subst e9
    exact g_iret C hR dX4_all_30
  · refine g_aload_n C 1 dX4_all_12 rfl rfl ?_
    refine g_iload_n C 0 dX4_all_13 rfl rfl ?_
    obtain ⟨q4, hcq4, hs⟩ := bnd hs
    refine g_cV (As := [.int v1]) (rest := []) C (w_X4_refuse l E _ _ _ _ oa0 hcq4) mw_X4_refuse lm_X4_46 oa0 rfl (ce4 E _ (oa0).2) rfl (by decide) rfl (Nat.le_of_ble_eq_true rfl) dX4_all_14 rfl ?_
    have e9 := Option.some.inj hs
    subst e9
    exact g_iret C hR dX4_all_17
