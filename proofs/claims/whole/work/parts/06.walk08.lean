set_option maxHeartbeats 4000000 in
set_option maxRecDepth 100000 in
theorem wb_X5_carryAll_50 {l : Launch} {E : Ep} {X : Fx} {res : Hp} (C : CX E X RX5 cX5_carryAll 3 2) : ∀ (n : Nat) (h : Hp) (a0 : Nat) (x2 : Int32) (oa0 : OKr a0 5), b_X5_carryAll_50  n h a0 x2 = some res → RT E X none none res → GG l E X h 50 [(0, .ref (ad E a0)), (2, .int x2)] [] := by
  intro n
  induction n with
  | zero =>
    intro h a0 x2 oa0
    intro hs
    exact absurd hs (by intro e; cases e)
  | succ n ih =>
    intro h a0 x2 oa0 hs hR
    have hk50 := ih
    have hs : f_X5_carryAll_50  (b_X5_carryAll_50  n) h a0 x2 = some res := hs
    generalize b_X5_carryAll_50  n = k50 at hs hk50
    refine g_iload_n C 1 dX5_carryAll_50 rfl rfl ?_
    refine g_bipush C dX5_carryAll_51 cc_b_6 ?_
    refine g_icmp_ge (tgt := 141) C dX5_carryAll_53 (by decide) hs (fun hs => ?_) (fun hs => ?_)
    · have e9 := Option.some.inj hs
      subst e9
      exact g_vret C hR dX5_carryAll_141
    · refine g_aload_n C 0 dX5_carryAll_56 rfl rfl ?_
      refine gf5_6 C oa0 lf_X5_16 dX5_carryAll_57 ?_
      refine g_iload_n C 1 dX5_carryAll_60 rfl rfl ?_
      refine g_aload_n C 0 dX5_carryAll_61 rfl rfl ?_
      refine g_iconst C dX5_carryAll_62 cc_i_3 ?_
      refine g_iload_n C 1 dX5_carryAll_63 rfl rfl ?_
      refine g_iadd C dX5_carryAll_64 ?_
      refine g_aload_n C 0 dX5_carryAll_65 rfl rfl ?_
      refine gf5_6 C oa0 lf_X5_16 dX5_carryAll_66 ?_
      refine g_iload_n C 1 dX5_carryAll_69 rfl rfl ?_
      refine g_iald C (tg5_6 oa0) dX5_carryAll_70 hs (fun v1 hs => ?_)
      obtain ⟨q2, hcq2, hs⟩ := bnd hs
      refine g_cV (As := [.int ((3 : Int32) + x2), .int v1]) (rest := [.int x2, .ref (ad E (rf a0 6))]) C (w_X5_carryMore l E _ _ _ _ _ oa0 hcq2) mw_X5_carryMore lm_X5_294 oa0 rfl (ce5 E _ (oa0).2) rfl (by decide) rfl (Nat.le_of_ble_eq_true rfl) dX5_carryAll_71 rfl ?_
      refine g_iast C (tg5_6 oa0) dX5_carryAll_74 hs (fun h3 hs => ?_)
      refine g_aload_n C 0 dX5_carryAll_75 rfl rfl ?_
      refine gf5_7 C oa0 lf_X5_20 dX5_carryAll_76 ?_
      refine g_iload_n C 1 dX5_carryAll_79 rfl rfl ?_
      refine g_aload_n C 0 dX5_carryAll_80 rfl rfl ?_
      refine g_bipush C dX5_carryAll_81 cc_b_9 ?_
      refine g_iload_n C 1 dX5_carryAll_83 rfl rfl ?_
      refine g_iadd C dX5_carryAll_84 ?_
      refine g_aload_n C 0 dX5_carryAll_85 rfl rfl ?_
      refine gf5_7 C oa0 lf_X5_20 dX5_carryAll_86 ?_
      refine g_iload_n C 1 dX5_carryAll_89 rfl rfl ?_
      refine g_iald C (tg5_7 oa0) dX5_carryAll_90 hs (fun v4 hs => ?_)
      obtain ⟨q5, hcq5, hs⟩ := bnd hs
      refine g_cV (As := [.int ((9 : Int32) + x2), .int v4]) (rest := [.int x2, .ref (ad E (rf a0 7))]) C (w_X5_carryMore l E _ _ _ _ _ oa0 hcq5) mw_X5_carryMore lm_X5_294 oa0 rfl (ce5 E _ (oa0).2) rfl (by decide) rfl (Nat.le_of_ble_eq_true rfl) dX5_carryAll_91 rfl ?_
      refine g_iast C (tg5_7 oa0) dX5_carryAll_94 hs (fun h6 hs => ?_)
      refine g_aload_n C 0 dX5_carryAll_95 rfl rfl ?_
      refine gf5_8 C oa0 lf_X5_23 dX5_carryAll_96 ?_
      refine g_iload_n C 1 dX5_carryAll_99 rfl rfl ?_
      refine g_aload_n C 0 dX5_carryAll_100 rfl rfl ?_
      refine g_bipush C dX5_carryAll_101 cc_b_15 ?_
      refine g_iload_n C 1 dX5_carryAll_103 rfl rfl ?_
      refine g_iadd C dX5_carryAll_104 ?_
      refine g_aload_n C 0 dX5_carryAll_105 rfl rfl ?_
      refine gf5_8 C oa0 lf_X5_23 dX5_carryAll_106 ?_
      refine g_iload_n C 1 dX5_carryAll_109 rfl rfl ?_
      refine g_iald C (tg5_8 oa0) dX5_carryAll_110 hs (fun v7 hs => ?_)
      obtain ⟨q8, hcq8, hs⟩ := bnd hs
      refine g_cV (As := [.int ((15 : Int32) + x2), .int v7]) (rest := [.int x2, .ref (ad E (rf a0 8))]) C (w_X5_carryMore l E _ _ _ _ _ oa0 hcq8) mw_X5_carryMore lm_X5_294 oa0 rfl (ce5 E _ (oa0).2) rfl (by decide) rfl (Nat.le_of_ble_eq_true rfl) dX5_carryAll_111 rfl ?_
      refine g_iast C (tg5_8 oa0) dX5_carryAll_114 hs (fun h9 hs => ?_)
      refine g_aload_n C 0 dX5_carryAll_115 rfl rfl ?_
      refine gf5_9 C oa0 lf_X5_26 dX5_carryAll_116 ?_
      refine g_iload_n C 1 dX5_carryAll_119 rfl rfl ?_
      refine g_aload_n C 0 dX5_carryAll_120 rfl rfl ?_
      refine g_bipush C dX5_carryAll_121 cc_b_21 ?_
      refine g_iload_n C 1 dX5_carryAll_123 rfl rfl ?_
      refine g_iadd C dX5_carryAll_124 ?_
      refine g_aload_n C 0 dX5_carryAll_125 rfl rfl ?_
      refine gf5_9 C oa0 lf_X5_26 dX5_carryAll_126 ?_
      refine g_iload_n C 1 dX5_carryAll_129 rfl rfl ?_
      refine g_iald C (tg5_9 oa0) dX5_carryAll_130 hs (fun v10 hs => ?_)
      obtain ⟨q11, hcq11, hs⟩ := bnd hs
      refine g_cV (As := [.int ((21 : Int32) + x2), .int v10]) (rest := [.int x2, .ref (ad E (rf a0 9))]) C (w_X5_carryMore l E _ _ _ _ _ oa0 hcq11) mw_X5_carryMore lm_X5_294 oa0 rfl (ce5 E _ (oa0).2) rfl (by decide) rfl (Nat.le_of_ble_eq_true rfl) dX5_carryAll_131 rfl ?_
      refine g_iast C (tg5_9 oa0) dX5_carryAll_134 hs (fun h12 hs => ?_)
      refine g_iinc (lv' := [(2, .int (x2 + (1 : Int32))), (0, .ref (ad E a0))]) (j := 1) C dX5_carryAll_135 rfl (cc_n_1 _) (by decide) rfl ?_
      refine g_goto (tgt := 50) C dX5_carryAll_138 (by decide) ?_
      refine g_sub [1, 0] rfl ?_
      exact hk50 h12 a0 (x2 + (1 : Int32)) oa0 hs hR
set_option maxHeartbeats 4000000 in
set_option maxRecDepth 100000 in
theorem w_X5_carryAll (l : Launch) (E : Ep) (h : Hp) (a0 : Nat) (x1 : Int32) (res : Hp) (oa0 : OKr a0 5) (hs : sh_X5_carryAll h a0 x1 = some res) : MG l E yX5_carryAll cX5_carryAll 3 none 2 [.ref (ad E a0), .int x1] h none res := by
  refine MG.of (by decide) (Nat.le_of_ble_eq_true rfl) ?_
  intro X C hR
  have C : CX E X RX5 cX5_carryAll 3 2 := C
  show GG l E X h 0 [(0, .ref (ad E a0)), (1, .int x1)] []
  refine g_aload_n C 0 dX5_carryAll_0 rfl rfl ?_
  refine g_aload_n C 0 dX5_carryAll_1 rfl rfl ?_
  refine gf5_37 C oa0 lf_X5_62 dX5_carryAll_2 ?_
  refine g_iload_n C 1 dX5_carryAll_5 rfl rfl ?_
  obtain ⟨h1, hch1, hs⟩ := bnd hs
  refine g_cV (As := [.ref (ad E (rf a0 37)), .int x1]) (rest := []) C (w_X5_carryDays l E _ _ _ _ _ oa0 (tg5_37 oa0) hch1) mw_X5_carryDays lm_X5_145 oa0 rfl (ce5 E _ (oa0).2) rfl (by decide) rfl (Nat.le_of_ble_eq_true rfl) dX5_carryAll_6 rfl ?_
  refine g_aload_n C 0 dX5_carryAll_9 rfl rfl ?_
  refine g_aload_n C 0 dX5_carryAll_10 rfl rfl ?_
  refine g_iconst C dX5_carryAll_11 cc_i_0 ?_
  refine g_aload_n C 0 dX5_carryAll_12 rfl rfl ?_
  refine gf5_0 C oa0 lf_X5_71 dX5_carryAll_13 ?_
  obtain ⟨q2, hcq2, hs⟩ := bnd hs
  refine g_cV (As := [.int (0 : Int32), .int (h1.1 a0 0)]) (rest := [.ref (ad E a0)]) C (w_X5_carryMore l E _ _ _ _ _ oa0 hcq2) mw_X5_carryMore lm_X5_294 oa0 rfl (ce5 E _ (oa0).2) rfl (by decide) rfl (Nat.le_of_ble_eq_true rfl) dX5_carryAll_16 rfl ?_
  refine pf5_0 C oa0 lf_X5_71 dX5_carryAll_19 ?_
  refine g_aload_n C 0 dX5_carryAll_22 rfl rfl ?_
  refine g_aload_n C 0 dX5_carryAll_23 rfl rfl ?_
  refine g_iconst C dX5_carryAll_24 cc_i_1 ?_
  refine g_aload_n C 0 dX5_carryAll_25 rfl rfl ?_
  refine gf5_3 C oa0 lf_X5_7 dX5_carryAll_26 ?_
  obtain ⟨q3, hcq3, hs⟩ := bnd hs
  refine g_cV (As := [.int (1 : Int32), .int ((wI q2.2 a0 0 q2.1).1 a0 3)]) (rest := [.ref (ad E a0)]) C (w_X5_carryMore l E _ _ _ _ _ oa0 hcq3) mw_X5_carryMore lm_X5_294 oa0 rfl (ce5 E _ (oa0).2) rfl (by decide) rfl (Nat.le_of_ble_eq_true rfl) dX5_carryAll_29 rfl ?_
  refine pf5_3 C oa0 lf_X5_7 dX5_carryAll_32 ?_
  refine g_aload_n C 0 dX5_carryAll_35 rfl rfl ?_
  refine g_aload_n C 0 dX5_carryAll_36 rfl rfl ?_
  refine g_iconst C dX5_carryAll_37 cc_i_2 ?_
  refine g_aload_n C 0 dX5_carryAll_38 rfl rfl ?_
  refine gf5_5 C oa0 lf_X5_13 dX5_carryAll_39 ?_
  obtain ⟨q4, hcq4, hs⟩ := bnd hs
  refine g_cV (As := [.int (2 : Int32), .int ((wI q3.2 a0 3 q3.1).1 a0 5)]) (rest := [.ref (ad E a0)]) C (w_X5_carryMore l E _ _ _ _ _ oa0 hcq4) mw_X5_carryMore lm_X5_294 oa0 rfl (ce5 E _ (oa0).2) rfl (by decide) rfl (Nat.le_of_ble_eq_true rfl) dX5_carryAll_42 rfl ?_
  refine pf5_5 C oa0 lf_X5_13 dX5_carryAll_45 ?_
  refine g_iconst C dX5_carryAll_48 cc_i_0 ?_
  refine g_istore_n (lv' := [(2, .int (0 : Int32)), (0, .ref (ad E a0)), (1, .int x1)]) C dX5_carryAll_49 rfl (by decide) rfl ?_
  refine g_sub [1, 0] rfl ?_
  exact wb_X5_carryAll_50 C 1000 (wI q4.2 a0 5 q4.1) a0 (0 : Int32) oa0 hs hR
set_option maxHeartbeats 4000000 in
set_option maxRecDepth 100000 in
theorem w_X5_image (l : Launch) (E : Ep) (h : Hp) (a0 : Nat) (res : Int32 × Hp) (oa0 : OKr a0 5) (hs : sh_X5_image h a0 = some res) : MG l E yX5_image cX5_image 1 (some .int) 3 [.ref (ad E a0)] h (some (.int res.1)) res.2 := by
  refine MG.of (by decide) (Nat.le_of_ble_eq_true rfl) ?_
  intro X C hR
  have C : CX E X RX5 cX5_image 1 3 := C
  show GG l E X h 0 [(0, .ref (ad E a0))] []
  refine g_aload_n C 0 dX5_image_0 rfl rfl ?_
  refine g_iconst C dX5_image_1 cc_i_0 ?_
  refine pf5_13 C oa0 lf_X5_68 dX5_image_2 ?_
  refine g_aload_n C 0 dX5_image_5 rfl rfl ?_
  refine g_iconst C dX5_image_6 cc_i_1 ?_
  refine pf5_36 C (Or.inr rfl) oa0 lf_X5_297 dX5_image_7 ?_
  refine g_aload_n C 0 dX5_image_10 rfl rfl ?_
  refine g_iconst C dX5_image_11 cc_i_1 ?_
  obtain ⟨h1, hch1, hs⟩ := bnd hs
  refine g_cV (As := [.int (1 : Int32)]) (rest := []) C (w_X5_carryAll l E _ _ _ _ oa0 hch1) mw_X5_carryAll lm_X5_300 oa0 rfl (ce5 E _ (oa0).2) rfl (by decide) rfl (Nat.le_of_ble_eq_true rfl) dX5_image_12 rfl ?_
  refine g_aload_n C 0 dX5_image_15 rfl rfl ?_
  refine gf5_1 C oa0 lf_X5_78 dX5_image_16 ?_
  have e9 := Option.some.inj hs
  subst e9
  exact g_iret C hR dX5_image_19
set_option maxHeartbeats 4000000 in
set_option maxRecDepth 100000 in
theorem w_X5_restore (l : Launch) (E : Ep) (h : Hp) (a0 : Nat) (res : Int32 × Hp) (oa0 : OKr a0 5) (hs : sh_X5_restore h a0 = some res) : MG l E yX5_restore cX5_restore 1 (some .int) 3 [.ref (ad E a0)] h (some (.int res.1)) res.2 := by
  refine MG.of (by decide) (Nat.le_of_ble_eq_true rfl) ?_
  intro X C hR
  have C : CX E X RX5 cX5_restore 1 3 := C
  show GG l E X h 0 [(0, .ref (ad E a0))] []
  refine g_aload_n C 0 dX5_restore_0 rfl rfl ?_
  refine g_iconst C dX5_restore_1 cc_i_0 ?_
  refine pf5_13 C oa0 lf_X5_68 dX5_restore_2 ?_
  refine g_aload_n C 0 dX5_restore_5 rfl rfl ?_
  refine gf5_36 C oa0 lf_X5_297 dX5_restore_6 ?_
  refine g_if_ne (tgt := 19) C dX5_restore_9 (by decide) hs (fun hs => ?_) (fun hs => ?_)
  · refine g_aload_n C 0 dX5_restore_12 rfl rfl ?_
    refine g_bipush C dX5_restore_13 cc_b_m3 ?_
    obtain ⟨q1, hcq1, hs⟩ := bnd hs
    refine g_cV (As := [.int (-3 : Int32)]) (rest := []) C (w_X5_refuse l E _ _ _ _ oa0 hcq1) mw_X5_refuse lm_X5_152 oa0 rfl (ce5 E _ (oa0).2) rfl (by decide) rfl (Nat.le_of_ble_eq_true rfl) dX5_restore_15 rfl ?_
    have e9 := Option.some.inj hs
    subst e9
    exact g_iret C hR dX5_restore_18
  · refine g_aload_n C 0 dX5_restore_19 rfl rfl ?_
    refine g_iconst C dX5_restore_20 cc_i_0 ?_
    obtain ⟨h2, hch2, hs⟩ := bnd hs
    refine g_cV (As := [.int (0 : Int32)]) (rest := []) C (w_X5_carryAll l E _ _ _ _ oa0 hch2) mw_X5_carryAll lm_X5_300 oa0 rfl (ce5 E _ (oa0).2) rfl (by decide) rfl (Nat.le_of_ble_eq_true rfl) dX5_restore_21 rfl ?_
    refine g_aload_n C 0 dX5_restore_24 rfl rfl ?_
    refine gf5_1 C oa0 lf_X5_78 dX5_restore_25 ?_
    have e9 := Option.some.inj hs
    subst e9
    exact g_iret C hR dX5_restore_28
set_option maxHeartbeats 4000000 in
set_option maxRecDepth 100000 in
theorem wb_X5_sum_38 {l : Launch} {E : Ep} {X : Fx} {res : Int32} (C : CX E X RX5 cX5_sum 4 2) (k4 : Hp → Nat → Int32 → Int32 → Int32 → Option (Int32)) (hk4 : ∀ (h : Hp) (a0 : Nat) (x1 : Int32) (x2 : Int32) (x3 : Int32), OKr a0 5 → k4 h a0 x1 x2 x3 = some res → RT E X (some .int) (some (.int res)) h → GG l E X h 4 [(0, .ref (ad E a0)), (1, .int x1), (2, .int x2), (3, .int x3)] []) (h : Hp) (a0 : Nat) (x1 : Int32) (x3 : Int32) (s0 : Int32) (s1 : Int32) (oa0 : OKr a0 5) (hs : b_X5_sum_38 k4 h a0 x1 x3 s0 s1 = some res) (hR : RT E X (some .int) (some (.int res)) h) : GG l E X h 38 [(0, .ref (ad E a0)), (1, .int x1), (3, .int x3)] [.int s1, .int s0] := by
  refine g_iadd C dX5_sum_38 ?_
  refine g_istore_n (lv' := [(2, .int (s0 + s1)), (0, .ref (ad E a0)), (1, .int x1), (3, .int x3)]) C dX5_sum_39 rfl (by decide) rfl ?_
  refine g_iinc (lv' := [(3, .int (x3 + (1 : Int32))), (2, .int (s0 + s1)), (0, .ref (ad E a0)), (1, .int x1)]) (j := 3) C dX5_sum_40 rfl (cc_n_1 _) (by decide) rfl ?_
  refine g_goto (tgt := 4) C dX5_sum_43 (by decide) ?_
  refine g_sub [2, 3, 1, 0] rfl ?_
  exact hk4 h a0 x1 (s0 + s1) (x3 + (1 : Int32)) oa0 hs hR
set_option maxHeartbeats 4000000 in
set_option maxRecDepth 100000 in
theorem wb_X5_sum_4 {l : Launch} {E : Ep} {X : Fx} {res : Int32} (C : CX E X RX5 cX5_sum 4 2) : ∀ (n : Nat) (h : Hp) (a0 : Nat) (x1 : Int32) (x2 : Int32) (x3 : Int32) (oa0 : OKr a0 5), b_X5_sum_4  n h a0 x1 x2 x3 = some res → RT E X (some .int) (some (.int res)) h → GG l E X h 4 [(0, .ref (ad E a0)), (1, .int x1), (2, .int x2), (3, .int x3)] [] := by
  intro n
  induction n with
  | zero =>
    intro h a0 x1 x2 x3 oa0
    intro hs
    exact absurd hs (by intro e; cases e)
  | succ n ih =>
    intro h a0 x1 x2 x3 oa0 hs hR
    have hk4 := ih
    have hs : f_X5_sum_4  (b_X5_sum_4  n) h a0 x1 x2 x3 = some res := hs
    generalize b_X5_sum_4  n = k4 at hs hk4
    refine g_iload_n C 3 dX5_sum_4 rfl rfl ?_
    refine g_aload_n C 0 dX5_sum_5 rfl rfl ?_
    refine gf5_0 C oa0 lf_X5_71 dX5_sum_6 ?_
    refine g_icmp_ge (tgt := 46) C dX5_sum_9 (by decide) hs (fun hs => ?_) (fun hs => ?_)
    · refine g_iload_n C 2 dX5_sum_46 rfl rfl ?_
      have e9 := Option.some.inj hs
      subst e9
      exact g_iret C hR dX5_sum_47
    · refine g_iload_n C 2 dX5_sum_12 rfl rfl ?_
      refine g_iload_n C 1 dX5_sum_13 rfl rfl ?_
      refine g_if_eq (tgt := 29) C dX5_sum_14 (by decide) hs (fun hs => ?_) (fun hs => ?_)
      · refine g_aload_n C 0 dX5_sum_29 rfl rfl ?_
        refine g_aload_n C 0 dX5_sum_30 rfl rfl ?_
        refine gf5_1 C oa0 lf_X5_78 dX5_sum_31 ?_
        refine g_iload_n C 3 dX5_sum_34 rfl rfl ?_
        obtain ⟨v1, hcv1, hs⟩ := bnd hs
        refine g_cV (As := [.int (h.1 a0 1), .int x3]) (rest := [.int x2]) C (w_X5_given l E _ _ _ _ _ oa0 hcv1) mw_X5_given lm_X5_204 oa0 rfl (ce5 E _ (oa0).2) rfl (by decide) rfl (Nat.le_of_ble_eq_true rfl) dX5_sum_35 rfl ?_
        refine g_sub [0, 1, 3] rfl ?_
        exact wb_X5_sum_38 C k4 hk4 h a0 x1 x3 x2 v1 oa0 hs hR
      · refine g_aload_n C 0 dX5_sum_17 rfl rfl ?_
        refine g_aload_n C 0 dX5_sum_18 rfl rfl ?_
        refine gf5_1 C oa0 lf_X5_78 dX5_sum_19 ?_
        refine g_iload_n C 3 dX5_sum_22 rfl rfl ?_
        obtain ⟨v2, hcv2, hs⟩ := bnd hs
        refine g_cV (As := [.int (h.1 a0 1), .int x3]) (rest := [.int x2]) C (w_X5_got l E _ _ _ _ _ oa0 hcv2) mw_X5_got lm_X5_102 oa0 rfl (ce5 E _ (oa0).2) rfl (by decide) rfl (Nat.le_of_ble_eq_true rfl) dX5_sum_23 rfl ?_
        refine g_goto (tgt := 38) C dX5_sum_26 (by decide) ?_
        refine g_sub [0, 1, 3] rfl ?_
        exact wb_X5_sum_38 C k4 hk4 h a0 x1 x3 x2 v2 oa0 hs hR
set_option maxHeartbeats 4000000 in
set_option maxRecDepth 100000 in
theorem w_X5_sum (l : Launch) (E : Ep) (h : Hp) (a0 : Nat) (x1 : Int32) (res : Int32) (oa0 : OKr a0 5) (hs : sh_X5_sum h a0 x1 = some res) : MG l E yX5_sum cX5_sum 4 (some .int) 2 [.ref (ad E a0), .int x1] h (some (.int res)) h := by
  refine MG.of (by decide) (Nat.le_of_ble_eq_true rfl) ?_
  intro X C hR
  have C : CX E X RX5 cX5_sum 4 2 := C
  show GG l E X h 0 [(0, .ref (ad E a0)), (1, .int x1)] []
  refine g_iconst C dX5_sum_0 cc_i_0 ?_
  refine g_istore_n (lv' := [(2, .int (0 : Int32)), (0, .ref (ad E a0)), (1, .int x1)]) C dX5_sum_1 rfl (by decide) rfl ?_
  refine g_iconst C dX5_sum_2 cc_i_0 ?_
  refine g_istore_n (lv' := [(3, .int (0 : Int32)), (2, .int (0 : Int32)), (0, .ref (ad E a0)), (1, .int x1)]) C dX5_sum_3 rfl (by decide) rfl ?_
  refine g_sub [2, 3, 1, 0] rfl ?_
  exact wb_X5_sum_4 C 1000 h a0 x1 (0 : Int32) (0 : Int32) oa0 hs hR
set_option maxHeartbeats 4000000 in
set_option maxRecDepth 100000 in
theorem wb_X5_count_113 {l : Launch} {E : Ep} {X : Fx} {res : Int32 × Hp} (C : CX E X RX5 cX5_count 2 3) (h : Hp) (s0 : Int32) (hs : b_X5_count_113  h s0 = some res) (hR : RT E X (some .int) (some (.int res.1)) res.2) : GG l E X h 113 [] [.int s0] := by
  have e9 := Option.some.inj hs
  subst e9
  exact g_iret C hR dX5_count_113
set_option maxHeartbeats 4000000 in
set_option maxRecDepth 100000 in
theorem w_X5_count (l : Launch) (E : Ep) (h : Hp) (a0 : Nat) (x1 : Int32) (res : Int32 × Hp) (oa0 : OKr a0 5) (hs : sh_X5_count h a0 x1 = some res) : MG l E yX5_count cX5_count 2 (some .int) 3 [.ref (ad E a0), .int x1] h (some (.int res.1)) res.2 := by
  refine MG.of (by decide) (Nat.le_of_ble_eq_true rfl) ?_
  intro X C hR
  have C : CX E X RX5 cX5_count 2 3 := C
  show GG l E X h 0 [(0, .ref (ad E a0)), (1, .int x1)] []
  refine g_aload_n C 0 dX5_count_0 rfl rfl ?_
  refine g_iconst C dX5_count_1 cc_i_0 ?_
  refine pf5_13 C oa0 lf_X5_68 dX5_count_2 ?_
  refine g_iload_n C 1 dX5_count_5 rfl rfl ?_
  refine g_case hs (fun hx6_0 hs => ?_) (fun hx6_0 hs => ?_)
  · refine g_tabIn (v := (0 : Int32)) (tgt := 48) C dX5_count_6 hx6_0 (by decide) (by decide) rfl (by decide) ?_
    refine g_aload_n C 0 dX5_count_48 rfl rfl ?_
    refine gf5_0 C oa0 lf_X5_71 dX5_count_49 ?_
    have e9 := Option.some.inj hs
    subst e9
    exact g_iret C hR dX5_count_52
  refine g_case hs (fun hx6_1 hs => ?_) (fun hx6_1 hs => ?_)
  · refine g_tabIn (v := (1 : Int32)) (tgt := 53) C dX5_count_6 hx6_1 (by decide) (by decide) rfl (by decide) ?_
    refine g_aload_n C 0 dX5_count_53 rfl rfl ?_
    refine gf5_1 C oa0 lf_X5_78 dX5_count_54 ?_
    have e9 := Option.some.inj hs
    subst e9
    exact g_iret C hR dX5_count_57
  refine g_case hs (fun hx6_2 hs => ?_) (fun hx6_2 hs => ?_)
  · refine g_tabIn (v := (2 : Int32)) (tgt := 58) C dX5_count_6 hx6_2 (by decide) (by decide) rfl (by decide) ?_
    refine g_aload_n C 0 dX5_count_58 rfl rfl ?_
    obtain ⟨v1, hcv1, hs⟩ := bnd hs
    refine g_cV (As := []) (rest := []) C (w_X5_all l E _ _ _ oa0 hcv1) mw_X5_all lm_X5_233 oa0 rfl (ce5 E _ (oa0).2) rfl (by decide) rfl (Nat.le_of_ble_eq_true rfl) dX5_count_59 rfl ?_
    have e9 := Option.some.inj hs
    subst e9
    exact g_iret C hR dX5_count_62
  refine g_case hs (fun hx6_3 hs => ?_) (fun hx6_3 hs => ?_)
  · refine g_tabIn (v := (3 : Int32)) (tgt := 63) C dX5_count_6 hx6_3 (by decide) (by decide) rfl (by decide) ?_
    refine g_aload_n C 0 dX5_count_63 rfl rfl ?_
    refine g_iconst C dX5_count_64 cc_i_1 ?_
    obtain ⟨v2, hcv2, hs⟩ := bnd hs
    refine g_cV (As := [.int (1 : Int32)]) (rest := []) C (w_X5_sum l E _ _ _ _ oa0 hcv2) mw_X5_sum lm_X5_304 oa0 rfl (ce5 E _ (oa0).2) rfl (by decide) rfl (Nat.le_of_ble_eq_true rfl) dX5_count_65 rfl ?_
    have e9 := Option.some.inj hs
    subst e9
    exact g_iret C hR dX5_count_68
  refine g_case hs (fun hx6_4 hs => ?_) (fun hx6_4 hs => ?_)
  · refine g_tabIn (v := (4 : Int32)) (tgt := 69) C dX5_count_6 hx6_4 (by decide) (by decide) rfl (by decide) ?_
    refine g_aload_n C 0 dX5_count_69 rfl rfl ?_
    refine g_iconst C dX5_count_70 cc_i_0 ?_
    obtain ⟨v3, hcv3, hs⟩ := bnd hs
    refine g_cV (As := [.int (0 : Int32)]) (rest := []) C (w_X5_sum l E _ _ _ _ oa0 hcv3) mw_X5_sum lm_X5_304 oa0 rfl (ce5 E _ (oa0).2) rfl (by decide) rfl (Nat.le_of_ble_eq_true rfl) dX5_count_71 rfl ?_
    have e9 := Option.some.inj hs
    subst e9
    exact g_iret C hR dX5_count_74
  refine g_case hs (fun hx6_5 hs => ?_) (fun hx6_5 hs => ?_)
  · refine g_tabIn (v := (5 : Int32)) (tgt := 75) C dX5_count_6 hx6_5 (by decide) (by decide) rfl (by decide) ?_
    refine g_aload_n C 0 dX5_count_75 rfl rfl ?_
    refine gf5_21 C oa0 lf_X5_155 dX5_count_76 ?_
    have e9 := Option.some.inj hs
    subst e9
    exact g_iret C hR dX5_count_79
  refine g_case hs (fun hx6_6 hs => ?_) (fun hx6_6 hs => ?_)
  · refine g_tabIn (v := (6 : Int32)) (tgt := 80) C dX5_count_6 hx6_6 (by decide) (by decide) rfl (by decide) ?_
    refine g_aload_n C 0 dX5_count_80 rfl rfl ?_
    refine gf5_34 C oa0 lf_X5_278 dX5_count_81 ?_
    have e9 := Option.some.inj hs
    subst e9
    exact g_iret C hR dX5_count_84
  refine g_tabOut (tgt := 85) C dX5_count_6 (by have z0 := ne_tz (z := 0) (by decide) hx6_0; have z1 := ne_tz (z := 1) (by decide) hx6_1; have z2 := ne_tz (z := 2) (by decide) hx6_2; have z3 := ne_tz (z := 3) (by decide) hx6_3; have z4 := ne_tz (z := 4) (by decide) hx6_4; have z5 := ne_tz (z := 5) (by decide) hx6_5; have z6 := ne_tz (z := 6) (by decide) hx6_6; omega) (by decide) ?_
  refine g_iload_n C 1 dX5_count_85 rfl rfl ?_
  refine g_i2l C dX5_count_86 ?_
  refine g_ldc2 C dX5_count_87 kk_X5_308 ?_
  refine g_ldc2 C dX5_count_90 kk_X5_310 ?_
  obtain ⟨v4, hcv4, hs⟩ := bnd hs
  refine g_cS (As := [.long (x1).toInt64, .long (11 : Int64), .long (16 : Int64)]) (rest := []) C (w_X5_in l E _ _ _ _ _ hcv4) mw_X5_in lm_X5_74 rfl (by decide) rfl (Nat.le_of_ble_eq_true rfl) dX5_count_93 rfl ?_
  refine g_if_eq (tgt := 111) C dX5_count_96 (by decide) hs (fun hs => ?_) (fun hs => ?_)
  · refine g_bipush C dX5_count_111 cc_b_m9 ?_
    refine g_sub [] rfl ?_
    exact wb_X5_count_113 C (wI h a0 13 (0 : Int32)) (-9 : Int32) hs hR
  · refine g_aload_n C 0 dX5_count_99 rfl rfl ?_
    refine gf5_14 C oa0 lf_X5_35 dX5_count_100 ?_
    refine g_iload_n C 1 dX5_count_103 rfl rfl ?_
    refine g_bipush C dX5_count_104 cc_b_10 ?_
    refine g_isub C dX5_count_106 ?_
    refine g_iald C (tg5_14 oa0) dX5_count_107 hs (fun v5 hs => ?_)
    refine g_goto (tgt := 113) C dX5_count_108 (by decide) ?_
    refine g_sub [] rfl ?_
    exact wb_X5_count_113 C (wI h a0 13 (0 : Int32)) v5 hs hR
