set_option maxHeartbeats 4000000 in
set_option maxRecDepth 100000 in
theorem wb_X5_land_45 {l : Launch} {E : Ep} {X : Fx} {res : Int32 × Hp} (C : CX E X RX5 cX5_land 2 4) (k20 : Hp → Nat → Option (Int32 × Hp)) (hk20 : ∀ (h : Hp) (a0 : Nat), OKr a0 5 → k20 h a0 = some res → RT E X (some .int) (some (.int res.1)) res.2 → GG l E X h 20 [(0, .ref (ad E a0))] []) (h : Hp) (a0 : Nat) (oa0 : OKr a0 5) (hs : b_X5_land_45 k20 h a0 = some res) (hR : RT E X (some .int) (some (.int res.1)) res.2) : GG l E X h 45 [(0, .ref (ad E a0))] [] := by
  refine g_aload_n C 0 dX5_land_45 rfl rfl ?_
  obtain ⟨h1, hch1, hs⟩ := bnd hs
  refine g_cV (As := []) (rest := []) C (w_X5_readStatement l E _ _ _ oa0 hch1) mw_X5_readStatement lm_X5_189 oa0 rfl (ce5 E _ (oa0).2) rfl (by decide) rfl (Nat.le_of_ble_eq_true rfl) dX5_land_46 rfl ?_
  refine g_goto (tgt := 20) C dX5_land_49 (by decide) ?_
  exact hk20 h1 a0 oa0 hs hR
set_option maxHeartbeats 4000000 in
set_option maxRecDepth 100000 in
theorem wb_X5_land_118 {l : Launch} {E : Ep} {X : Fx} {res : Int32 × Hp} (C : CX E X RX5 cX5_land 2 4) : ∀ (n : Nat) (h : Hp) (a0 : Nat) (x1 : Int32) (oa0 : OKr a0 5), b_X5_land_118  n h a0 x1 = some res → RT E X (some .int) (some (.int res.1)) res.2 → GG l E X h 118 [(0, .ref (ad E a0)), (1, .int x1)] [] := by
  intro n
  induction n with
  | zero =>
    intro h a0 x1 oa0
    intro hs
    exact absurd hs (by intro e; cases e)
  | succ n ih =>
    intro h a0 x1 oa0 hs hR
    have hk118 := ih
    have hs : f_X5_land_118  (b_X5_land_118  n) h a0 x1 = some res := hs
    generalize b_X5_land_118  n = k118 at hs hk118
    refine g_iload_n C 1 dX5_land_118 rfl rfl ?_
    refine g_aload_n C 0 dX5_land_119 rfl rfl ?_
    refine gf5_24 C oa0 lf_X5_175 dX5_land_120 ?_
    refine g_icmp_ge (tgt := 137) C dX5_land_123 (by decide) hs (fun hs => ?_) (fun hs => ?_)
    · refine g_aload_n C 0 dX5_land_137 rfl rfl ?_
      refine gf5_24 C oa0 lf_X5_175 dX5_land_138 ?_
      have e9 := Option.some.inj hs
      subst e9
      exact g_iret C hR dX5_land_141
    · refine g_aload_n C 0 dX5_land_126 rfl rfl ?_
      refine g_iload_n C 1 dX5_land_127 rfl rfl ?_
      obtain ⟨h1, hch1, hs⟩ := bnd hs
      refine g_cV (As := [.int x1]) (rest := []) C (w_X5_comes l E _ _ _ _ oa0 hch1) mw_X5_comes lm_X5_196 oa0 rfl (ce5 E _ (oa0).2) rfl (by decide) rfl (Nat.le_of_ble_eq_true rfl) dX5_land_128 rfl ?_
      refine g_iinc (lv' := [(1, .int (x1 + (1 : Int32))), (0, .ref (ad E a0))]) (j := 1) C dX5_land_131 rfl (cc_n_1 _) (by decide) rfl ?_
      refine g_goto (tgt := 118) C dX5_land_134 (by decide) ?_
      refine g_sub [1, 0] rfl ?_
      exact hk118 h1 a0 (x1 + (1 : Int32)) oa0 hs hR
set_option maxHeartbeats 4000000 in
set_option maxRecDepth 100000 in
theorem wb_X5_land_83 {l : Launch} {E : Ep} {X : Fx} {res : Int32 × Hp} (C : CX E X RX5 cX5_land 2 4) : ∀ (n : Nat) (h : Hp) (a0 : Nat) (x1 : Int32) (oa0 : OKr a0 5), b_X5_land_83  n h a0 x1 = some res → RT E X (some .int) (some (.int res.1)) res.2 → GG l E X h 83 [(0, .ref (ad E a0)), (1, .int x1)] [] := by
  intro n
  induction n with
  | zero =>
    intro h a0 x1 oa0
    intro hs
    exact absurd hs (by intro e; cases e)
  | succ n ih =>
    intro h a0 x1 oa0 hs hR
    have hk83 := ih
    have hs : f_X5_land_83  (b_X5_land_83  n) h a0 x1 = some res := hs
    generalize b_X5_land_83  n = k83 at hs hk83
    refine g_iload_n C 1 dX5_land_83 rfl rfl ?_
    refine g_aload_n C 0 dX5_land_84 rfl rfl ?_
    refine gf5_24 C oa0 lf_X5_175 dX5_land_85 ?_
    refine g_icmp_ge (tgt := 116) C dX5_land_88 (by decide) hs (fun hs => ?_) (fun hs => ?_)
    · refine g_iconst C dX5_land_116 cc_i_0 ?_
      refine g_istore_n (lv' := [(1, .int (0 : Int32)), (0, .ref (ad E a0))]) C dX5_land_117 rfl (by decide) rfl ?_
      refine g_sub [1, 0] rfl ?_
      exact wb_X5_land_118 C 1000 h a0 (0 : Int32) oa0 hs hR
    · refine g_aload_n C 0 dX5_land_91 rfl rfl ?_
      refine g_iload_n C 1 dX5_land_92 rfl rfl ?_
      obtain ⟨q1, hcq1, hs⟩ := bnd hs
      refine g_cV (As := [.int x1]) (rest := []) C (w_X5_isGood l E _ _ _ _ oa0 hcq1) mw_X5_isGood lm_X5_192 oa0 rfl (ce5 E _ (oa0).2) rfl (by decide) rfl (Nat.le_of_ble_eq_true rfl) dX5_land_93 rfl ?_
      refine g_if_ne (tgt := 110) C dX5_land_96 (by decide) hs (fun hs => ?_) (fun hs => ?_)
      · refine g_sipush C dX5_land_99 cc_s_m2000 ?_
        refine g_aload_n C 0 dX5_land_102 rfl rfl ?_
        refine gf5_25 C oa0 lf_X5_47 dX5_land_103 ?_
        refine g_iload_n C 1 dX5_land_106 rfl rfl ?_
        refine g_iald C (tg5_25 oa0) dX5_land_107 hs (fun v2 hs => ?_)
        refine g_isub C dX5_land_108 ?_
        have e9 := Option.some.inj hs
        subst e9
        exact g_iret C hR dX5_land_109
      · refine g_iinc (lv' := [(1, .int (x1 + (1 : Int32))), (0, .ref (ad E a0))]) (j := 1) C dX5_land_110 rfl (cc_n_1 _) (by decide) rfl ?_
        refine g_goto (tgt := 83) C dX5_land_113 (by decide) ?_
        refine g_sub [1, 0] rfl ?_
        exact hk83 q1.2 a0 (x1 + (1 : Int32)) oa0 hs hR
set_option maxHeartbeats 4000000 in
set_option maxRecDepth 100000 in
theorem wb_X5_land_52 {l : Launch} {E : Ep} {X : Fx} {res : Int32 × Hp} (C : CX E X RX5 cX5_land 2 4) (h : Hp) (a0 : Nat) (oa0 : OKr a0 5) (hs : b_X5_land_52  h a0 = some res) (hR : RT E X (some .int) (some (.int res.1)) res.2) : GG l E X h 52 [(0, .ref (ad E a0))] [] := by
  refine g_aload_n C 0 dX5_land_52 rfl rfl ?_
  refine g_iconst C dX5_land_53 cc_i_0 ?_
  refine pf5_21 C oa0 lf_X5_155 dX5_land_54 ?_
  refine g_aload_n C 0 dX5_land_57 rfl rfl ?_
  refine gf5_23 C oa0 lf_X5_161 dX5_land_58 ?_
  refine g_if_eq (tgt := 73) C dX5_land_61 (by decide) hs (fun hs => ?_) (fun hs => ?_)
  · refine g_aload_n C 0 dX5_land_73 rfl rfl ?_
    refine g_aload_n C 0 dX5_land_74 rfl rfl ?_
    refine gf5_0 C oa0 lf_X5_71 dX5_land_75 ?_
    refine pf5_28 C oa0 lf_X5_186 dX5_land_78 ?_
    refine g_iconst C dX5_land_81 cc_i_0 ?_
    refine g_istore_n (lv' := [(1, .int (0 : Int32)), (0, .ref (ad E a0))]) C dX5_land_82 rfl (by decide) rfl ?_
    refine g_sub [1, 0] rfl ?_
    exact wb_X5_land_83 C 1000 (wI (wI h a0 21 (0 : Int32)) a0 28 ((wI h a0 21 (0 : Int32)).1 a0 0)) a0 (0 : Int32) oa0 hs hR
  · refine g_sipush C dX5_land_64 cc_s_m1000 ?_
    refine g_aload_n C 0 dX5_land_67 rfl rfl ?_
    refine gf5_22 C oa0 lf_X5_158 dX5_land_68 ?_
    refine g_isub C dX5_land_71 ?_
    have e9 := Option.some.inj hs
    subst e9
    exact g_iret C hR dX5_land_72
set_option maxHeartbeats 4000000 in
set_option maxRecDepth 100000 in
theorem wb_X5_land_20 {l : Launch} {E : Ep} {X : Fx} {res : Int32 × Hp} (C : CX E X RX5 cX5_land 2 4) : ∀ (n : Nat) (h : Hp) (a0 : Nat) (oa0 : OKr a0 5), b_X5_land_20  n h a0 = some res → RT E X (some .int) (some (.int res.1)) res.2 → GG l E X h 20 [(0, .ref (ad E a0))] [] := by
  intro n
  induction n with
  | zero =>
    intro h a0 oa0
    intro hs
    exact absurd hs (by intro e; cases e)
  | succ n ih =>
    intro h a0 oa0 hs hR
    have hk20 := ih
    have hs : f_X5_land_20  (b_X5_land_20  n) h a0 = some res := hs
    generalize b_X5_land_20  n = k20 at hs hk20
    refine g_aload_n C 0 dX5_land_20 rfl rfl ?_
    refine gf5_23 C oa0 lf_X5_161 dX5_land_21 ?_
    refine g_if_ne (tgt := 52) C dX5_land_24 (by decide) hs (fun hs => ?_) (fun hs => ?_)
    · refine g_aload_n C 0 dX5_land_27 rfl rfl ?_
      refine gf5_24 C oa0 lf_X5_175 dX5_land_28 ?_
      refine g_if_eq (tgt := 45) C dX5_land_31 (by decide) hs (fun hs => ?_) (fun hs => ?_)
      · exact wb_X5_land_45 C k20 hk20 h a0 oa0 hs hR
      · refine g_aload_n C 0 dX5_land_34 rfl rfl ?_
        refine gf5_22 C oa0 lf_X5_158 dX5_land_35 ?_
        refine g_aload_n C 0 dX5_land_38 rfl rfl ?_
        refine gf5_21 C oa0 lf_X5_155 dX5_land_39 ?_
        refine g_icmp_ge (tgt := 52) C dX5_land_42 (by decide) hs (fun hs => ?_) (fun hs => ?_)
        · exact wb_X5_land_52 C h a0 oa0 hs hR
        · exact wb_X5_land_45 C k20 hk20 h a0 oa0 hs hR
    · exact wb_X5_land_52 C h a0 oa0 hs hR
set_option maxHeartbeats 4000000 in
set_option maxRecDepth 100000 in
theorem w_X5_land (l : Launch) (E : Ep) (h : Hp) (a0 : Nat) (res : Int32 × Hp) (oa0 : OKr a0 5) (hs : sh_X5_land h a0 = some res) : MG l E yX5_land cX5_land 2 (some .int) 4 [.ref (ad E a0)] h (some (.int res.1)) res.2 := by
  refine MG.of (by decide) (Nat.le_of_ble_eq_true rfl) ?_
  intro X C hR
  have C : CX E X RX5 cX5_land 2 4 := C
  show GG l E X h 0 [(0, .ref (ad E a0))] []
  refine g_aload_n C 0 dX5_land_0 rfl rfl ?_
  refine g_iconst C dX5_land_1 cc_i_0 ?_
  refine pf5_13 C oa0 lf_X5_68 dX5_land_2 ?_
  refine g_aload_n C 0 dX5_land_5 rfl rfl ?_
  refine g_iconst C dX5_land_6 cc_i_0 ?_
  refine pf5_22 C oa0 lf_X5_158 dX5_land_7 ?_
  refine g_aload_n C 0 dX5_land_10 rfl rfl ?_
  refine g_iconst C dX5_land_11 cc_i_0 ?_
  refine pf5_23 C (Or.inl rfl) oa0 lf_X5_161 dX5_land_12 ?_
  refine g_aload_n C 0 dX5_land_15 rfl rfl ?_
  refine g_iconst C dX5_land_16 cc_i_0 ?_
  refine pf5_24 C oa0 lf_X5_175 dX5_land_17 ?_
  exact wb_X5_land_20 C 1000 (wI (wI (wI (wI h a0 13 (0 : Int32)) a0 22 (0 : Int32)) a0 23 (0 : Int32)) a0 24 (0 : Int32)) a0 oa0 hs hR
set_option maxHeartbeats 4000000 in
set_option maxRecDepth 100000 in
theorem w_X5_isOne (l : Launch) (E : Ep) (h : Hp) (a0 : Nat) (x1 : Int32) (res : Int32) (oa0 : OKr a0 5) (hs : sh_X5_isOne h a0 x1 = some res) : MG l E yX5_isOne cX5_isOne 2 (some .boolean) 1 [.ref (ad E a0), .int x1] h (some (.int res)) h := by
  refine MG.of (by decide) (Nat.le_of_ble_eq_true rfl) ?_
  intro X C hR
  have C : CX E X RX5 cX5_isOne 2 1 := C
  show GG l E X h 0 [(0, .ref (ad E a0)), (1, .int x1)] []
  refine g_iload_n C 1 dX5_isOne_0 rfl rfl ?_
  refine g_i2l C dX5_isOne_1 ?_
  refine g_lconst (v := (0 : Int64)) C dX5_isOne_2 (by decide) ?_
  refine g_aload_n C 0 dX5_isOne_3 rfl rfl ?_
  refine gf5_0 C oa0 lf_X5_71 dX5_isOne_4 ?_
  refine g_iconst C dX5_isOne_7 cc_i_1 ?_
  refine g_isub C dX5_isOne_8 ?_
  refine g_i2l C dX5_isOne_9 ?_
  obtain ⟨v1, hcv1, hs⟩ := bnd hs
  refine g_cS (As := [.long (x1).toInt64, .long (0 : Int64), .long (((h.1 a0 0) - (1 : Int32))).toInt64]) (rest := []) C (w_X5_in l E _ _ _ _ _ hcv1) mw_X5_in lm_X5_74 rfl (by decide) rfl (Nat.le_of_ble_eq_true rfl) dX5_isOne_10 rfl ?_
  obtain ⟨v2, hbv2, hs⟩ := bnd hs
  obtain ⟨hzv2, hyv2⟩ := bol_v hbv2
  have e9 := Option.some.inj hs
  subst e9
  refine g_top hyv2 ?_
  exact g_zret C hzv2 hR dX5_isOne_13
set_option maxHeartbeats 4000000 in
set_option maxRecDepth 100000 in
theorem wb_X5_gift_38 {l : Launch} {E : Ep} {X : Fx} {res : Int32} (C : CX E X RX5 cX5_gift 4 0) (h : Hp) (s0 : Int32) (hs : b_X5_gift_38  h s0 = some res) (hR : RT E X (some .int) (some (.int res)) h) : GG l E X h 38 [] [.int s0] := by
  have e9 := Option.some.inj hs
  subst e9
  exact g_iret C hR dX5_gift_38
set_option maxHeartbeats 4000000 in
set_option maxRecDepth 100000 in
theorem wb_X5_gift_15 {l : Launch} {E : Ep} {X : Fx} {res : Int32} (C : CX E X RX5 cX5_gift 4 0) (h : Hp) (hs : b_X5_gift_15  h  = some res) (hR : RT E X (some .int) (some (.int res)) h) : GG l E X h 15 [] [] := by
  refine g_iconst C dX5_gift_15 cc_i_0 ?_
  refine g_goto (tgt := 38) C dX5_gift_16 (by decide) ?_
  exact wb_X5_gift_38 C h (0 : Int32) hs hR
set_option maxHeartbeats 4000000 in
set_option maxRecDepth 100000 in
theorem w_X5_gift (l : Launch) (E : Ep) (h : Hp) (a0 : Nat) (x1 : Int32) (x2 : Int32) (x3 : Int32) (res : Int32) (oa0 : OKr a0 5) (hs : sh_X5_gift h a0 x1 x2 x3 = some res) : MG l E yX5_gift cX5_gift 4 (some .int) 0 [.ref (ad E a0), .int x1, .int x2, .int x3] h (some (.int res)) h := by
  refine MG.of (by decide) (Nat.le_of_ble_eq_true rfl) ?_
  intro X C hR
  have C : CX E X RX5 cX5_gift 4 0 := C
  show GG l E X h 0 [(0, .ref (ad E a0)), (1, .int x1), (2, .int x2), (3, .int x3)] []
  refine g_iload_n C 1 dX5_gift_0 rfl rfl ?_
  refine g_if_lt (tgt := 15) C dX5_gift_1 (by decide) hs (fun hs => ?_) (fun hs => ?_)
  · refine g_sub [] rfl ?_
    exact wb_X5_gift_15 C h hs hR
  · refine g_iload_n C 1 dX5_gift_4 rfl rfl ?_
    refine g_aload_n C 0 dX5_gift_5 rfl rfl ?_
    refine gf5_1 C oa0 lf_X5_78 dX5_gift_6 ?_
    refine g_bipush C dX5_gift_9 cc_b_10 ?_
    refine g_isub C dX5_gift_11 ?_
    refine g_icmp_ge (tgt := 19) C dX5_gift_12 (by decide) hs (fun hs => ?_) (fun hs => ?_)
    · refine g_aload_n C 0 dX5_gift_19 rfl rfl ?_
      refine gf5_11 C oa0 lf_X5_32 dX5_gift_20 ?_
      refine g_bipush C dX5_gift_23 cc_b_42 ?_
      refine g_iload_n C 1 dX5_gift_25 rfl rfl ?_
      refine g_bipush C dX5_gift_26 cc_b_11 ?_
      refine g_iremC C dX5_gift_28 (by decide) ?_
      refine g_imul C dX5_gift_29 ?_
      refine g_bipush C dX5_gift_30 cc_b_7 ?_
      refine g_iload_n C 2 dX5_gift_32 rfl rfl ?_
      refine g_imul C dX5_gift_33 ?_
      refine g_iadd C dX5_gift_34 ?_
      refine g_iload_n C 3 dX5_gift_35 rfl rfl ?_
      refine g_iadd C dX5_gift_36 ?_
      refine g_iald C (tg5_11 oa0) dX5_gift_37 hs (fun v1 hs => ?_)
      refine g_sub [] rfl ?_
      exact wb_X5_gift_38 C h v1 hs hR
    · refine g_sub [] rfl ?_
      exact wb_X5_gift_15 C h hs hR
set_option maxHeartbeats 4000000 in
set_option maxRecDepth 100000 in
theorem wb_X5_got_5 {l : Launch} {E : Ep} {X : Fx} {res : Int32} (C : CX E X RX5 cX5_got 5 1) : ∀ (n : Nat) (h : Hp) (a0 : Nat) (x1 : Int32) (x2 : Int32) (x3 : Int32) (x4 : Int32) (oa0 : OKr a0 5), b_X5_got_5  n h a0 x1 x2 x3 x4 = some res → RT E X (some .int) (some (.int res)) h → GG l E X h 5 [(0, .ref (ad E a0)), (1, .int x1), (2, .int x2), (3, .int x3), (4, .int x4)] [] := by
  intro n
  induction n with
  | zero =>
    intro h a0 x1 x2 x3 x4 oa0
    intro hs
    exact absurd hs (by intro e; cases e)
  | succ n ih =>
    intro h a0 x1 x2 x3 x4 oa0 hs hR
    have hk5 := ih
    have hs : f_X5_got_5  (b_X5_got_5  n) h a0 x1 x2 x3 x4 = some res := hs
    generalize b_X5_got_5  n = k5 at hs hk5
    refine g_iload C 4 dX5_got_5 rfl ?_
    refine g_aload_n C 0 dX5_got_7 rfl rfl ?_
    refine gf5_0 C oa0 lf_X5_71 dX5_got_8 ?_
    refine g_icmp_ge (tgt := 31) C dX5_got_11 (by decide) hs (fun hs => ?_) (fun hs => ?_)
    · refine g_iload_n C 3 dX5_got_31 rfl rfl ?_
      have e9 := Option.some.inj hs
      subst e9
      exact g_iret C hR dX5_got_32
    · refine g_iload_n C 3 dX5_got_14 rfl rfl ?_
      refine g_aload_n C 0 dX5_got_15 rfl rfl ?_
      refine g_iload_n C 1 dX5_got_16 rfl rfl ?_
      refine g_iload C 4 dX5_got_17 rfl ?_
      refine g_iload_n C 2 dX5_got_19 rfl rfl ?_
      obtain ⟨v1, hcv1, hs⟩ := bnd hs
      refine g_cV (As := [.int x1, .int x4, .int x2]) (rest := [.int x3]) C (w_X5_gift l E _ _ _ _ _ _ oa0 hcv1) mw_X5_gift lm_X5_81 oa0 rfl (ce5 E _ (oa0).2) rfl (by decide) rfl (Nat.le_of_ble_eq_true rfl) dX5_got_20 rfl ?_
      refine g_iadd C dX5_got_23 ?_
      refine g_istore_n (lv' := [(3, .int (x3 + v1)), (0, .ref (ad E a0)), (1, .int x1), (2, .int x2), (4, .int x4)]) C dX5_got_24 rfl (by decide) rfl ?_
      refine g_iinc (lv' := [(4, .int (x4 + (1 : Int32))), (3, .int (x3 + v1)), (0, .ref (ad E a0)), (1, .int x1), (2, .int x2)]) (j := 4) C dX5_got_25 rfl (cc_n_1 _) (by decide) rfl ?_
      refine g_goto (tgt := 5) C dX5_got_28 (by decide) ?_
      refine g_sub [2, 3, 4, 1, 0] rfl ?_
      exact hk5 h a0 x1 x2 (x3 + v1) (x4 + (1 : Int32)) oa0 hs hR
set_option maxHeartbeats 4000000 in
set_option maxRecDepth 100000 in
theorem w_X5_got (l : Launch) (E : Ep) (h : Hp) (a0 : Nat) (x1 : Int32) (x2 : Int32) (res : Int32) (oa0 : OKr a0 5) (hs : sh_X5_got h a0 x1 x2 = some res) : MG l E yX5_got cX5_got 5 (some .int) 1 [.ref (ad E a0), .int x1, .int x2] h (some (.int res)) h := by
  refine MG.of (by decide) (Nat.le_of_ble_eq_true rfl) ?_
  intro X C hR
  have C : CX E X RX5 cX5_got 5 1 := C
  show GG l E X h 0 [(0, .ref (ad E a0)), (1, .int x1), (2, .int x2)] []
  refine g_iconst C dX5_got_0 cc_i_0 ?_
  refine g_istore_n (lv' := [(3, .int (0 : Int32)), (0, .ref (ad E a0)), (1, .int x1), (2, .int x2)]) C dX5_got_1 rfl (by decide) rfl ?_
  refine g_iconst C dX5_got_2 cc_i_0 ?_
  refine g_istore (lv' := [(4, .int (0 : Int32)), (3, .int (0 : Int32)), (0, .ref (ad E a0)), (1, .int x1), (2, .int x2)]) C dX5_got_3 (by decide) rfl ?_
  refine g_sub [2, 3, 4, 1, 0] rfl ?_
  exact wb_X5_got_5 C 1000 h a0 x1 x2 (0 : Int32) (0 : Int32) oa0 hs hR
set_option maxHeartbeats 4000000 in
set_option maxRecDepth 100000 in
theorem wb_X5_cameBack_45 {l : Launch} {E : Ep} {X : Fx} {res : Int32} (C : CX E X RX5 cX5_cameBack 6 1) (k11 : Hp → Nat → Int32 → Int32 → Int32 → Int32 → Int32 → Option (Int32)) (hk11 : ∀ (h : Hp) (a0 : Nat) (x1 : Int32) (x2 : Int32) (x3 : Int32) (x4 : Int32) (x5 : Int32), OKr a0 5 → k11 h a0 x1 x2 x3 x4 x5 = some res → RT E X (some .boolean) (some (.int res)) h → GG l E X h 11 [(0, .ref (ad E a0)), (1, .int x1), (2, .int x2), (3, .int x3), (4, .int x4), (5, .int x5)] []) (h : Hp) (a0 : Nat) (x1 : Int32) (x2 : Int32) (x3 : Int32) (x5 : Int32) (s0 : Int32) (oa0 : OKr a0 5) (hs : b_X5_cameBack_45 k11 h a0 x1 x2 x3 x5 s0 = some res) (hR : RT E X (some .boolean) (some (.int res)) h) : GG l E X h 45 [(0, .ref (ad E a0)), (1, .int x1), (2, .int x2), (3, .int x3), (5, .int x5)] [.int s0] := by
  refine g_istore (lv' := [(4, .int s0), (0, .ref (ad E a0)), (1, .int x1), (2, .int x2), (3, .int x3), (5, .int x5)]) C dX5_cameBack_45 (by decide) rfl ?_
  refine g_iinc (lv' := [(5, .int (x5 + (1 : Int32))), (4, .int s0), (0, .ref (ad E a0)), (1, .int x1), (2, .int x2), (3, .int x3)]) (j := 5) C dX5_cameBack_47 rfl (cc_n_1 _) (by decide) rfl ?_
  refine g_goto (tgt := 11) C dX5_cameBack_50 (by decide) ?_
  refine g_sub [2, 3, 4, 5, 1, 0] rfl ?_
  exact hk11 h a0 x1 x2 x3 s0 (x5 + (1 : Int32)) oa0 hs hR
set_option maxHeartbeats 4000000 in
set_option maxRecDepth 100000 in
theorem wb_X5_cameBack_40 {l : Launch} {E : Ep} {X : Fx} {res : Int32} (C : CX E X RX5 cX5_cameBack 6 1) (k11 : Hp → Nat → Int32 → Int32 → Int32 → Int32 → Int32 → Option (Int32)) (hk11 : ∀ (h : Hp) (a0 : Nat) (x1 : Int32) (x2 : Int32) (x3 : Int32) (x4 : Int32) (x5 : Int32), OKr a0 5 → k11 h a0 x1 x2 x3 x4 x5 = some res → RT E X (some .boolean) (some (.int res)) h → GG l E X h 11 [(0, .ref (ad E a0)), (1, .int x1), (2, .int x2), (3, .int x3), (4, .int x4), (5, .int x5)] []) (h : Hp) (a0 : Nat) (x1 : Int32) (x2 : Int32) (x3 : Int32) (x5 : Int32) (oa0 : OKr a0 5) (hs : b_X5_cameBack_40 k11 h a0 x1 x2 x3 x5 = some res) (hR : RT E X (some .boolean) (some (.int res)) h) : GG l E X h 40 [(0, .ref (ad E a0)), (1, .int x1), (2, .int x2), (3, .int x3), (5, .int x5)] [] := by
  refine g_iconst C dX5_cameBack_40 cc_i_1 ?_
  refine g_goto (tgt := 45) C dX5_cameBack_41 (by decide) ?_
  exact wb_X5_cameBack_45 C k11 hk11 h a0 x1 x2 x3 x5 (1 : Int32) oa0 hs hR
set_option maxHeartbeats 4000000 in
set_option maxRecDepth 100000 in
theorem wb_X5_cameBack_53 {l : Launch} {E : Ep} {X : Fx} {res : Int32} (C : CX E X RX5 cX5_cameBack 6 1) (h : Hp) (x4 : Int32) (hs : b_X5_cameBack_53  h x4 = some res) (hR : RT E X (some .boolean) (some (.int res)) h) : GG l E X h 53 [(4, .int x4)] [] := by
  refine g_iload C 0 dX5_cameBack_53 rfl ?_
  obtain ⟨v1, hbv1, hs⟩ := bnd hs
  obtain ⟨hzv1, hyv1⟩ := bol_v hbv1
  have e9 := Option.some.inj hs
  subst e9
  refine g_top hyv1 ?_
  exact g_zret C hzv1 hR dX5_cameBack_55
set_option maxHeartbeats 4000000 in
set_option maxRecDepth 100000 in
theorem wb_X5_cameBack_11 {l : Launch} {E : Ep} {X : Fx} {res : Int32} (C : CX E X RX5 cX5_cameBack 6 1) : ∀ (n : Nat) (h : Hp) (a0 : Nat) (x1 : Int32) (x2 : Int32) (x3 : Int32) (x4 : Int32) (x5 : Int32) (oa0 : OKr a0 5), b_X5_cameBack_11  n h a0 x1 x2 x3 x4 x5 = some res → RT E X (some .boolean) (some (.int res)) h → GG l E X h 11 [(0, .ref (ad E a0)), (1, .int x1), (2, .int x2), (3, .int x3), (4, .int x4), (5, .int x5)] [] := by
  intro n
  induction n with
  | zero =>
    intro h a0 x1 x2 x3 x4 x5 oa0
    intro hs
    exact absurd hs (by intro e; cases e)
  | succ n ih =>
    intro h a0 x1 x2 x3 x4 x5 oa0 hs hR
    have hk11 := ih
    have hs : f_X5_cameBack_11  (b_X5_cameBack_11  n) h a0 x1 x2 x3 x4 x5 = some res := hs
    generalize b_X5_cameBack_11  n = k11 at hs hk11
    refine g_iload C 5 dX5_cameBack_11 rfl ?_
    refine g_iload_n C 1 dX5_cameBack_13 rfl rfl ?_
    refine g_icmp_gt (tgt := 53) C dX5_cameBack_14 (by decide) hs (fun hs => ?_) (fun hs => ?_)
    · refine g_sub [4] rfl ?_
      exact wb_X5_cameBack_53 C h x4 hs hR
    · refine g_aload_n C 0 dX5_cameBack_17 rfl rfl ?_
      refine gf5_4 C oa0 lf_X5_85 dX5_cameBack_18 ?_
      refine g_if_le (tgt := 53) C dX5_cameBack_21 (by decide) hs (fun hs => ?_) (fun hs => ?_)
      · refine g_sub [4] rfl ?_
        exact wb_X5_cameBack_53 C h x4 hs hR
      · refine g_iload C 4 dX5_cameBack_24 rfl ?_
        refine g_if_ne (tgt := 40) C dX5_cameBack_26 (by decide) hs (fun hs => ?_) (fun hs => ?_)
        · refine g_aload_n C 0 dX5_cameBack_29 rfl rfl ?_
          refine g_iload C 5 dX5_cameBack_30 rfl ?_
          refine g_iload_n C 3 dX5_cameBack_32 rfl rfl ?_
          refine g_iload_n C 2 dX5_cameBack_33 rfl rfl ?_
          obtain ⟨v1, hcv1, hs⟩ := bnd hs
          refine g_cV (As := [.int x5, .int x3, .int x2]) (rest := []) C (w_X5_gift l E _ _ _ _ _ _ oa0 hcv1) mw_X5_gift lm_X5_81 oa0 rfl (ce5 E _ (oa0).2) rfl (by decide) rfl (Nat.le_of_ble_eq_true rfl) dX5_cameBack_34 rfl ?_
          refine g_if_le (tgt := 44) C dX5_cameBack_37 (by decide) hs (fun hs => ?_) (fun hs => ?_)
          · refine g_iconst C dX5_cameBack_44 cc_i_0 ?_
            refine g_sub [0, 1, 2, 3, 5] rfl ?_
            exact wb_X5_cameBack_45 C k11 hk11 h a0 x1 x2 x3 x5 (0 : Int32) oa0 hs hR
          · refine g_sub [0, 1, 2, 3, 5] rfl ?_
            exact wb_X5_cameBack_40 C k11 hk11 h a0 x1 x2 x3 x5 oa0 hs hR
        · refine g_sub [0, 1, 2, 3, 5] rfl ?_
          exact wb_X5_cameBack_40 C k11 hk11 h a0 x1 x2 x3 x5 oa0 hs hR
set_option maxHeartbeats 4000000 in
set_option maxRecDepth 100000 in
theorem w_X5_cameBack (l : Launch) (E : Ep) (h : Hp) (a0 : Nat) (x1 : Int32) (x2 : Int32) (x3 : Int32) (res : Int32) (oa0 : OKr a0 5) (hs : sh_X5_cameBack h a0 x1 x2 x3 = some res) : MG l E yX5_cameBack cX5_cameBack 6 (some .boolean) 1 [.ref (ad E a0), .int x1, .int x2, .int x3] h (some (.int res)) h := by
  refine MG.of (by decide) (Nat.le_of_ble_eq_true rfl) ?_
  intro X C hR
  have C : CX E X RX5 cX5_cameBack 6 1 := C
  show GG l E X h 0 [(0, .ref (ad E a0)), (1, .int x1), (2, .int x2), (3, .int x3)] []
  refine g_iconst C dX5_cameBack_0 cc_i_0 ?_
  refine g_istore (lv' := [(4, .int (0 : Int32)), (0, .ref (ad E a0)), (1, .int x1), (2, .int x2), (3, .int x3)]) C dX5_cameBack_1 (by decide) rfl ?_
  refine g_iload_n C 2 dX5_cameBack_3 rfl rfl ?_
  refine g_aload_n C 1 dX5_cameBack_4 rfl rfl ?_
  refine gf5_4 C oa0 lf_X5_85 dX5_cameBack_5 ?_
  refine g_isub C dX5_cameBack_8 ?_
  refine g_istore (lv' := [(5, .int (x1 - (h.1 a0 4))), (4, .int (0 : Int32)), (0, .ref (ad E a0)), (1, .int x1), (2, .int x2), (3, .int x3)]) C dX5_cameBack_9 (by decide) rfl ?_
  refine g_sub [2, 3, 4, 5, 1, 0] rfl ?_
  exact wb_X5_cameBack_11 C 1000 h a0 x1 x2 x3 (0 : Int32) (x1 - (h.1 a0 4)) oa0 hs hR
set_option maxHeartbeats 4000000 in
set_option maxRecDepth 100000 in
theorem wb_X5_counted_54 {l : Launch} {E : Ep} {X : Fx} {res : Int32} (C : CX E X RX5 cX5_counted 6 2) (k12 : Hp → Nat → Int32 → Int32 → Int32 → Int32 → Option (Int32)) (hk12 : ∀ (h : Hp) (a0 : Nat) (x1 : Int32) (x2 : Int32) (x3 : Int32) (x4 : Int32), OKr a0 5 → k12 h a0 x1 x2 x3 x4 = some res → RT E X (some .int) (some (.int res)) h → GG l E X h 12 [(0, .ref (ad E a0)), (1, .int x1), (2, .int x2), (3, .int x3), (4, .int x4)] []) (h : Hp) (a0 : Nat) (x1 : Int32) (x2 : Int32) (x4 : Int32) (s0 : Int32) (s1 : Int32) (oa0 : OKr a0 5) (hs : b_X5_counted_54 k12 h a0 x1 x2 x4 s0 s1 = some res) (hR : RT E X (some .int) (some (.int res)) h) : GG l E X h 54 [(0, .ref (ad E a0)), (1, .int x1), (2, .int x2), (4, .int x4)] [.int s1, .int s0] := by
  refine g_iadd C dX5_counted_54 ?_
  refine g_istore_n (lv' := [(3, .int (s0 + s1)), (0, .ref (ad E a0)), (1, .int x1), (2, .int x2), (4, .int x4)]) C dX5_counted_55 rfl (by decide) rfl ?_
  refine g_iinc (lv' := [(4, .int (x4 + (1 : Int32))), (3, .int (s0 + s1)), (0, .ref (ad E a0)), (1, .int x1), (2, .int x2)]) (j := 4) C dX5_counted_56 rfl (cc_n_1 _) (by decide) rfl ?_
  refine g_goto (tgt := 12) C dX5_counted_59 (by decide) ?_
  refine g_sub [2, 3, 4, 1, 0] rfl ?_
  exact hk12 h a0 x1 x2 (s0 + s1) (x4 + (1 : Int32)) oa0 hs hR
set_option maxHeartbeats 4000000 in
set_option maxRecDepth 100000 in
theorem wb_X5_counted_53 {l : Launch} {E : Ep} {X : Fx} {res : Int32} (C : CX E X RX5 cX5_counted 6 2) (k12 : Hp → Nat → Int32 → Int32 → Int32 → Int32 → Option (Int32)) (hk12 : ∀ (h : Hp) (a0 : Nat) (x1 : Int32) (x2 : Int32) (x3 : Int32) (x4 : Int32), OKr a0 5 → k12 h a0 x1 x2 x3 x4 = some res → RT E X (some .int) (some (.int res)) h → GG l E X h 12 [(0, .ref (ad E a0)), (1, .int x1), (2, .int x2), (3, .int x3), (4, .int x4)] []) (h : Hp) (a0 : Nat) (x1 : Int32) (x2 : Int32) (x4 : Int32) (s0 : Int32) (oa0 : OKr a0 5) (hs : b_X5_counted_53 k12 h a0 x1 x2 x4 s0 = some res) (hR : RT E X (some .int) (some (.int res)) h) : GG l E X h 53 [(0, .ref (ad E a0)), (1, .int x1), (2, .int x2), (4, .int x4)] [.int s0] := by
  refine g_iconst C dX5_counted_53 cc_i_0 ?_
  exact wb_X5_counted_54 C k12 hk12 h a0 x1 x2 x4 s0 (0 : Int32) oa0 hs hR
set_option maxHeartbeats 4000000 in
set_option maxRecDepth 100000 in
theorem wb_X5_counted_12 {l : Launch} {E : Ep} {X : Fx} {res : Int32} (C : CX E X RX5 cX5_counted 6 2) : ∀ (n : Nat) (h : Hp) (a0 : Nat) (x1 : Int32) (x2 : Int32) (x3 : Int32) (x4 : Int32) (oa0 : OKr a0 5), b_X5_counted_12  n h a0 x1 x2 x3 x4 = some res → RT E X (some .int) (some (.int res)) h → GG l E X h 12 [(0, .ref (ad E a0)), (1, .int x1), (2, .int x2), (3, .int x3), (4, .int x4)] [] := by
  intro n
  induction n with
  | zero =>
    intro h a0 x1 x2 x3 x4 oa0
    intro hs
    exact absurd hs (by intro e; cases e)
  | succ n ih =>
    intro h a0 x1 x2 x3 x4 oa0 hs hR
    have hk12 := ih
    have hs : f_X5_counted_12  (b_X5_counted_12  n) h a0 x1 x2 x3 x4 = some res := hs
    generalize b_X5_counted_12  n = k12 at hs hk12
    refine g_iload C 4 dX5_counted_12 rfl ?_
    refine g_aload_n C 0 dX5_counted_14 rfl rfl ?_
    refine gf5_0 C oa0 lf_X5_71 dX5_counted_15 ?_
    refine g_icmp_ge (tgt := 62) C dX5_counted_18 (by decide) hs (fun hs => ?_) (fun hs => ?_)
    · refine g_iload_n C 3 dX5_counted_62 rfl rfl ?_
      have e9 := Option.some.inj hs
      subst e9
      exact g_iret C hR dX5_counted_63
    · refine g_aload_n C 0 dX5_counted_21 rfl rfl ?_
      refine g_iload_n C 1 dX5_counted_22 rfl rfl ?_
      refine g_iload_n C 2 dX5_counted_23 rfl rfl ?_
      refine g_iload C 4 dX5_counted_24 rfl ?_
      obtain ⟨v1, hcv1, hs⟩ := bnd hs
      refine g_cV (As := [.int x1, .int x2, .int x4]) (rest := []) C (w_X5_gift l E _ _ _ _ _ _ oa0 hcv1) mw_X5_gift lm_X5_81 oa0 rfl (ce5 E _ (oa0).2) rfl (by decide) rfl (Nat.le_of_ble_eq_true rfl) dX5_counted_26 rfl ?_
      refine g_istore (lv' := [(5, .int v1), (0, .ref (ad E a0)), (1, .int x1), (2, .int x2), (3, .int x3), (4, .int x4)]) C dX5_counted_29 (by decide) rfl ?_
      refine g_iload_n C 4 dX5_counted_31 rfl rfl ?_
      refine g_iload C 0 dX5_counted_32 rfl ?_
      refine g_if_le (tgt := 53) C dX5_counted_34 (by decide) hs (fun hs => ?_) (fun hs => ?_)
      · refine g_sub [1, 2, 3, 5] rfl ?_
        exact wb_X5_counted_53 C k12 hk12 h a0 x1 x2 x4 x3 oa0 hs hR
      · refine g_aload_n C 1 dX5_counted_37 rfl rfl ?_
        refine g_iload_n C 2 dX5_counted_38 rfl rfl ?_
        refine g_iload_n C 3 dX5_counted_39 rfl rfl ?_
        refine g_iload C 5 dX5_counted_40 rfl ?_
        obtain ⟨v2, hcv2, hs⟩ := bnd hs
        refine g_cV (As := [.int x1, .int x2, .int x4]) (rest := [.int x3]) C (w_X5_cameBack l E _ _ _ _ _ _ oa0 hcv2) mw_X5_cameBack lm_X5_88 oa0 rfl (ce5 E _ (oa0).2) rfl (by decide) rfl (Nat.le_of_ble_eq_true rfl) dX5_counted_42 rfl ?_
        refine g_if_ne (tgt := 53) C dX5_counted_45 (by decide) hs (fun hs => ?_) (fun hs => ?_)
        · refine g_iload C 0 dX5_counted_48 rfl ?_
          refine g_goto (tgt := 54) C dX5_counted_50 (by decide) ?_
          refine g_sub [1, 2, 3, 5] rfl ?_
          exact wb_X5_counted_54 C k12 hk12 h a0 x1 x2 x4 x3 v1 oa0 hs hR
        · refine g_sub [1, 2, 3, 5] rfl ?_
          exact wb_X5_counted_53 C k12 hk12 h a0 x1 x2 x4 x3 oa0 hs hR
set_option maxHeartbeats 4000000 in
set_option maxRecDepth 100000 in
theorem w_X5_counted (l : Launch) (E : Ep) (h : Hp) (a0 : Nat) (x1 : Int32) (x2 : Int32) (res : Int32) (oa0 : OKr a0 5) (hs : sh_X5_counted h a0 x1 x2 = some res) : MG l E yX5_counted cX5_counted 6 (some .int) 2 [.ref (ad E a0), .int x1, .int x2] h (some (.int res)) h := by
  refine MG.of (by decide) (Nat.le_of_ble_eq_true rfl) ?_
  intro X C hR
  have C : CX E X RX5 cX5_counted 6 2 := C
  show GG l E X h 0 [(0, .ref (ad E a0)), (1, .int x1), (2, .int x2)] []
  refine g_aload_n C 0 dX5_counted_0 rfl rfl ?_
  refine g_iload_n C 1 dX5_counted_1 rfl rfl ?_
  refine g_iload_n C 2 dX5_counted_2 rfl rfl ?_
  refine g_bipush C dX5_counted_3 cc_b_6 ?_
  obtain ⟨v1, hcv1, hs⟩ := bnd hs
  refine g_cV (As := [.int x1, .int x2, .int (6 : Int32)]) (rest := []) C (w_X5_gift l E _ _ _ _ _ _ oa0 hcv1) mw_X5_gift lm_X5_81 oa0 rfl (ce5 E _ (oa0).2) rfl (by decide) rfl (Nat.le_of_ble_eq_true rfl) dX5_counted_5 rfl ?_
  refine g_istore_n (lv' := [(3, .int v1), (0, .ref (ad E a0)), (1, .int x1), (2, .int x2)]) C dX5_counted_8 rfl (by decide) rfl ?_
  refine g_iconst C dX5_counted_9 cc_i_0 ?_
  refine g_istore (lv' := [(4, .int (0 : Int32)), (3, .int v1), (0, .ref (ad E a0)), (1, .int x1), (2, .int x2)]) C dX5_counted_10 (by decide) rfl ?_
  refine g_sub [2, 3, 4, 1, 0] rfl ?_
  exact wb_X5_counted_12 C 1000 h a0 x1 x2 v1 (0 : Int32) oa0 hs hR
set_option maxHeartbeats 4000000 in
set_option maxRecDepth 100000 in
theorem wb_X5_lesser_10 {l : Launch} {E : Ep} {X : Fx} {res : Int32} (C : CX E X RX5 cX5_lesser 2 0) (h : Hp) (s0 : Int32) (hs : b_X5_lesser_10  h s0 = some res) (hR : RT E X (some .int) (some (.int res)) h) : GG l E X h 10 [] [.int s0] := by
  have e9 := Option.some.inj hs
  subst e9
  exact g_iret C hR dX5_lesser_10
set_option maxHeartbeats 4000000 in
set_option maxRecDepth 100000 in
theorem w_X5_lesser (l : Launch) (E : Ep) (h : Hp) (x0 : Int32) (x1 : Int32) (res : Int32) (hs : sh_X5_lesser h x0 x1 = some res) : MG l E yX5_lesser cX5_lesser 2 (some .int) 0 [.int x0, .int x1] h (some (.int res)) h := by
  refine MG.of (by decide) (Nat.le_of_ble_eq_true rfl) ?_
  intro X C hR
  have C : CX E X RX5 cX5_lesser 2 0 := C
  show GG l E X h 0 [(0, .int x0), (1, .int x1)] []
  refine g_iload_n C 0 dX5_lesser_0 rfl rfl ?_
  refine g_iload_n C 1 dX5_lesser_1 rfl rfl ?_
  refine g_icmp_ge (tgt := 9) C dX5_lesser_2 (by decide) hs (fun hs => ?_) (fun hs => ?_)
  · refine g_iload_n C 1 dX5_lesser_9 rfl rfl ?_
    refine g_sub [] rfl ?_
    exact wb_X5_lesser_10 C h x1 hs hR
  · refine g_iload_n C 0 dX5_lesser_5 rfl rfl ?_
    refine g_goto (tgt := 10) C dX5_lesser_6 (by decide) ?_
    refine g_sub [] rfl ?_
    exact wb_X5_lesser_10 C h x0 hs hR
set_option maxHeartbeats 4000000 in
set_option maxRecDepth 100000 in
theorem wb_X5_leave_77 {l : Launch} {E : Ep} {X : Fx} {res : Int32} (C : CX E X RX5 cX5_leave 7 3) (k35 : Hp → Nat → Int32 → Int32 → Int32 → Int32 → Int32 → Option (Int32)) (hk35 : ∀ (h : Hp) (a0 : Nat) (x1 : Int32) (x2 : Int32) (x3 : Int32) (x4 : Int32) (x5 : Int32), OKr a0 5 → k35 h a0 x1 x2 x3 x4 x5 = some res → RT E X (some .int) (some (.int res)) h → GG l E X h 35 [(0, .ref (ad E a0)), (1, .int x1), (2, .int x2), (3, .int x3), (4, .int x4), (5, .int x5)] []) (h : Hp) (a0 : Nat) (x1 : Int32) (x2 : Int32) (x3 : Int32) (x5 : Int32) (s0 : Int32) (oa0 : OKr a0 5) (hs : b_X5_leave_77 k35 h a0 x1 x2 x3 x5 s0 = some res) (hR : RT E X (some .int) (some (.int res)) h) : GG l E X h 77 [(0, .ref (ad E a0)), (1, .int x1), (2, .int x2), (3, .int x3), (5, .int x5)] [.int s0] := by
  refine g_istore (lv' := [(4, .int s0), (0, .ref (ad E a0)), (1, .int x1), (2, .int x2), (3, .int x3), (5, .int x5)]) C dX5_leave_77 (by decide) rfl ?_
  refine g_iinc (lv' := [(5, .int (x5 + (1 : Int32))), (4, .int s0), (0, .ref (ad E a0)), (1, .int x1), (2, .int x2), (3, .int x3)]) (j := 5) C dX5_leave_79 rfl (cc_n_1 _) (by decide) rfl ?_
  refine g_goto (tgt := 35) C dX5_leave_82 (by decide) ?_
  refine g_sub [2, 3, 4, 5, 1, 0] rfl ?_
  exact hk35 h a0 x1 x2 x3 s0 (x5 + (1 : Int32)) oa0 hs hR
set_option maxHeartbeats 4000000 in
set_option maxRecDepth 100000 in
theorem wb_X5_leave_184 {l : Launch} {E : Ep} {X : Fx} {res : Int32} (C : CX E X RX5 cX5_leave 7 3) (h : Hp) (s0 : Int32) (hs : b_X5_leave_184  h s0 = some res) (hR : RT E X (some .int) (some (.int res)) h) : GG l E X h 184 [] [.int s0] := by
  refine g_istore (lv' := [(6, .int s0)]) C dX5_leave_184 (by decide) rfl ?_
  refine g_iload C 0 dX5_leave_186 rfl ?_
  refine g_sipush C dX5_leave_188 cc_s_9999 ?_
  obtain ⟨v1, hcv1, hs⟩ := bnd hs
  refine g_cS (As := [.int s0, .int (9999 : Int32)]) (rest := []) C (w_X5_lesser l E _ _ _ _ hcv1) mw_X5_lesser lm_X5_99 rfl (by decide) rfl (Nat.le_of_ble_eq_true rfl) dX5_leave_191 rfl ?_
  have e9 := Option.some.inj hs
  subst e9
  exact g_iret C hR dX5_leave_194
set_option maxHeartbeats 4000000 in
set_option maxRecDepth 100000 in
theorem wb_X5_leave_164 {l : Launch} {E : Ep} {X : Fx} {res : Int32} (C : CX E X RX5 cX5_leave 7 3) (h : Hp) (a0 : Nat) (s0 : Int32) (oa0 : OKr a0 5) (hs : b_X5_leave_164  h a0 s0 = some res) (hR : RT E X (some .int) (some (.int res)) h) : GG l E X h 164 [(0, .ref (ad E a0))] [.int s0] := by
  refine g_istore (lv' := [(6, .int s0), (0, .ref (ad E a0))]) C dX5_leave_164 (by decide) rfl ?_
  refine g_iload C 0 dX5_leave_166 rfl ?_
  refine g_aload_n C 1 dX5_leave_168 rfl rfl ?_
  refine gf5_5 C oa0 lf_X5_13 dX5_leave_169 ?_
  refine g_icmp_ge (tgt := 182) C dX5_leave_172 (by decide) hs (fun hs => ?_) (fun hs => ?_)
  · refine g_iload C 0 dX5_leave_182 rfl ?_
    refine g_sub [] rfl ?_
    exact wb_X5_leave_184 C h s0 hs hR
  · refine g_aload_n C 1 dX5_leave_175 rfl rfl ?_
    refine gf5_5 C oa0 lf_X5_13 dX5_leave_176 ?_
    refine g_goto (tgt := 184) C dX5_leave_179 (by decide) ?_
    refine g_sub [] rfl ?_
    exact wb_X5_leave_184 C h (h.1 a0 5) hs hR
set_option maxHeartbeats 4000000 in
set_option maxRecDepth 100000 in
theorem wb_X5_leave_35 {l : Launch} {E : Ep} {X : Fx} {res : Int32} (C : CX E X RX5 cX5_leave 7 3) : ∀ (n : Nat) (h : Hp) (a0 : Nat) (x1 : Int32) (x2 : Int32) (x3 : Int32) (x4 : Int32) (x5 : Int32) (oa0 : OKr a0 5), b_X5_leave_35  n h a0 x1 x2 x3 x4 x5 = some res → RT E X (some .int) (some (.int res)) h → GG l E X h 35 [(0, .ref (ad E a0)), (1, .int x1), (2, .int x2), (3, .int x3), (4, .int x4), (5, .int x5)] [] := by
  intro n
  induction n with
  | zero =>
    intro h a0 x1 x2 x3 x4 x5 oa0
    intro hs
    exact absurd hs (by intro e; cases e)
  | succ n ih =>
    intro h a0 x1 x2 x3 x4 x5 oa0 hs hR
    have hk35 := ih
    have hs : f_X5_leave_35  (b_X5_leave_35  n) h a0 x1 x2 x3 x4 x5 = some res := hs
    generalize b_X5_leave_35  n = k35 at hs hk35
    refine g_iload C 5 dX5_leave_35 rfl ?_
    refine g_aload_n C 0 dX5_leave_37 rfl rfl ?_
    refine gf5_3 C oa0 lf_X5_7 dX5_leave_38 ?_
    refine g_icmp_gt (tgt := 85) C dX5_leave_41 (by decide) hs (fun hs => ?_) (fun hs => ?_)
    · refine g_iload_n C 2 dX5_leave_85 rfl rfl ?_
      refine g_iconst C dX5_leave_86 cc_i_1 ?_
      refine g_iadd C dX5_leave_87 ?_
      refine g_iconst C dX5_leave_88 cc_i_2 ?_
      refine g_idivC C dX5_leave_89 (by decide) ?_
      refine g_istore (lv' := [(5, .int ((x2 + (1 : Int32)) / (2 : Int32))), (0, .ref (ad E a0)), (1, .int x1), (2, .int x2), (3, .int x3), (4, .int x4)]) C dX5_leave_90 (by decide) rfl ?_
      refine g_aload_n C 1 dX5_leave_92 rfl rfl ?_
      refine gf5_2 C oa0 lf_X5_96 dX5_leave_93 ?_
      refine g_if_ne (tgt := 103) C dX5_leave_96 (by decide) hs (fun hs => ?_) (fun hs => ?_)
      · refine g_iload_n C 3 dX5_leave_99 rfl rfl ?_
        refine g_goto (tgt := 164) C dX5_leave_100 (by decide) ?_
        refine g_sub [1] rfl ?_
        exact wb_X5_leave_164 C h a0 x2 oa0 hs hR
      · refine g_aload_n C 1 dX5_leave_103 rfl rfl ?_
        refine gf5_2 C oa0 lf_X5_96 dX5_leave_104 ?_
        refine g_iconst C dX5_leave_107 cc_i_1 ?_
        refine g_icmp_ne (tgt := 116) C dX5_leave_108 (by decide) hs (fun hs => ?_) (fun hs => ?_)
        · refine g_iload C 0 dX5_leave_111 rfl ?_
          refine g_goto (tgt := 164) C dX5_leave_113 (by decide) ?_
          refine g_sub [1] rfl ?_
          exact wb_X5_leave_164 C h a0 ((x2 + (1 : Int32)) / (2 : Int32)) oa0 hs hR
        · refine g_aload_n C 1 dX5_leave_116 rfl rfl ?_
          refine gf5_2 C oa0 lf_X5_96 dX5_leave_117 ?_
          refine g_iconst C dX5_leave_120 cc_i_2 ?_
          refine g_icmp_ne (tgt := 130) C dX5_leave_121 (by decide) hs (fun hs => ?_) (fun hs => ?_)
          · refine g_iconst C dX5_leave_124 cc_i_2 ?_
            refine g_iload_n C 3 dX5_leave_125 rfl rfl ?_
            refine g_imul C dX5_leave_126 ?_
            refine g_goto (tgt := 164) C dX5_leave_127 (by decide) ?_
            refine g_sub [1] rfl ?_
            exact wb_X5_leave_164 C h a0 ((2 : Int32) * x2) oa0 hs hR
          · refine g_aload_n C 1 dX5_leave_130 rfl rfl ?_
            refine gf5_2 C oa0 lf_X5_96 dX5_leave_131 ?_
            refine g_iconst C dX5_leave_134 cc_i_3 ?_
            refine g_icmp_ne (tgt := 142) C dX5_leave_135 (by decide) hs (fun hs => ?_) (fun hs => ?_)
            · refine g_iload_n C 4 dX5_leave_138 rfl rfl ?_
              refine g_goto (tgt := 164) C dX5_leave_139 (by decide) ?_
              refine g_sub [1] rfl ?_
              exact wb_X5_leave_164 C h a0 x3 oa0 hs hR
            · refine g_aload_n C 1 dX5_leave_142 rfl rfl ?_
              refine gf5_2 C oa0 lf_X5_96 dX5_leave_143 ?_
              refine g_iconst C dX5_leave_146 cc_i_4 ?_
              refine g_icmp_ne (tgt := 155) C dX5_leave_147 (by decide) hs (fun hs => ?_) (fun hs => ?_)
              · refine g_iload C 5 dX5_leave_150 rfl ?_
                refine g_goto (tgt := 164) C dX5_leave_152 (by decide) ?_
                refine g_sub [1] rfl ?_
                exact wb_X5_leave_164 C h a0 x4 oa0 hs hR
              · refine g_iload C 0 dX5_leave_155 rfl ?_
                refine g_aload_n C 1 dX5_leave_157 rfl rfl ?_
                refine gf5_7 C oa0 lf_X5_20 dX5_leave_158 ?_
                refine g_iload_n C 2 dX5_leave_161 rfl rfl ?_
                refine g_iald C (tg5_7 oa0) dX5_leave_162 hs (fun v1 hs => ?_)
                refine g_iadd C dX5_leave_163 ?_
                refine g_sub [1] rfl ?_
                exact wb_X5_leave_164 C h a0 (((x2 + (1 : Int32)) / (2 : Int32)) + v1) oa0 hs hR
    · refine g_aload_n C 0 dX5_leave_44 rfl rfl ?_
      refine g_aload_n C 0 dX5_leave_45 rfl rfl ?_
      refine gf5_1 C oa0 lf_X5_78 dX5_leave_46 ?_
      refine g_iload C 5 dX5_leave_49 rfl ?_
      refine g_isub C dX5_leave_51 ?_
      refine g_iload_n C 1 dX5_leave_52 rfl rfl ?_
      obtain ⟨v2, hcv2, hs⟩ := bnd hs
      refine g_cV (As := [.int ((h.1 a0 1) - x5), .int x1]) (rest := []) C (w_X5_counted l E _ _ _ _ _ oa0 hcv2) mw_X5_counted lm_X5_92 oa0 rfl (ce5 E _ (oa0).2) rfl (by decide) rfl (Nat.le_of_ble_eq_true rfl) dX5_leave_53 rfl ?_
      refine g_istore (lv' := [(6, .int v2), (0, .ref (ad E a0)), (1, .int x1), (2, .int x2), (3, .int x3), (4, .int x4), (5, .int x5)]) C dX5_leave_56 (by decide) rfl ?_
      refine g_iload_n C 4 dX5_leave_58 rfl rfl ?_
      refine g_iload C 0 dX5_leave_59 rfl ?_
      refine g_iadd C dX5_leave_61 ?_
      refine g_istore_n (lv' := [(3, .int (x3 + v2)), (6, .int v2), (0, .ref (ad E a0)), (1, .int x1), (2, .int x2), (4, .int x4), (5, .int x5)]) C dX5_leave_62 rfl (by decide) rfl ?_
      refine g_iload C 1 dX5_leave_63 rfl ?_
      refine g_iload C 5 dX5_leave_65 rfl ?_
      refine g_icmp_le (tgt := 75) C dX5_leave_67 (by decide) hs (fun hs => ?_) (fun hs => ?_)
      · refine g_iload C 5 dX5_leave_75 rfl ?_
        refine g_sub [2, 3, 4, 0, 6] rfl ?_
        exact wb_X5_leave_77 C k35 hk35 h a0 x1 x2 (x3 + v2) x5 x4 oa0 hs hR
      · refine g_iload C 1 dX5_leave_70 rfl ?_
        refine g_goto (tgt := 77) C dX5_leave_72 (by decide) ?_
        refine g_sub [2, 3, 4, 0, 6] rfl ?_
        exact wb_X5_leave_77 C k35 hk35 h a0 x1 x2 (x3 + v2) x5 v2 oa0 hs hR
set_option maxHeartbeats 4000000 in
set_option maxRecDepth 100000 in
theorem w_X5_leave (l : Launch) (E : Ep) (h : Hp) (a0 : Nat) (x1 : Int32) (res : Int32) (oa0 : OKr a0 5) (hs : sh_X5_leave h a0 x1 = some res) : MG l E yX5_leave cX5_leave 7 (some .int) 3 [.ref (ad E a0), .int x1] h (some (.int res)) h := by
  refine MG.of (by decide) (Nat.le_of_ble_eq_true rfl) ?_
  intro X C hR
  have C : CX E X RX5 cX5_leave 7 3 := C
  show GG l E X h 0 [(0, .ref (ad E a0)), (1, .int x1)] []
  refine g_aload_n C 0 dX5_leave_0 rfl rfl ?_
  refine gf5_6 C oa0 lf_X5_16 dX5_leave_1 ?_
  refine g_iload_n C 1 dX5_leave_4 rfl rfl ?_
  refine g_iald C (tg5_6 oa0) dX5_leave_5 hs (fun v1 hs => ?_)
  refine g_bipush C dX5_leave_6 cc_b_7 ?_
  refine g_icmp_ne (tgt := 15) C dX5_leave_8 (by decide) hs (fun hs => ?_) (fun hs => ?_)
  · refine g_sipush C dX5_leave_11 cc_s_9999 ?_
    have e9 := Option.some.inj hs
    subst e9
    exact g_iret C hR dX5_leave_14
  · refine g_aload_n C 0 dX5_leave_15 rfl rfl ?_
    refine g_aload_n C 0 dX5_leave_16 rfl rfl ?_
    refine gf5_1 C oa0 lf_X5_78 dX5_leave_17 ?_
    refine g_iconst C dX5_leave_20 cc_i_1 ?_
    refine g_isub C dX5_leave_21 ?_
    refine g_iload_n C 1 dX5_leave_22 rfl rfl ?_
    obtain ⟨v2, hcv2, hs⟩ := bnd hs
    refine g_cV (As := [.int ((h.1 a0 1) - (1 : Int32)), .int x1]) (rest := []) C (w_X5_counted l E _ _ _ _ _ oa0 hcv2) mw_X5_counted lm_X5_92 oa0 rfl (ce5 E _ (oa0).2) rfl (by decide) rfl (Nat.le_of_ble_eq_true rfl) dX5_leave_23 rfl ?_
    refine g_istore_n (lv' := [(2, .int v2), (0, .ref (ad E a0)), (1, .int x1)]) C dX5_leave_26 rfl (by decide) rfl ?_
    refine g_iconst C dX5_leave_27 cc_i_0 ?_
    refine g_istore_n (lv' := [(3, .int (0 : Int32)), (2, .int v2), (0, .ref (ad E a0)), (1, .int x1)]) C dX5_leave_28 rfl (by decide) rfl ?_
    refine g_iconst C dX5_leave_29 cc_i_0 ?_
    refine g_istore (lv' := [(4, .int (0 : Int32)), (3, .int (0 : Int32)), (2, .int v2), (0, .ref (ad E a0)), (1, .int x1)]) C dX5_leave_30 (by decide) rfl ?_
    refine g_iconst C dX5_leave_32 cc_i_1 ?_
    refine g_istore (lv' := [(5, .int (1 : Int32)), (4, .int (0 : Int32)), (3, .int (0 : Int32)), (2, .int v2), (0, .ref (ad E a0)), (1, .int x1)]) C dX5_leave_33 (by decide) rfl ?_
    refine g_sub [4, 5, 3, 2, 1, 0] rfl ?_
    exact wb_X5_leave_35 C 1000 h a0 x1 v2 (0 : Int32) (0 : Int32) (1 : Int32) oa0 hs hR
set_option maxHeartbeats 4000000 in
set_option maxRecDepth 100000 in
theorem wb_X5_given_5 {l : Launch} {E : Ep} {X : Fx} {res : Int32} (C : CX E X RX5 cX5_given 5 1) : ∀ (n : Nat) (h : Hp) (a0 : Nat) (x1 : Int32) (x2 : Int32) (x3 : Int32) (x4 : Int32) (oa0 : OKr a0 5), b_X5_given_5  n h a0 x1 x2 x3 x4 = some res → RT E X (some .int) (some (.int res)) h → GG l E X h 5 [(0, .ref (ad E a0)), (1, .int x1), (2, .int x2), (3, .int x3), (4, .int x4)] [] := by
  intro n
  induction n with
  | zero =>
    intro h a0 x1 x2 x3 x4 oa0
    intro hs
    exact absurd hs (by intro e; cases e)
  | succ n ih =>
    intro h a0 x1 x2 x3 x4 oa0 hs hR
    have hk5 := ih
    have hs : f_X5_given_5  (b_X5_given_5  n) h a0 x1 x2 x3 x4 = some res := hs
    generalize b_X5_given_5  n = k5 at hs hk5
    refine g_iload C 4 dX5_given_5 rfl ?_
    refine g_bipush C dX5_given_7 cc_b_7 ?_
    refine g_icmp_ge (tgt := 29) C dX5_given_9 (by decide) hs (fun hs => ?_) (fun hs => ?_)
    · refine g_iload_n C 3 dX5_given_29 rfl rfl ?_
      have e9 := Option.some.inj hs
      subst e9
      exact g_iret C hR dX5_given_30
    · refine g_iload_n C 3 dX5_given_12 rfl rfl ?_
      refine g_aload_n C 0 dX5_given_13 rfl rfl ?_
      refine g_iload_n C 1 dX5_given_14 rfl rfl ?_
      refine g_iload_n C 2 dX5_given_15 rfl rfl ?_
      refine g_iload C 4 dX5_given_16 rfl ?_
      obtain ⟨v1, hcv1, hs⟩ := bnd hs
      refine g_cV (As := [.int x1, .int x2, .int x4]) (rest := [.int x3]) C (w_X5_gift l E _ _ _ _ _ _ oa0 hcv1) mw_X5_gift lm_X5_81 oa0 rfl (ce5 E _ (oa0).2) rfl (by decide) rfl (Nat.le_of_ble_eq_true rfl) dX5_given_18 rfl ?_
      refine g_iadd C dX5_given_21 ?_
      refine g_istore_n (lv' := [(3, .int (x3 + v1)), (0, .ref (ad E a0)), (1, .int x1), (2, .int x2), (4, .int x4)]) C dX5_given_22 rfl (by decide) rfl ?_
      refine g_iinc (lv' := [(4, .int (x4 + (1 : Int32))), (3, .int (x3 + v1)), (0, .ref (ad E a0)), (1, .int x1), (2, .int x2)]) (j := 4) C dX5_given_23 rfl (cc_n_1 _) (by decide) rfl ?_
      refine g_goto (tgt := 5) C dX5_given_26 (by decide) ?_
      refine g_sub [2, 3, 4, 1, 0] rfl ?_
      exact hk5 h a0 x1 x2 (x3 + v1) (x4 + (1 : Int32)) oa0 hs hR
set_option maxHeartbeats 4000000 in
set_option maxRecDepth 100000 in
theorem w_X5_given (l : Launch) (E : Ep) (h : Hp) (a0 : Nat) (x1 : Int32) (x2 : Int32) (res : Int32) (oa0 : OKr a0 5) (hs : sh_X5_given h a0 x1 x2 = some res) : MG l E yX5_given cX5_given 5 (some .int) 1 [.ref (ad E a0), .int x1, .int x2] h (some (.int res)) h := by
  refine MG.of (by decide) (Nat.le_of_ble_eq_true rfl) ?_
  intro X C hR
  have C : CX E X RX5 cX5_given 5 1 := C
  show GG l E X h 0 [(0, .ref (ad E a0)), (1, .int x1), (2, .int x2)] []
  refine g_iconst C dX5_given_0 cc_i_0 ?_
  refine g_istore_n (lv' := [(3, .int (0 : Int32)), (0, .ref (ad E a0)), (1, .int x1), (2, .int x2)]) C dX5_given_1 rfl (by decide) rfl ?_
  refine g_iconst C dX5_given_2 cc_i_0 ?_
  refine g_istore (lv' := [(4, .int (0 : Int32)), (3, .int (0 : Int32)), (0, .ref (ad E a0)), (1, .int x1), (2, .int x2)]) C dX5_given_3 (by decide) rfl ?_
  refine g_sub [2, 3, 4, 1, 0] rfl ?_
  exact wb_X5_given_5 C 1000 h a0 x1 x2 (0 : Int32) (0 : Int32) oa0 hs hR
set_option maxHeartbeats 4000000 in
set_option maxRecDepth 100000 in
theorem wb_X5_person_40 {l : Launch} {E : Ep} {X : Fx} {res : Int32 × Hp} (C : CX E X RX5 cX5_person 3 4) (h : Hp) (b0 : Nat) (s1 : Int32) (ob0 : OKr b0 5) (hs : b_X5_person_40  h b0 s1 = some res) (hR : RT E X (some .int) (some (.int res.1)) res.2) : GG l E X h 40 [] [.int s1, .ref (ad E b0)] := by
  obtain ⟨q1, hcq1, hs⟩ := bnd hs
  refine g_cV (As := [.int s1]) (rest := []) C (w_X5_refuse l E _ _ _ _ ob0 hcq1) mw_X5_refuse lm_X5_152 ob0 rfl (ce5 E _ (ob0).2) rfl (by decide) rfl (Nat.le_of_ble_eq_true rfl) dX5_person_40 rfl ?_
  have e9 := Option.some.inj hs
  subst e9
  exact g_iret C hR dX5_person_43
set_option maxHeartbeats 4000000 in
set_option maxRecDepth 100000 in
theorem wb_X5_person_25 {l : Launch} {E : Ep} {X : Fx} {res : Int32 × Hp} (C : CX E X RX5 cX5_person 3 4) (h : Hp) (a0 : Nat) (x1 : Int32) (oa0 : OKr a0 5) (hs : b_X5_person_25  h a0 x1 = some res) (hR : RT E X (some .int) (some (.int res.1)) res.2) : GG l E X h 25 [(0, .ref (ad E a0)), (1, .int x1)] [] := by
  refine g_aload_n C 0 dX5_person_25 rfl rfl ?_
  refine g_aload_n C 0 dX5_person_26 rfl rfl ?_
  refine g_iload_n C 1 dX5_person_27 rfl rfl ?_
  obtain ⟨v1, hcv1, hs⟩ := bnd hs
  refine g_cV (As := [.int x1]) (rest := [.ref (ad E a0)]) C (w_X5_isOne l E _ _ _ _ oa0 hcv1) mw_X5_isOne lm_X5_199 oa0 rfl (ce5 E _ (oa0).2) rfl (by decide) rfl (Nat.le_of_ble_eq_true rfl) dX5_person_28 rfl ?_
  refine g_if_ne (tgt := 38) C dX5_person_31 (by decide) hs (fun hs => ?_) (fun hs => ?_)
  · refine g_iconst C dX5_person_34 cc_i_m1 ?_
    refine g_goto (tgt := 40) C dX5_person_35 (by decide) ?_
    refine g_sub [] rfl ?_
    exact wb_X5_person_40 C h a0 (-1 : Int32) oa0 hs hR
  · refine g_bipush C dX5_person_38 cc_b_m2 ?_
    refine g_sub [] rfl ?_
    exact wb_X5_person_40 C h a0 (-2 : Int32) oa0 hs hR
set_option maxHeartbeats 4000000 in
set_option maxRecDepth 100000 in
theorem w_X5_person (l : Launch) (E : Ep) (h : Hp) (a0 : Nat) (x1 : Int32) (x2 : Int32) (res : Int32 × Hp) (oa0 : OKr a0 5) (hs : sh_X5_person h a0 x1 x2 = some res) : MG l E yX5_person cX5_person 3 (some .int) 4 [.ref (ad E a0), .int x1, .int x2] h (some (.int res.1)) res.2 := by
  refine MG.of (by decide) (Nat.le_of_ble_eq_true rfl) ?_
  intro X C hR
  have C : CX E X RX5 cX5_person 3 4 := C
  show GG l E X h 0 [(0, .ref (ad E a0)), (1, .int x1), (2, .int x2)] []
  refine g_aload_n C 0 dX5_person_0 rfl rfl ?_
  refine g_iconst C dX5_person_1 cc_i_0 ?_
  refine pf5_13 C oa0 lf_X5_68 dX5_person_2 ?_
  refine g_aload_n C 0 dX5_person_5 rfl rfl ?_
  refine g_iload_n C 1 dX5_person_6 rfl rfl ?_
  obtain ⟨v1, hcv1, hs⟩ := bnd hs
  refine g_cV (As := [.int x1]) (rest := []) C (w_X5_isOne l E _ _ _ _ oa0 hcv1) mw_X5_isOne lm_X5_199 oa0 rfl (ce5 E _ (oa0).2) rfl (by decide) rfl (Nat.le_of_ble_eq_true rfl) dX5_person_7 rfl ?_
  refine g_if_eq (tgt := 25) C dX5_person_10 (by decide) hs (fun hs => ?_) (fun hs => ?_)
  · refine g_sub [0, 1] rfl ?_
    exact wb_X5_person_25 C (wI h a0 13 (0 : Int32)) a0 x1 oa0 hs hR
  · refine g_iload_n C 2 dX5_person_13 rfl rfl ?_
    refine g_i2l C dX5_person_14 ?_
    refine g_lconst (v := (0 : Int64)) C dX5_person_15 (by decide) ?_
    refine g_ldc2 C dX5_person_16 kk_X5_202 ?_
    obtain ⟨v2, hcv2, hs⟩ := bnd hs
    refine g_cS (As := [.long (x2).toInt64, .long (0 : Int64), .long (8 : Int64)]) (rest := []) C (w_X5_in l E _ _ _ _ _ hcv2) mw_X5_in lm_X5_74 rfl (by decide) rfl (Nat.le_of_ble_eq_true rfl) dX5_person_19 rfl ?_
    refine g_if_ne (tgt := 44) C dX5_person_22 (by decide) hs (fun hs => ?_) (fun hs => ?_)
    · refine g_sub [0, 1] rfl ?_
      exact wb_X5_person_25 C (wI h a0 13 (0 : Int32)) a0 x1 oa0 hs hR
    · refine g_iload_n C 2 dX5_person_44 rfl rfl ?_
      refine g_case hs (fun hx45_0 hs => ?_) (fun hx45_0 hs => ?_)
      · refine g_tabIn (v := (0 : Int32)) (tgt := 92) C dX5_person_45 hx45_0 (by decide) (by decide) rfl (by decide) ?_
        refine g_aload_n C 0 dX5_person_92 rfl rfl ?_
        refine gf5_6 C oa0 lf_X5_16 dX5_person_93 ?_
        refine g_iload_n C 1 dX5_person_96 rfl rfl ?_
        refine g_iald C (tg5_6 oa0) dX5_person_97 hs (fun v3 hs => ?_)
        have e9 := Option.some.inj hs
        subst e9
        exact g_iret C hR dX5_person_98
      refine g_case hs (fun hx45_1 hs => ?_) (fun hx45_1 hs => ?_)
      · refine g_tabIn (v := (1 : Int32)) (tgt := 99) C dX5_person_45 hx45_1 (by decide) (by decide) rfl (by decide) ?_
        refine g_aload_n C 0 dX5_person_99 rfl rfl ?_
        refine gf5_7 C oa0 lf_X5_20 dX5_person_100 ?_
        refine g_iload_n C 1 dX5_person_103 rfl rfl ?_
        refine g_iald C (tg5_7 oa0) dX5_person_104 hs (fun v4 hs => ?_)
        have e9 := Option.some.inj hs
        subst e9
        exact g_iret C hR dX5_person_105
      refine g_case hs (fun hx45_2 hs => ?_) (fun hx45_2 hs => ?_)
      · refine g_tabIn (v := (2 : Int32)) (tgt := 106) C dX5_person_45 hx45_2 (by decide) (by decide) rfl (by decide) ?_
        refine g_aload_n C 0 dX5_person_106 rfl rfl ?_
        refine gf5_9 C oa0 lf_X5_26 dX5_person_107 ?_
        refine g_iload_n C 1 dX5_person_110 rfl rfl ?_
        refine g_iald C (tg5_9 oa0) dX5_person_111 hs (fun v5 hs => ?_)
        have e9 := Option.some.inj hs
        subst e9
        exact g_iret C hR dX5_person_112
      refine g_case hs (fun hx45_3 hs => ?_) (fun hx45_3 hs => ?_)
      · refine g_tabIn (v := (3 : Int32)) (tgt := 113) C dX5_person_45 hx45_3 (by decide) (by decide) rfl (by decide) ?_
        refine g_aload_n C 0 dX5_person_113 rfl rfl ?_
        refine gf5_10 C oa0 lf_X5_29 dX5_person_114 ?_
        refine g_iload_n C 1 dX5_person_117 rfl rfl ?_
        refine g_iald C (tg5_10 oa0) dX5_person_118 hs (fun v6 hs => ?_)
        have e9 := Option.some.inj hs
        subst e9
        exact g_iret C hR dX5_person_119
      refine g_case hs (fun hx45_4 hs => ?_) (fun hx45_4 hs => ?_)
      · refine g_tabIn (v := (4 : Int32)) (tgt := 120) C dX5_person_45 hx45_4 (by decide) (by decide) rfl (by decide) ?_
        refine g_aload_n C 0 dX5_person_120 rfl rfl ?_
        refine gf5_8 C oa0 lf_X5_23 dX5_person_121 ?_
        refine g_iload_n C 1 dX5_person_124 rfl rfl ?_
        refine g_iald C (tg5_8 oa0) dX5_person_125 hs (fun v7 hs => ?_)
        have e9 := Option.some.inj hs
        subst e9
        exact g_iret C hR dX5_person_126
      refine g_case hs (fun hx45_5 hs => ?_) (fun hx45_5 hs => ?_)
      · refine g_tabIn (v := (5 : Int32)) (tgt := 127) C dX5_person_45 hx45_5 (by decide) (by decide) rfl (by decide) ?_
        refine g_aload_n C 0 dX5_person_127 rfl rfl ?_
        refine g_aload_n C 0 dX5_person_128 rfl rfl ?_
        refine gf5_1 C oa0 lf_X5_78 dX5_person_129 ?_
        refine g_iload_n C 1 dX5_person_132 rfl rfl ?_
        obtain ⟨v8, hcv8, hs⟩ := bnd hs
        refine g_cV (As := [.int ((wI h a0 13 (0 : Int32)).1 a0 1), .int x1]) (rest := []) C (w_X5_got l E _ _ _ _ _ oa0 hcv8) mw_X5_got lm_X5_102 oa0 rfl (ce5 E _ (oa0).2) rfl (by decide) rfl (Nat.le_of_ble_eq_true rfl) dX5_person_133 rfl ?_
        have e9 := Option.some.inj hs
        subst e9
        exact g_iret C hR dX5_person_136
      refine g_case hs (fun hx45_6 hs => ?_) (fun hx45_6 hs => ?_)
      · refine g_tabIn (v := (6 : Int32)) (tgt := 137) C dX5_person_45 hx45_6 (by decide) (by decide) rfl (by decide) ?_
        refine g_aload_n C 0 dX5_person_137 rfl rfl ?_
        refine g_iload_n C 1 dX5_person_138 rfl rfl ?_
        obtain ⟨v9, hcv9, hs⟩ := bnd hs
        refine g_cV (As := [.int x1]) (rest := []) C (w_X5_leave l E _ _ _ _ oa0 hcv9) mw_X5_leave lm_X5_119 oa0 rfl (ce5 E _ (oa0).2) rfl (by decide) rfl (Nat.le_of_ble_eq_true rfl) dX5_person_139 rfl ?_
        have e9 := Option.some.inj hs
        subst e9
        exact g_iret C hR dX5_person_142
      refine g_case hs (fun hx45_7 hs => ?_) (fun hx45_7 hs => ?_)
      · refine g_tabIn (v := (7 : Int32)) (tgt := 143) C dX5_person_45 hx45_7 (by decide) (by decide) rfl (by decide) ?_
        refine g_aload_n C 0 dX5_person_143 rfl rfl ?_
        refine g_aload_n C 0 dX5_person_144 rfl rfl ?_
        refine gf5_1 C oa0 lf_X5_78 dX5_person_145 ?_
        refine g_iload_n C 1 dX5_person_148 rfl rfl ?_
        obtain ⟨v10, hcv10, hs⟩ := bnd hs
        refine g_cV (As := [.int ((wI h a0 13 (0 : Int32)).1 a0 1), .int x1]) (rest := []) C (w_X5_given l E _ _ _ _ _ oa0 hcv10) mw_X5_given lm_X5_204 oa0 rfl (ce5 E _ (oa0).2) rfl (by decide) rfl (Nat.le_of_ble_eq_true rfl) dX5_person_149 rfl ?_
        have e9 := Option.some.inj hs
        subst e9
        exact g_iret C hR dX5_person_152
      refine g_tabOut (tgt := 153) C dX5_person_45 (by have z0 := ne_tz (z := 0) (by decide) hx45_0; have z1 := ne_tz (z := 1) (by decide) hx45_1; have z2 := ne_tz (z := 2) (by decide) hx45_2; have z3 := ne_tz (z := 3) (by decide) hx45_3; have z4 := ne_tz (z := 4) (by decide) hx45_4; have z5 := ne_tz (z := 5) (by decide) hx45_5; have z6 := ne_tz (z := 6) (by decide) hx45_6; have z7 := ne_tz (z := 7) (by decide) hx45_7; omega) (by decide) ?_
      refine g_aload_n C 0 dX5_person_153 rfl rfl ?_
      refine g_aload_n C 0 dX5_person_154 rfl rfl ?_
      refine gf5_1 C oa0 lf_X5_78 dX5_person_155 ?_
      refine g_iconst C dX5_person_158 cc_i_1 ?_
      refine g_isub C dX5_person_159 ?_
      refine g_iload_n C 1 dX5_person_160 rfl rfl ?_
      obtain ⟨v11, hcv11, hs⟩ := bnd hs
      refine g_cV (As := [.int (((wI h a0 13 (0 : Int32)).1 a0 1) - (1 : Int32)), .int x1]) (rest := []) C (w_X5_counted l E _ _ _ _ _ oa0 hcv11) mw_X5_counted lm_X5_92 oa0 rfl (ce5 E _ (oa0).2) rfl (by decide) rfl (Nat.le_of_ble_eq_true rfl) dX5_person_161 rfl ?_
      have e9 := Option.some.inj hs
      subst e9
      exact g_iret C hR dX5_person_164
set_option maxHeartbeats 4000000 in
set_option maxRecDepth 100000 in
theorem wb_X5_put_40 {l : Launch} {E : Ep} {X : Fx} {res : Int32 × Hp} (C : CX E X RX5 cX5_put 5 2) (h : Hp) (b0 : Nat) (s1 : Int32) (ob0 : OKr b0 5) (hs : b_X5_put_40  h b0 s1 = some res) (hR : RT E X (some .int) (some (.int res.1)) res.2) : GG l E X h 40 [] [.int s1, .ref (ad E b0)] := by
  obtain ⟨q1, hcq1, hs⟩ := bnd hs
  refine g_cV (As := [.int s1]) (rest := []) C (w_X5_refuse l E _ _ _ _ ob0 hcq1) mw_X5_refuse lm_X5_152 ob0 rfl (ce5 E _ (ob0).2) rfl (by decide) rfl (Nat.le_of_ble_eq_true rfl) dX5_put_40 rfl ?_
  have e9 := Option.some.inj hs
  subst e9
  exact g_iret C hR dX5_put_43
set_option maxHeartbeats 4000000 in
set_option maxRecDepth 100000 in
theorem wb_X5_put_25 {l : Launch} {E : Ep} {X : Fx} {res : Int32 × Hp} (C : CX E X RX5 cX5_put 5 2) (h : Hp) (a0 : Nat) (x1 : Int32) (oa0 : OKr a0 5) (hs : b_X5_put_25  h a0 x1 = some res) (hR : RT E X (some .int) (some (.int res.1)) res.2) : GG l E X h 25 [(0, .ref (ad E a0)), (1, .int x1)] [] := by
  refine g_aload_n C 0 dX5_put_25 rfl rfl ?_
  refine g_aload_n C 0 dX5_put_26 rfl rfl ?_
  refine g_iload_n C 1 dX5_put_27 rfl rfl ?_
  obtain ⟨v1, hcv1, hs⟩ := bnd hs
  refine g_cV (As := [.int x1]) (rest := [.ref (ad E a0)]) C (w_X5_isOne l E _ _ _ _ oa0 hcv1) mw_X5_isOne lm_X5_199 oa0 rfl (ce5 E _ (oa0).2) rfl (by decide) rfl (Nat.le_of_ble_eq_true rfl) dX5_put_28 rfl ?_
  refine g_if_ne (tgt := 38) C dX5_put_31 (by decide) hs (fun hs => ?_) (fun hs => ?_)
  · refine g_iconst C dX5_put_34 cc_i_m1 ?_
    refine g_goto (tgt := 40) C dX5_put_35 (by decide) ?_
    refine g_sub [] rfl ?_
    exact wb_X5_put_40 C h a0 (-1 : Int32) oa0 hs hR
  · refine g_bipush C dX5_put_38 cc_b_m2 ?_
    refine g_sub [] rfl ?_
    exact wb_X5_put_40 C h a0 (-2 : Int32) oa0 hs hR
set_option maxHeartbeats 4000000 in
set_option maxRecDepth 100000 in
theorem wb_X5_put_69 {l : Launch} {E : Ep} {X : Fx} {res : Int32 × Hp} (C : CX E X RX5 cX5_put 5 2) (h : Hp) (a0 : Nat) (x1 : Int32) (x3 : Int32) (oa0 : OKr a0 5) (hs : b_X5_put_69  h a0 x1 x3 = some res) (hR : RT E X (some .int) (some (.int res.1)) res.2) : GG l E X h 69 [(0, .ref (ad E a0)), (1, .int x1), (3, .int x3)] [] := by
  refine g_aload_n C 0 dX5_put_69 rfl rfl ?_
  refine gf5_9 C oa0 lf_X5_26 dX5_put_70 ?_
  refine g_iload_n C 1 dX5_put_73 rfl rfl ?_
  refine g_iald C (tg5_9 oa0) dX5_put_74 hs (fun v1 hs => ?_)
  refine g_istore (lv' := [(4, .int v1), (0, .ref (ad E a0)), (1, .int x1), (3, .int x3)]) C dX5_put_75 (by decide) rfl ?_
  refine g_aload_n C 1 dX5_put_77 rfl rfl ?_
  refine gf5_9 C oa0 lf_X5_26 dX5_put_78 ?_
  refine g_iload_n C 2 dX5_put_81 rfl rfl ?_
  refine g_iload_n C 3 dX5_put_82 rfl rfl ?_
  refine g_iast C (tg5_9 oa0) dX5_put_83 hs (fun h2 hs => ?_)
  refine g_iload C 0 dX5_put_84 rfl ?_
  have e9 := Option.some.inj hs
  subst e9
  exact g_iret C hR dX5_put_86
set_option maxHeartbeats 4000000 in
set_option maxRecDepth 100000 in
theorem wb_X5_put_119 {l : Launch} {E : Ep} {X : Fx} {res : Int32 × Hp} (C : CX E X RX5 cX5_put 5 2) (h : Hp) (b0 : Nat) (s1 : Int32) (ob0 : OKr b0 5) (hs : b_X5_put_119  h b0 s1 = some res) (hR : RT E X (some .int) (some (.int res.1)) res.2) : GG l E X h 119 [] [.int s1, .ref (ad E b0)] := by
  obtain ⟨q1, hcq1, hs⟩ := bnd hs
  refine g_cV (As := [.int s1]) (rest := []) C (w_X5_refuse l E _ _ _ _ ob0 hcq1) mw_X5_refuse lm_X5_152 ob0 rfl (ce5 E _ (ob0).2) rfl (by decide) rfl (Nat.le_of_ble_eq_true rfl) dX5_put_119 rfl ?_
  have e9 := Option.some.inj hs
  subst e9
  exact g_iret C hR dX5_put_122
set_option maxHeartbeats 4000000 in
set_option maxRecDepth 100000 in
theorem wb_X5_put_107 {l : Launch} {E : Ep} {X : Fx} {res : Int32 × Hp} (C : CX E X RX5 cX5_put 5 2) (h : Hp) (a0 : Nat) (x3 : Int32) (oa0 : OKr a0 5) (hs : b_X5_put_107  h a0 x3 = some res) (hR : RT E X (some .int) (some (.int res.1)) res.2) : GG l E X h 107 [(0, .ref (ad E a0)), (3, .int x3)] [] := by
  refine g_aload_n C 0 dX5_put_107 rfl rfl ?_
  refine g_iload_n C 1 dX5_put_108 rfl rfl ?_
  refine g_if_ge (tgt := 117) C dX5_put_109 (by decide) hs (fun hs => ?_) (fun hs => ?_)
  · refine g_bipush C dX5_put_117 cc_b_m6 ?_
    refine g_sub [] rfl ?_
    exact wb_X5_put_119 C h a0 (-6 : Int32) oa0 hs hR
  · refine g_bipush C dX5_put_112 cc_b_m4 ?_
    refine g_goto (tgt := 119) C dX5_put_114 (by decide) ?_
    refine g_sub [] rfl ?_
    exact wb_X5_put_119 C h a0 (-4 : Int32) oa0 hs hR
set_option maxHeartbeats 4000000 in
set_option maxRecDepth 100000 in
theorem wb_X5_put_184 {l : Launch} {E : Ep} {X : Fx} {res : Int32 × Hp} (C : CX E X RX5 cX5_put 5 2) (h : Hp) (x4 : Int32) (b0 : Nat) (s1 : Int32) (s2 : Int32) (ob0 : OKr b0 6) (hs : b_X5_put_184  h x4 b0 s1 s2 = some res) (hR : RT E X (some .int) (some (.int res.1)) res.2) : GG l E X h 184 [(4, .int x4)] [.int s2, .int s1, .ref (ad E b0)] := by
  refine g_iast C ob0 dX5_put_184 hs (fun h1 hs => ?_)
  refine g_iload C 0 dX5_put_185 rfl ?_
  have e9 := Option.some.inj hs
  subst e9
  exact g_iret C hR dX5_put_187
set_option maxHeartbeats 4000000 in
set_option maxRecDepth 100000 in
theorem wb_X5_put_163 {l : Launch} {E : Ep} {X : Fx} {res : Int32 × Hp} (C : CX E X RX5 cX5_put 5 2) (h : Hp) (a0 : Nat) (x1 : Int32) (x2 : Int32) (x3 : Int32) (x4 : Int32) (b0 : Nat) (s1 : Int32) (s2 : Int32) (oa0 : OKr a0 5) (ob0 : OKr b0 6) (hs : b_X5_put_163  h a0 x1 x2 x3 x4 b0 s1 s2 = some res) (hR : RT E X (some .int) (some (.int res.1)) res.2) : GG l E X h 163 [(0, .ref (ad E a0)), (1, .int x1), (2, .int x2), (3, .int x3), (4, .int x4)] [.int s2, .int s1, .ref (ad E b0)] := by
  refine g_iast C ob0 dX5_put_163 hs (fun h1 hs => ?_)
  refine g_aload_n C 0 dX5_put_164 rfl rfl ?_
  refine gf5_8 C oa0 lf_X5_23 dX5_put_165 ?_
  refine g_iload_n C 1 dX5_put_168 rfl rfl ?_
  refine g_iload_n C 2 dX5_put_169 rfl rfl ?_
  refine g_iconst C dX5_put_170 cc_i_1 ?_
  refine g_icmp_ne (tgt := 178) C dX5_put_171 (by decide) hs (fun hs => ?_) (fun hs => ?_)
  · refine g_iload_n C 3 dX5_put_174 rfl rfl ?_
    refine g_goto (tgt := 184) C dX5_put_175 (by decide) ?_
    refine g_sub [4] rfl ?_
    exact wb_X5_put_184 C h1 x4 (rf a0 8) x1 x3 (tg5_8 oa0) hs hR
  · refine g_aload_n C 0 dX5_put_178 rfl rfl ?_
    refine gf5_8 C oa0 lf_X5_23 dX5_put_179 ?_
    refine g_iload_n C 1 dX5_put_182 rfl rfl ?_
    refine g_iald C (tg5_8 oa0) dX5_put_183 hs (fun v2 hs => ?_)
    refine g_sub [4] rfl ?_
    exact wb_X5_put_184 C h1 x4 (rf a0 8) x1 v2 (tg5_8 oa0) hs hR
set_option maxHeartbeats 4000000 in
set_option maxRecDepth 100000 in
theorem wb_X5_put_142 {l : Launch} {E : Ep} {X : Fx} {res : Int32 × Hp} (C : CX E X RX5 cX5_put 5 2) (h : Hp) (a0 : Nat) (x1 : Int32) (x2 : Int32) (x3 : Int32) (s0 : Int32) (oa0 : OKr a0 5) (hs : b_X5_put_142  h a0 x1 x2 x3 s0 = some res) (hR : RT E X (some .int) (some (.int res.1)) res.2) : GG l E X h 142 [(0, .ref (ad E a0)), (1, .int x1), (2, .int x2), (3, .int x3)] [.int s0] := by
  refine g_istore (lv' := [(4, .int s0), (0, .ref (ad E a0)), (1, .int x1), (2, .int x2), (3, .int x3)]) C dX5_put_142 (by decide) rfl ?_
  refine g_aload_n C 1 dX5_put_144 rfl rfl ?_
  refine gf5_10 C oa0 lf_X5_29 dX5_put_145 ?_
  refine g_iload_n C 2 dX5_put_148 rfl rfl ?_
  refine g_iload_n C 3 dX5_put_149 rfl rfl ?_
  refine g_if_ne (tgt := 157) C dX5_put_150 (by decide) hs (fun hs => ?_) (fun hs => ?_)
  · refine g_iload_n C 4 dX5_put_153 rfl rfl ?_
    refine g_goto (tgt := 163) C dX5_put_154 (by decide) ?_
    refine g_sub [1, 2, 3, 4, 0] rfl ?_
    exact wb_X5_put_163 C h a0 x1 x2 x3 s0 (rf a0 10) x1 x3 oa0 (tg5_10 oa0) hs hR
  · refine g_aload_n C 1 dX5_put_157 rfl rfl ?_
    refine gf5_10 C oa0 lf_X5_29 dX5_put_158 ?_
    refine g_iload_n C 2 dX5_put_161 rfl rfl ?_
    refine g_iald C (tg5_10 oa0) dX5_put_162 hs (fun v1 hs => ?_)
    refine g_sub [1, 2, 3, 4, 0] rfl ?_
    exact wb_X5_put_163 C h a0 x1 x2 x3 s0 (rf a0 10) x1 v1 oa0 (tg5_10 oa0) hs hR
set_option maxHeartbeats 4000000 in
set_option maxRecDepth 100000 in
theorem wb_X5_put_104 {l : Launch} {E : Ep} {X : Fx} {res : Int32 × Hp} (C : CX E X RX5 cX5_put 5 2) (h : Hp) (a0 : Nat) (x1 : Int32) (x2 : Int32) (x3 : Int32) (s0 : Int32) (s1 : Int32) (oa0 : OKr a0 5) (hs : b_X5_put_104  h a0 x1 x2 x3 s0 s1 = some res) (hR : RT E X (some .int) (some (.int res.1)) res.2) : GG l E X h 104 [(0, .ref (ad E a0)), (1, .int x1), (2, .int x2), (3, .int x3)] [.int s1, .int s0] := by
  refine g_icmp_le (tgt := 123) C dX5_put_104 (by decide) hs (fun hs => ?_) (fun hs => ?_)
  · refine g_iload_n C 2 dX5_put_123 rfl rfl ?_
    refine g_if_ne (tgt := 136) C dX5_put_124 (by decide) hs (fun hs => ?_) (fun hs => ?_)
    · refine g_aload_n C 0 dX5_put_127 rfl rfl ?_
      refine gf5_10 C oa0 lf_X5_29 dX5_put_128 ?_
      refine g_iload_n C 1 dX5_put_131 rfl rfl ?_
      refine g_iald C (tg5_10 oa0) dX5_put_132 hs (fun v1 hs => ?_)
      refine g_goto (tgt := 142) C dX5_put_133 (by decide) ?_
      exact wb_X5_put_142 C h a0 x1 x2 x3 v1 oa0 hs hR
    · refine g_aload_n C 0 dX5_put_136 rfl rfl ?_
      refine gf5_8 C oa0 lf_X5_23 dX5_put_137 ?_
      refine g_iload_n C 1 dX5_put_140 rfl rfl ?_
      refine g_iald C (tg5_8 oa0) dX5_put_141 hs (fun v2 hs => ?_)
      exact wb_X5_put_142 C h a0 x1 x2 x3 v2 oa0 hs hR
  · refine g_sub [0, 3] rfl ?_
    exact wb_X5_put_107 C h a0 x3 oa0 hs hR
set_option maxHeartbeats 4000000 in
set_option maxRecDepth 100000 in
theorem w_X5_put (l : Launch) (E : Ep) (h : Hp) (a0 : Nat) (x1 : Int32) (x2 : Int32) (x3 : Int32) (res : Int32 × Hp) (oa0 : OKr a0 5) (hs : sh_X5_put h a0 x1 x2 x3 = some res) : MG l E yX5_put cX5_put 5 (some .int) 2 [.ref (ad E a0), .int x1, .int x2, .int x3] h (some (.int res.1)) res.2 := by
  refine MG.of (by decide) (Nat.le_of_ble_eq_true rfl) ?_
  intro X C hR
  have C : CX E X RX5 cX5_put 5 2 := C
  show GG l E X h 0 [(0, .ref (ad E a0)), (1, .int x1), (2, .int x2), (3, .int x3)] []
  refine g_aload_n C 0 dX5_put_0 rfl rfl ?_
  refine g_iconst C dX5_put_1 cc_i_0 ?_
  refine pf5_13 C oa0 lf_X5_68 dX5_put_2 ?_
  refine g_aload_n C 0 dX5_put_5 rfl rfl ?_
  refine g_iload_n C 1 dX5_put_6 rfl rfl ?_
  obtain ⟨v1, hcv1, hs⟩ := bnd hs
  refine g_cV (As := [.int x1]) (rest := []) C (w_X5_isOne l E _ _ _ _ oa0 hcv1) mw_X5_isOne lm_X5_199 oa0 rfl (ce5 E _ (oa0).2) rfl (by decide) rfl (Nat.le_of_ble_eq_true rfl) dX5_put_7 rfl ?_
  refine g_if_eq (tgt := 25) C dX5_put_10 (by decide) hs (fun hs => ?_) (fun hs => ?_)
  · refine g_sub [0, 1] rfl ?_
    exact wb_X5_put_25 C (wI h a0 13 (0 : Int32)) a0 x1 oa0 hs hR
  · refine g_iload_n C 2 dX5_put_13 rfl rfl ?_
    refine g_i2l C dX5_put_14 ?_
    refine g_lconst (v := (0 : Int64)) C dX5_put_15 (by decide) ?_
    refine g_ldc2 C dX5_put_16 kk_X5_207 ?_
    obtain ⟨v2, hcv2, hs⟩ := bnd hs
    refine g_cS (As := [.long (x2).toInt64, .long (0 : Int64), .long (2 : Int64)]) (rest := []) C (w_X5_in l E _ _ _ _ _ hcv2) mw_X5_in lm_X5_74 rfl (by decide) rfl (Nat.le_of_ble_eq_true rfl) dX5_put_19 rfl ?_
    refine g_if_ne (tgt := 44) C dX5_put_22 (by decide) hs (fun hs => ?_) (fun hs => ?_)
    · refine g_sub [0, 1] rfl ?_
      exact wb_X5_put_25 C (wI h a0 13 (0 : Int32)) a0 x1 oa0 hs hR
    · refine g_iload_n C 2 dX5_put_44 rfl rfl ?_
      refine g_iconst C dX5_put_45 cc_i_2 ?_
      refine g_icmp_ne (tgt := 87) C dX5_put_46 (by decide) hs (fun hs => ?_) (fun hs => ?_)
      · refine g_aload_n C 0 dX5_put_49 rfl rfl ?_
        refine g_iload_n C 3 dX5_put_50 rfl rfl ?_
        obtain ⟨v3, hcv3, hs⟩ := bnd hs
        refine g_cV (As := [.int x3]) (rest := []) C (w_X5_isOne l E _ _ _ _ oa0 hcv3) mw_X5_isOne lm_X5_199 oa0 rfl (ce5 E _ (oa0).2) rfl (by decide) rfl (Nat.le_of_ble_eq_true rfl) dX5_put_51 rfl ?_
        refine g_if_ne (tgt := 69) C dX5_put_54 (by decide) hs (fun hs => ?_) (fun hs => ?_)
        · refine g_iload_n C 3 dX5_put_57 rfl rfl ?_
          refine g_bipush C dX5_put_58 cc_b_9 ?_
          refine g_icmp_eq (tgt := 69) C dX5_put_60 (by decide) hs (fun hs => ?_) (fun hs => ?_)
          · refine g_sub [0, 1, 3] rfl ?_
            exact wb_X5_put_69 C (wI h a0 13 (0 : Int32)) a0 x1 x3 oa0 hs hR
          · refine g_aload_n C 0 dX5_put_63 rfl rfl ?_
            refine g_iconst C dX5_put_64 cc_i_m1 ?_
            obtain ⟨q4, hcq4, hs⟩ := bnd hs
            refine g_cV (As := [.int (-1 : Int32)]) (rest := []) C (w_X5_refuse l E _ _ _ _ oa0 hcq4) mw_X5_refuse lm_X5_152 oa0 rfl (ce5 E _ (oa0).2) rfl (by decide) rfl (Nat.le_of_ble_eq_true rfl) dX5_put_65 rfl ?_
            have e9 := Option.some.inj hs
            subst e9
            exact g_iret C hR dX5_put_68
        · refine g_sub [0, 1, 3] rfl ?_
          exact wb_X5_put_69 C (wI h a0 13 (0 : Int32)) a0 x1 x3 oa0 hs hR
      · refine g_iload_n C 3 dX5_put_87 rfl rfl ?_
        refine g_if_lt (tgt := 107) C dX5_put_88 (by decide) hs (fun hs => ?_) (fun hs => ?_)
        · refine g_sub [0, 3] rfl ?_
          exact wb_X5_put_107 C (wI h a0 13 (0 : Int32)) a0 x3 oa0 hs hR
        · refine g_iload_n C 3 dX5_put_91 rfl rfl ?_
          refine g_iload_n C 2 dX5_put_92 rfl rfl ?_
          refine g_if_ne (tgt := 102) C dX5_put_93 (by decide) hs (fun hs => ?_) (fun hs => ?_)
          · refine g_sipush C dX5_put_96 cc_s_9999 ?_
            refine g_goto (tgt := 104) C dX5_put_99 (by decide) ?_
            exact wb_X5_put_104 C (wI h a0 13 (0 : Int32)) a0 x1 x2 x3 x3 (9999 : Int32) oa0 hs hR
          · refine g_bipush C dX5_put_102 cc_b_99 ?_
            exact wb_X5_put_104 C (wI h a0 13 (0 : Int32)) a0 x1 x2 x3 x3 (99 : Int32) oa0 hs hR
set_option maxHeartbeats 4000000 in
set_option maxRecDepth 100000 in
theorem wb_X5_set_66 {l : Launch} {E : Ep} {X : Fx} {res : Int32 × Hp} (C : CX E X RX5 cX5_set 4 1) (h : Hp) (b0 : Nat) (s1 : Int32) (ob0 : OKr b0 5) (hs : b_X5_set_66  h b0 s1 = some res) (hR : RT E X (some .int) (some (.int res.1)) res.2) : GG l E X h 66 [] [.int s1, .ref (ad E b0)] := by
  obtain ⟨q1, hcq1, hs⟩ := bnd hs
  refine g_cV (As := [.int s1]) (rest := []) C (w_X5_refuse l E _ _ _ _ ob0 hcq1) mw_X5_refuse lm_X5_152 ob0 rfl (ce5 E _ (ob0).2) rfl (by decide) rfl (Nat.le_of_ble_eq_true rfl) dX5_set_66 rfl ?_
  have e9 := Option.some.inj hs
  subst e9
  exact g_iret C hR dX5_set_69
set_option maxHeartbeats 4000000 in
set_option maxRecDepth 100000 in
theorem wb_X5_set_53 {l : Launch} {E : Ep} {X : Fx} {res : Int32 × Hp} (C : CX E X RX5 cX5_set 4 1) (h : Hp) (a0 : Nat) (x2 : Int32) (oa0 : OKr a0 5) (hs : b_X5_set_53  h a0 x2 = some res) (hR : RT E X (some .int) (some (.int res.1)) res.2) : GG l E X h 53 [(0, .ref (ad E a0)), (2, .int x2)] [] := by
  refine g_aload_n C 0 dX5_set_53 rfl rfl ?_
  refine g_iload_n C 1 dX5_set_54 rfl rfl ?_
  refine g_iconst C dX5_set_55 cc_i_1 ?_
  refine g_icmp_ge (tgt := 64) C dX5_set_56 (by decide) hs (fun hs => ?_) (fun hs => ?_)
  · refine g_bipush C dX5_set_64 cc_b_m6 ?_
    refine g_sub [] rfl ?_
    exact wb_X5_set_66 C h a0 (-6 : Int32) oa0 hs hR
  · refine g_bipush C dX5_set_59 cc_b_m4 ?_
    refine g_goto (tgt := 66) C dX5_set_61 (by decide) ?_
    refine g_sub [] rfl ?_
    exact wb_X5_set_66 C h a0 (-4 : Int32) oa0 hs hR
set_option maxHeartbeats 4000000 in
set_option maxRecDepth 100000 in
theorem wb_X5_set_174 {l : Launch} {E : Ep} {X : Fx} {res : Int32 × Hp} (C : CX E X RX5 cX5_set 4 1) (h : Hp) (x3 : Int32) (b0 : Nat) (s1 : Int32) (ob0 : OKr b0 5) (hs : b_X5_set_174  h x3 b0 s1 = some res) (hR : RT E X (some .int) (some (.int res.1)) res.2) : GG l E X h 174 [(3, .int x3)] [.int s1, .ref (ad E b0)] := by
  refine pf5_5 C ob0 lf_X5_13 dX5_set_174 ?_
  refine g_iload_n C 0 dX5_set_177 rfl rfl ?_
  have e9 := Option.some.inj hs
  subst e9
  exact g_iret C hR dX5_set_178
set_option maxHeartbeats 4000000 in
set_option maxRecDepth 100000 in
theorem wb_X5_set_157 {l : Launch} {E : Ep} {X : Fx} {res : Int32 × Hp} (C : CX E X RX5 cX5_set 4 1) (h : Hp) (a0 : Nat) (x1 : Int32) (x2 : Int32) (x3 : Int32) (b0 : Nat) (s1 : Int32) (oa0 : OKr a0 5) (ob0 : OKr b0 5) (hs : b_X5_set_157  h a0 x1 x2 x3 b0 s1 = some res) (hR : RT E X (some .int) (some (.int res.1)) res.2) : GG l E X h 157 [(0, .ref (ad E a0)), (1, .int x1), (2, .int x2), (3, .int x3)] [.int s1, .ref (ad E b0)] := by
  refine pf5_4 C ob0 lf_X5_85 dX5_set_157 ?_
  refine g_aload_n C 0 dX5_set_160 rfl rfl ?_
  refine g_iload_n C 1 dX5_set_161 rfl rfl ?_
  refine g_iconst C dX5_set_162 cc_i_3 ?_
  refine g_icmp_ne (tgt := 170) C dX5_set_163 (by decide) hs (fun hs => ?_) (fun hs => ?_)
  · refine g_iload_n C 2 dX5_set_166 rfl rfl ?_
    refine g_goto (tgt := 174) C dX5_set_167 (by decide) ?_
    refine g_sub [3] rfl ?_
    exact wb_X5_set_174 C (wI h b0 4 s1) x3 a0 x2 oa0 hs hR
  · refine g_aload_n C 0 dX5_set_170 rfl rfl ?_
    refine gf5_5 C oa0 lf_X5_13 dX5_set_171 ?_
    refine g_sub [3] rfl ?_
    exact wb_X5_set_174 C (wI h b0 4 s1) x3 a0 ((wI h b0 4 s1).1 a0 5) oa0 hs hR
set_option maxHeartbeats 4000000 in
set_option maxRecDepth 100000 in
theorem wb_X5_set_140 {l : Launch} {E : Ep} {X : Fx} {res : Int32 × Hp} (C : CX E X RX5 cX5_set 4 1) (h : Hp) (a0 : Nat) (x1 : Int32) (x2 : Int32) (x3 : Int32) (b0 : Nat) (s1 : Int32) (oa0 : OKr a0 5) (ob0 : OKr b0 5) (hs : b_X5_set_140  h a0 x1 x2 x3 b0 s1 = some res) (hR : RT E X (some .int) (some (.int res.1)) res.2) : GG l E X h 140 [(0, .ref (ad E a0)), (1, .int x1), (2, .int x2), (3, .int x3)] [.int s1, .ref (ad E b0)] := by
  refine pf5_3 C ob0 lf_X5_7 dX5_set_140 ?_
  refine g_aload_n C 0 dX5_set_143 rfl rfl ?_
  refine g_iload_n C 1 dX5_set_144 rfl rfl ?_
  refine g_iconst C dX5_set_145 cc_i_2 ?_
  refine g_icmp_ne (tgt := 153) C dX5_set_146 (by decide) hs (fun hs => ?_) (fun hs => ?_)
  · refine g_iload_n C 2 dX5_set_149 rfl rfl ?_
    refine g_goto (tgt := 157) C dX5_set_150 (by decide) ?_
    exact wb_X5_set_157 C (wI h b0 3 s1) a0 x1 x2 x3 a0 x2 oa0 oa0 hs hR
  · refine g_aload_n C 0 dX5_set_153 rfl rfl ?_
    refine gf5_4 C oa0 lf_X5_85 dX5_set_154 ?_
    exact wb_X5_set_157 C (wI h b0 3 s1) a0 x1 x2 x3 a0 ((wI h b0 3 s1).1 a0 4) oa0 oa0 hs hR
set_option maxHeartbeats 4000000 in
set_option maxRecDepth 100000 in
theorem wb_X5_set_123 {l : Launch} {E : Ep} {X : Fx} {res : Int32 × Hp} (C : CX E X RX5 cX5_set 4 1) (h : Hp) (a0 : Nat) (x1 : Int32) (x2 : Int32) (x3 : Int32) (b0 : Nat) (s1 : Int32) (oa0 : OKr a0 5) (ob0 : OKr b0 5) (hs : b_X5_set_123  h a0 x1 x2 x3 b0 s1 = some res) (hR : RT E X (some .int) (some (.int res.1)) res.2) : GG l E X h 123 [(0, .ref (ad E a0)), (1, .int x1), (2, .int x2), (3, .int x3)] [.int s1, .ref (ad E b0)] := by
  refine pf5_2 C ob0 lf_X5_96 dX5_set_123 ?_
  refine g_aload_n C 0 dX5_set_126 rfl rfl ?_
  refine g_iload_n C 1 dX5_set_127 rfl rfl ?_
  refine g_iconst C dX5_set_128 cc_i_1 ?_
  refine g_icmp_ne (tgt := 136) C dX5_set_129 (by decide) hs (fun hs => ?_) (fun hs => ?_)
  · refine g_iload_n C 2 dX5_set_132 rfl rfl ?_
    refine g_goto (tgt := 140) C dX5_set_133 (by decide) ?_
    exact wb_X5_set_140 C (wI h b0 2 s1) a0 x1 x2 x3 a0 x2 oa0 oa0 hs hR
  · refine g_aload_n C 0 dX5_set_136 rfl rfl ?_
    refine gf5_3 C oa0 lf_X5_7 dX5_set_137 ?_
    exact wb_X5_set_140 C (wI h b0 2 s1) a0 x1 x2 x3 a0 ((wI h b0 2 s1).1 a0 3) oa0 oa0 hs hR
set_option maxHeartbeats 4000000 in
set_option maxRecDepth 100000 in
theorem wb_X5_set_109 {l : Launch} {E : Ep} {X : Fx} {res : Int32 × Hp} (C : CX E X RX5 cX5_set 4 1) (h : Hp) (a0 : Nat) (x1 : Int32) (x2 : Int32) (s0 : Int32) (oa0 : OKr a0 5) (hs : b_X5_set_109  h a0 x1 x2 s0 = some res) (hR : RT E X (some .int) (some (.int res.1)) res.2) : GG l E X h 109 [(0, .ref (ad E a0)), (1, .int x1), (2, .int x2)] [.int s0] := by
  refine g_istore_n (lv' := [(3, .int s0), (0, .ref (ad E a0)), (1, .int x1), (2, .int x2)]) C dX5_set_109 rfl (by decide) rfl ?_
  refine g_aload_n C 1 dX5_set_110 rfl rfl ?_
  refine g_iload_n C 2 dX5_set_111 rfl rfl ?_
  refine g_if_ne (tgt := 119) C dX5_set_112 (by decide) hs (fun hs => ?_) (fun hs => ?_)
  · refine g_iload_n C 3 dX5_set_115 rfl rfl ?_
    refine g_goto (tgt := 123) C dX5_set_116 (by decide) ?_
    refine g_sub [1, 2, 3, 0] rfl ?_
    exact wb_X5_set_123 C h a0 x1 x2 s0 a0 x2 oa0 oa0 hs hR
  · refine g_aload_n C 1 dX5_set_119 rfl rfl ?_
    refine gf5_2 C oa0 lf_X5_96 dX5_set_120 ?_
    refine g_sub [1, 2, 3, 0] rfl ?_
    exact wb_X5_set_123 C h a0 x1 x2 s0 a0 (h.1 a0 2) oa0 oa0 hs hR
set_option maxHeartbeats 4000000 in
set_option maxRecDepth 100000 in
theorem wb_X5_set_50 {l : Launch} {E : Ep} {X : Fx} {res : Int32 × Hp} (C : CX E X RX5 cX5_set 4 1) (h : Hp) (a0 : Nat) (x1 : Int32) (x2 : Int32) (s0 : Int32) (s1 : Int32) (oa0 : OKr a0 5) (hs : b_X5_set_50  h a0 x1 x2 s0 s1 = some res) (hR : RT E X (some .int) (some (.int res.1)) res.2) : GG l E X h 50 [(0, .ref (ad E a0)), (1, .int x1), (2, .int x2)] [.int s1, .int s0] := by
  refine g_icmp_le (tgt := 70) C dX5_set_50 (by decide) hs (fun hs => ?_) (fun hs => ?_)
  · refine g_iload_n C 1 dX5_set_70 rfl rfl ?_
    refine g_if_ne (tgt := 81) C dX5_set_71 (by decide) hs (fun hs => ?_) (fun hs => ?_)
    · refine g_aload_n C 0 dX5_set_74 rfl rfl ?_
      refine gf5_2 C oa0 lf_X5_96 dX5_set_75 ?_
      refine g_goto (tgt := 109) C dX5_set_78 (by decide) ?_
      exact wb_X5_set_109 C h a0 x1 x2 (h.1 a0 2) oa0 hs hR
    · refine g_iload_n C 1 dX5_set_81 rfl rfl ?_
      refine g_iconst C dX5_set_82 cc_i_1 ?_
      refine g_icmp_ne (tgt := 93) C dX5_set_83 (by decide) hs (fun hs => ?_) (fun hs => ?_)
      · refine g_aload_n C 0 dX5_set_86 rfl rfl ?_
        refine gf5_3 C oa0 lf_X5_7 dX5_set_87 ?_
        refine g_goto (tgt := 109) C dX5_set_90 (by decide) ?_
        exact wb_X5_set_109 C h a0 x1 x2 (h.1 a0 3) oa0 hs hR
      · refine g_iload_n C 1 dX5_set_93 rfl rfl ?_
        refine g_iconst C dX5_set_94 cc_i_2 ?_
        refine g_icmp_ne (tgt := 105) C dX5_set_95 (by decide) hs (fun hs => ?_) (fun hs => ?_)
        · refine g_aload_n C 0 dX5_set_98 rfl rfl ?_
          refine gf5_4 C oa0 lf_X5_85 dX5_set_99 ?_
          refine g_goto (tgt := 109) C dX5_set_102 (by decide) ?_
          exact wb_X5_set_109 C h a0 x1 x2 (h.1 a0 4) oa0 hs hR
        · refine g_aload_n C 0 dX5_set_105 rfl rfl ?_
          refine gf5_5 C oa0 lf_X5_13 dX5_set_106 ?_
          exact wb_X5_set_109 C h a0 x1 x2 (h.1 a0 5) oa0 hs hR
  · refine g_sub [0, 2] rfl ?_
    exact wb_X5_set_53 C h a0 x2 oa0 hs hR
set_option maxHeartbeats 4000000 in
set_option maxRecDepth 100000 in
theorem wb_X5_set_35 {l : Launch} {E : Ep} {X : Fx} {res : Int32 × Hp} (C : CX E X RX5 cX5_set 4 1) (h : Hp) (a0 : Nat) (x1 : Int32) (x2 : Int32) (s0 : Int32) (s1 : Int32) (oa0 : OKr a0 5) (hs : b_X5_set_35  h a0 x1 x2 s0 s1 = some res) (hR : RT E X (some .int) (some (.int res.1)) res.2) : GG l E X h 35 [(0, .ref (ad E a0)), (1, .int x1), (2, .int x2)] [.int s1, .int s0] := by
  refine g_icmp_lt (tgt := 53) C dX5_set_35 (by decide) hs (fun hs => ?_) (fun hs => ?_)
  · refine g_sub [0, 2] rfl ?_
    exact wb_X5_set_53 C h a0 x2 oa0 hs hR
  · refine g_iload_n C 2 dX5_set_38 rfl rfl ?_
    refine g_iload_n C 1 dX5_set_39 rfl rfl ?_
    refine g_iconst C dX5_set_40 cc_i_3 ?_
    refine g_icmp_ne (tgt := 49) C dX5_set_41 (by decide) hs (fun hs => ?_) (fun hs => ?_)
    · refine g_bipush C dX5_set_44 cc_b_99 ?_
      refine g_goto (tgt := 50) C dX5_set_46 (by decide) ?_
      exact wb_X5_set_50 C h a0 x1 x2 x2 (99 : Int32) oa0 hs hR
    · refine g_iconst C dX5_set_49 cc_i_5 ?_
      exact wb_X5_set_50 C h a0 x1 x2 x2 (5 : Int32) oa0 hs hR
set_option maxHeartbeats 4000000 in
set_option maxRecDepth 100000 in
theorem w_X5_set (l : Launch) (E : Ep) (h : Hp) (a0 : Nat) (x1 : Int32) (x2 : Int32) (res : Int32 × Hp) (oa0 : OKr a0 5) (hs : sh_X5_set h a0 x1 x2 = some res) : MG l E yX5_set cX5_set 4 (some .int) 1 [.ref (ad E a0), .int x1, .int x2] h (some (.int res.1)) res.2 := by
  refine MG.of (by decide) (Nat.le_of_ble_eq_true rfl) ?_
  intro X C hR
  have C : CX E X RX5 cX5_set 4 1 := C
  show GG l E X h 0 [(0, .ref (ad E a0)), (1, .int x1), (2, .int x2)] []
  refine g_aload_n C 0 dX5_set_0 rfl rfl ?_
  refine g_iconst C dX5_set_1 cc_i_0 ?_
  refine pf5_13 C oa0 lf_X5_68 dX5_set_2 ?_
  refine g_iload_n C 1 dX5_set_5 rfl rfl ?_
  refine g_i2l C dX5_set_6 ?_
  refine g_lconst (v := (0 : Int64)) C dX5_set_7 (by decide) ?_
  refine g_ldc2 C dX5_set_8 kk_X5_209 ?_
  obtain ⟨v1, hcv1, hs⟩ := bnd hs
  refine g_cS (As := [.long (x1).toInt64, .long (0 : Int64), .long (3 : Int64)]) (rest := []) C (w_X5_in l E _ _ _ _ _ hcv1) mw_X5_in lm_X5_74 rfl (by decide) rfl (Nat.le_of_ble_eq_true rfl) dX5_set_11 rfl ?_
  refine g_if_ne (tgt := 24) C dX5_set_14 (by decide) hs (fun hs => ?_) (fun hs => ?_)
  · refine g_aload_n C 0 dX5_set_17 rfl rfl ?_
    refine g_bipush C dX5_set_18 cc_b_m2 ?_
    obtain ⟨q2, hcq2, hs⟩ := bnd hs
    refine g_cV (As := [.int (-2 : Int32)]) (rest := []) C (w_X5_refuse l E _ _ _ _ oa0 hcq2) mw_X5_refuse lm_X5_152 oa0 rfl (ce5 E _ (oa0).2) rfl (by decide) rfl (Nat.le_of_ble_eq_true rfl) dX5_set_20 rfl ?_
    have e9 := Option.some.inj hs
    subst e9
    exact g_iret C hR dX5_set_23
  · refine g_iload_n C 2 dX5_set_24 rfl rfl ?_
    refine g_iload_n C 1 dX5_set_25 rfl rfl ?_
    refine g_iconst C dX5_set_26 cc_i_1 ?_
    refine g_icmp_ne (tgt := 34) C dX5_set_27 (by decide) hs (fun hs => ?_) (fun hs => ?_)
    · refine g_iconst C dX5_set_30 cc_i_1 ?_
      refine g_goto (tgt := 35) C dX5_set_31 (by decide) ?_
      exact wb_X5_set_35 C (wI h a0 13 (0 : Int32)) a0 x1 x2 x2 (1 : Int32) oa0 hs hR
    · refine g_iconst C dX5_set_34 cc_i_0 ?_
      exact wb_X5_set_35 C (wI h a0 13 (0 : Int32)) a0 x1 x2 x2 (0 : Int32) oa0 hs hR
set_option maxHeartbeats 4000000 in
set_option maxRecDepth 100000 in
theorem wb_X5_wrongGift_27 {l : Launch} {E : Ep} {X : Fx} {res : Int32} (C : CX E X RX5 cX5_wrongGift 4 2) (h : Hp) (hs : b_X5_wrongGift_27  h  = some res) (hR : RT E X (some .int) (some (.int res)) h) : GG l E X h 27 [] [] := by
  refine g_iconst C dX5_wrongGift_27 cc_i_m1 ?_
  have e9 := Option.some.inj hs
  subst e9
  exact g_iret C hR dX5_wrongGift_28
set_option maxHeartbeats 4000000 in
set_option maxRecDepth 100000 in
theorem wb_X5_wrongGift_55 {l : Launch} {E : Ep} {X : Fx} {res : Int32} (C : CX E X RX5 cX5_wrongGift 4 2) (h : Hp) (s0 : Int32) (hs : b_X5_wrongGift_55  h s0 = some res) (hR : RT E X (some .int) (some (.int res)) h) : GG l E X h 55 [] [.int s0] := by
  have e9 := Option.some.inj hs
  subst e9
  exact g_iret C hR dX5_wrongGift_55
set_option maxHeartbeats 4000000 in
set_option maxRecDepth 100000 in
theorem wb_X5_wrongGift_22 {l : Launch} {E : Ep} {X : Fx} {res : Int32} (C : CX E X RX5 cX5_wrongGift 4 2) (h : Hp) (a0 : Nat) (x1 : Int32) (x2 : Int32) (x3 : Int32) (oa0 : OKr a0 5) (hs : b_X5_wrongGift_22  h a0 x1 x2 x3 = some res) (hR : RT E X (some .int) (some (.int res)) h) : GG l E X h 22 [(0, .ref (ad E a0)), (1, .int x1), (2, .int x2), (3, .int x3)] [] := by
  refine g_iload_n C 1 dX5_wrongGift_22 rfl rfl ?_
  refine g_iload_n C 2 dX5_wrongGift_23 rfl rfl ?_
  refine g_icmp_ne (tgt := 29) C dX5_wrongGift_24 (by decide) hs (fun hs => ?_) (fun hs => ?_)
  · refine g_sub [] rfl ?_
    exact wb_X5_wrongGift_27 C h hs hR
  · refine g_iload_n C 3 dX5_wrongGift_29 rfl rfl ?_
    refine g_iconst C dX5_wrongGift_30 cc_i_1 ?_
    refine g_icmp_ge (tgt := 39) C dX5_wrongGift_31 (by decide) hs (fun hs => ?_) (fun hs => ?_)
    · refine g_iload_n C 3 dX5_wrongGift_39 rfl rfl ?_
      refine g_aload_n C 0 dX5_wrongGift_40 rfl rfl ?_
      refine gf5_10 C oa0 lf_X5_29 dX5_wrongGift_41 ?_
      refine g_iload_n C 1 dX5_wrongGift_44 rfl rfl ?_
      refine g_iald C (tg5_10 oa0) dX5_wrongGift_45 hs (fun v1 hs => ?_)
      refine g_icmp_le (tgt := 54) C dX5_wrongGift_46 (by decide) hs (fun hs => ?_) (fun hs => ?_)
      · refine g_iconst C dX5_wrongGift_54 cc_i_0 ?_
        refine g_sub [] rfl ?_
        exact wb_X5_wrongGift_55 C h (0 : Int32) hs hR
      · refine g_bipush C dX5_wrongGift_49 cc_b_m6 ?_
        refine g_goto (tgt := 55) C dX5_wrongGift_51 (by decide) ?_
        refine g_sub [] rfl ?_
        exact wb_X5_wrongGift_55 C h (-6 : Int32) hs hR
    · refine g_bipush C dX5_wrongGift_34 cc_b_m4 ?_
      refine g_goto (tgt := 55) C dX5_wrongGift_36 (by decide) ?_
      refine g_sub [] rfl ?_
      exact wb_X5_wrongGift_55 C h (-4 : Int32) hs hR
set_option maxHeartbeats 4000000 in
set_option maxRecDepth 100000 in
theorem w_X5_wrongGift (l : Launch) (E : Ep) (h : Hp) (a0 : Nat) (x1 : Int32) (x2 : Int32) (x3 : Int32) (res : Int32) (oa0 : OKr a0 5) (hs : sh_X5_wrongGift h a0 x1 x2 x3 = some res) : MG l E yX5_wrongGift cX5_wrongGift 4 (some .int) 2 [.ref (ad E a0), .int x1, .int x2, .int x3] h (some (.int res)) h := by
  refine MG.of (by decide) (Nat.le_of_ble_eq_true rfl) ?_
  intro X C hR
  have C : CX E X RX5 cX5_wrongGift 4 2 := C
  show GG l E X h 0 [(0, .ref (ad E a0)), (1, .int x1), (2, .int x2), (3, .int x3)] []
  refine g_aload_n C 0 dX5_wrongGift_0 rfl rfl ?_
  refine g_iload_n C 1 dX5_wrongGift_1 rfl rfl ?_
  obtain ⟨v1, hcv1, hs⟩ := bnd hs
  refine g_cV (As := [.int x1]) (rest := []) C (w_X5_isOne l E _ _ _ _ oa0 hcv1) mw_X5_isOne lm_X5_199 oa0 rfl (ce5 E _ (oa0).2) rfl (by decide) rfl (Nat.le_of_ble_eq_true rfl) dX5_wrongGift_2 rfl ?_
  refine g_if_eq (tgt := 27) C dX5_wrongGift_5 (by decide) hs (fun hs => ?_) (fun hs => ?_)
  · refine g_sub [] rfl ?_
    exact wb_X5_wrongGift_27 C h hs hR
  · refine g_aload_n C 0 dX5_wrongGift_8 rfl rfl ?_
    refine g_iload_n C 2 dX5_wrongGift_9 rfl rfl ?_
    obtain ⟨v2, hcv2, hs⟩ := bnd hs
    refine g_cV (As := [.int x2]) (rest := []) C (w_X5_isOne l E _ _ _ _ oa0 hcv2) mw_X5_isOne lm_X5_199 oa0 rfl (ce5 E _ (oa0).2) rfl (by decide) rfl (Nat.le_of_ble_eq_true rfl) dX5_wrongGift_10 rfl ?_
    refine g_if_ne (tgt := 22) C dX5_wrongGift_13 (by decide) hs (fun hs => ?_) (fun hs => ?_)
    · refine g_iload_n C 2 dX5_wrongGift_16 rfl rfl ?_
      refine g_bipush C dX5_wrongGift_17 cc_b_9 ?_
      refine g_icmp_ne (tgt := 27) C dX5_wrongGift_19 (by decide) hs (fun hs => ?_) (fun hs => ?_)
      · exact wb_X5_wrongGift_22 C h a0 x1 x2 x3 oa0 hs hR
      · refine g_sub [] rfl ?_
        exact wb_X5_wrongGift_27 C h hs hR
    · exact wb_X5_wrongGift_22 C h a0 x1 x2 x3 oa0 hs hR
set_option maxHeartbeats 4000000 in
set_option maxRecDepth 100000 in
theorem w_X5_addGift (l : Launch) (E : Ep) (h : Hp) (a0 : Nat) (x1 : Int32) (x2 : Int32) (x3 : Int32) (res : Hp) (oa0 : OKr a0 5) (hs : sh_X5_addGift h a0 x1 x2 x3 = some res) : MG l E yX5_addGift cX5_addGift 4 none 0 [.ref (ad E a0), .int x1, .int x2, .int x3] h none res := by
  refine MG.of (by decide) (Nat.le_of_ble_eq_true rfl) ?_
  intro X C hR
  have C : CX E X RX5 cX5_addGift 4 0 := C
  show GG l E X h 0 [(0, .ref (ad E a0)), (1, .int x1), (2, .int x2), (3, .int x3)] []
  refine g_aload_n C 0 dX5_addGift_0 rfl rfl ?_
  refine gf5_11 C oa0 lf_X5_32 dX5_addGift_1 ?_
  refine g_bipush C dX5_addGift_4 cc_b_42 ?_
  refine g_aload_n C 0 dX5_addGift_6 rfl rfl ?_
  refine gf5_1 C oa0 lf_X5_78 dX5_addGift_7 ?_
  refine g_bipush C dX5_addGift_10 cc_b_11 ?_
  refine g_iremC C dX5_addGift_12 (by decide) ?_
  refine g_imul C dX5_addGift_13 ?_
  refine g_bipush C dX5_addGift_14 cc_b_7 ?_
  refine g_iload_n C 1 dX5_addGift_16 rfl rfl ?_
  refine g_imul C dX5_addGift_17 ?_
  refine g_iadd C dX5_addGift_18 ?_
  refine g_iload_n C 2 dX5_addGift_19 rfl rfl ?_
  refine g_iadd C dX5_addGift_20 ?_
  refine g_dup2 C dX5_addGift_21 rfl rfl ?_
  refine g_iald C (tg5_11 oa0) dX5_addGift_22 hs (fun v1 hs => ?_)
  refine g_iload_n C 3 dX5_addGift_23 rfl rfl ?_
  refine g_iadd C dX5_addGift_24 ?_
  refine g_iast C (tg5_11 oa0) dX5_addGift_25 hs (fun h2 hs => ?_)
  refine g_aload_n C 0 dX5_addGift_26 rfl rfl ?_
  refine gf5_10 C oa0 lf_X5_29 dX5_addGift_27 ?_
  refine g_iload_n C 1 dX5_addGift_30 rfl rfl ?_
  refine g_dup2 C dX5_addGift_31 rfl rfl ?_
  refine g_iald C (tg5_10 oa0) dX5_addGift_32 hs (fun v3 hs => ?_)
  refine g_iload_n C 3 dX5_addGift_33 rfl rfl ?_
  refine g_isub C dX5_addGift_34 ?_
  refine g_iast C (tg5_10 oa0) dX5_addGift_35 hs (fun h4 hs => ?_)
  have e9 := Option.some.inj hs
  subst e9
  exact g_vret C hR dX5_addGift_36
set_option maxHeartbeats 4000000 in
set_option maxRecDepth 100000 in
theorem wb_X5_give_40 {l : Launch} {E : Ep} {X : Fx} {res : Int32 × Hp} (C : CX E X RX5 cX5_give 5 3) (h : Hp) (a0 : Nat) (x1 : Int32) (x3 : Int32) (b0 : Nat) (s1 : Int32) (s2 : Int32) (oa0 : OKr a0 5) (ob0 : OKr b0 5) (hs : b_X5_give_40  h a0 x1 x3 b0 s1 s2 = some res) (hR : RT E X (some .int) (some (.int res.1)) res.2) : GG l E X h 40 [(0, .ref (ad E a0)), (1, .int x1), (3, .int x3)] [.int s2, .int s1, .ref (ad E b0)] := by
  refine g_iload_n C 2 dX5_give_40 rfl rfl ?_
  obtain ⟨h1, hch1, hs⟩ := bnd hs
  refine g_cV (As := [.int s1, .int s2, .int x3]) (rest := []) C (w_X5_addGift l E _ _ _ _ _ _ ob0 hch1) mw_X5_addGift lm_X5_115 ob0 rfl (ce5 E _ (ob0).2) rfl (by decide) rfl (Nat.le_of_ble_eq_true rfl) dX5_give_41 rfl ?_
  refine g_aload_n C 0 dX5_give_44 rfl rfl ?_
  refine gf5_10 C oa0 lf_X5_29 dX5_give_45 ?_
  refine g_iload_n C 1 dX5_give_48 rfl rfl ?_
  refine g_iald C (tg5_10 oa0) dX5_give_49 hs (fun v2 hs => ?_)
  have e9 := Option.some.inj hs
  subst e9
  exact g_iret C hR dX5_give_50
set_option maxHeartbeats 4000000 in
set_option maxRecDepth 100000 in
theorem w_X5_give (l : Launch) (E : Ep) (h : Hp) (a0 : Nat) (x1 : Int32) (x2 : Int32) (x3 : Int32) (res : Int32 × Hp) (oa0 : OKr a0 5) (hs : sh_X5_give h a0 x1 x2 x3 = some res) : MG l E yX5_give cX5_give 5 (some .int) 3 [.ref (ad E a0), .int x1, .int x2, .int x3] h (some (.int res.1)) res.2 := by
  refine MG.of (by decide) (Nat.le_of_ble_eq_true rfl) ?_
  intro X C hR
  have C : CX E X RX5 cX5_give 5 3 := C
  show GG l E X h 0 [(0, .ref (ad E a0)), (1, .int x1), (2, .int x2), (3, .int x3)] []
  refine g_aload_n C 0 dX5_give_0 rfl rfl ?_
  refine g_iconst C dX5_give_1 cc_i_0 ?_
  refine pf5_13 C oa0 lf_X5_68 dX5_give_2 ?_
  refine g_aload_n C 0 dX5_give_5 rfl rfl ?_
  refine g_iload_n C 1 dX5_give_6 rfl rfl ?_
  refine g_iload_n C 2 dX5_give_7 rfl rfl ?_
  refine g_iload_n C 3 dX5_give_8 rfl rfl ?_
  obtain ⟨v1, hcv1, hs⟩ := bnd hs
  refine g_cV (As := [.int x1, .int x2, .int x3]) (rest := []) C (w_X5_wrongGift l E _ _ _ _ _ _ oa0 hcv1) mw_X5_wrongGift lm_X5_211 oa0 rfl (ce5 E _ (oa0).2) rfl (by decide) rfl (Nat.le_of_ble_eq_true rfl) dX5_give_9 rfl ?_
  refine g_istore (lv' := [(4, .int v1), (0, .ref (ad E a0)), (1, .int x1), (2, .int x2), (3, .int x3)]) C dX5_give_12 (by decide) rfl ?_
  refine g_iload C 0 dX5_give_14 rfl ?_
  refine g_if_ge (tgt := 26) C dX5_give_16 (by decide) hs (fun hs => ?_) (fun hs => ?_)
  · refine g_aload_n C 1 dX5_give_26 rfl rfl ?_
    refine g_iload_n C 2 dX5_give_27 rfl rfl ?_
    refine g_iload_n C 3 dX5_give_28 rfl rfl ?_
    refine g_bipush C dX5_give_29 cc_b_9 ?_
    refine g_icmp_ne (tgt := 39) C dX5_give_31 (by decide) hs (fun hs => ?_) (fun hs => ?_)
    · refine g_bipush C dX5_give_34 cc_b_6 ?_
      refine g_goto (tgt := 40) C dX5_give_36 (by decide) ?_
      refine g_sub [1, 2, 4] rfl ?_
      exact wb_X5_give_40 C (wI h a0 13 (0 : Int32)) a0 x1 x3 a0 x1 (6 : Int32) oa0 oa0 hs hR
    · refine g_iload_n C 3 dX5_give_39 rfl rfl ?_
      refine g_sub [1, 2, 4] rfl ?_
      exact wb_X5_give_40 C (wI h a0 13 (0 : Int32)) a0 x1 x3 a0 x1 x2 oa0 oa0 hs hR
  · refine g_aload_n C 1 dX5_give_19 rfl rfl ?_
    refine g_iload C 0 dX5_give_20 rfl ?_
    obtain ⟨q2, hcq2, hs⟩ := bnd hs
    refine g_cV (As := [.int v1]) (rest := []) C (w_X5_refuse l E _ _ _ _ oa0 hcq2) mw_X5_refuse lm_X5_152 oa0 rfl (ce5 E _ (oa0).2) rfl (by decide) rfl (Nat.le_of_ble_eq_true rfl) dX5_give_22 rfl ?_
    have e9 := Option.some.inj hs
    subst e9
    exact g_iret C hR dX5_give_25
set_option maxHeartbeats 4000000 in
set_option maxRecDepth 100000 in
theorem wb_X5_endDay_121 {l : Launch} {E : Ep} {X : Fx} {res : Hp} (C : CX E X RX5 cX5_endDay 3 4) : ∀ (n : Nat) (h : Hp) (a0 : Nat) (x1 : Int32) (oa0 : OKr a0 5), b_X5_endDay_121  n h a0 x1 = some res → RT E X none none res → GG l E X h 121 [(0, .ref (ad E a0)), (1, .int x1)] [] := by
  intro n
  induction n with
  | zero =>
    intro h a0 x1 oa0
    intro hs
    exact absurd hs (by intro e; cases e)
  | succ n ih =>
    intro h a0 x1 oa0 hs hR
    have hk121 := ih
    have hs : f_X5_endDay_121  (b_X5_endDay_121  n) h a0 x1 = some res := hs
    generalize b_X5_endDay_121  n = k121 at hs hk121
    refine g_iload_n C 1 dX5_endDay_121 rfl rfl ?_
    refine g_bipush C dX5_endDay_122 cc_b_42 ?_
    refine g_icmp_ge (tgt := 151) C dX5_endDay_124 (by decide) hs (fun hs => ?_) (fun hs => ?_)
    · have e9 := Option.some.inj hs
      subst e9
      exact g_vret C hR dX5_endDay_151
    · refine g_aload_n C 0 dX5_endDay_127 rfl rfl ?_
      refine gf5_11 C oa0 lf_X5_32 dX5_endDay_128 ?_
      refine g_bipush C dX5_endDay_131 cc_b_42 ?_
      refine g_aload_n C 0 dX5_endDay_133 rfl rfl ?_
      refine gf5_1 C oa0 lf_X5_78 dX5_endDay_134 ?_
      refine g_bipush C dX5_endDay_137 cc_b_11 ?_
      refine g_iremC C dX5_endDay_139 (by decide) ?_
      refine g_imul C dX5_endDay_140 ?_
      refine g_iload_n C 1 dX5_endDay_141 rfl rfl ?_
      refine g_iadd C dX5_endDay_142 ?_
      refine g_iconst C dX5_endDay_143 cc_i_0 ?_
      refine g_iast C (tg5_11 oa0) dX5_endDay_144 hs (fun h1 hs => ?_)
      refine g_iinc (lv' := [(1, .int (x1 + (1 : Int32))), (0, .ref (ad E a0))]) (j := 1) C dX5_endDay_145 rfl (cc_n_1 _) (by decide) rfl ?_
      refine g_goto (tgt := 121) C dX5_endDay_148 (by decide) ?_
      refine g_sub [1, 0] rfl ?_
      exact hk121 h1 a0 (x1 + (1 : Int32)) oa0 hs hR
set_option maxHeartbeats 4000000 in
set_option maxRecDepth 100000 in
theorem wb_X5_endDay_80 {l : Launch} {E : Ep} {X : Fx} {res : Hp} (C : CX E X RX5 cX5_endDay 3 4) : ∀ (n : Nat) (h : Hp) (a0 : Nat) (x1 : Int32) (oa0 : OKr a0 5), b_X5_endDay_80  n h a0 x1 = some res → RT E X none none res → GG l E X h 80 [(0, .ref (ad E a0)), (1, .int x1)] [] := by
  intro n
  induction n with
  | zero =>
    intro h a0 x1 oa0
    intro hs
    exact absurd hs (by intro e; cases e)
  | succ n ih =>
    intro h a0 x1 oa0 hs hR
    have hk80 := ih
    have hs : f_X5_endDay_80  (b_X5_endDay_80  n) h a0 x1 = some res := hs
    generalize b_X5_endDay_80  n = k80 at hs hk80
    refine g_iload_n C 1 dX5_endDay_80 rfl rfl ?_
    refine g_aload_n C 0 dX5_endDay_81 rfl rfl ?_
    refine gf5_0 C oa0 lf_X5_71 dX5_endDay_82 ?_
    refine g_icmp_ge (tgt := 109) C dX5_endDay_85 (by decide) hs (fun hs => ?_) (fun hs => ?_)
    · refine g_aload_n C 0 dX5_endDay_109 rfl rfl ?_
      refine g_dup C dX5_endDay_110 rfl ?_
      refine gf5_1 C oa0 lf_X5_78 dX5_endDay_111 ?_
      refine g_iconst C dX5_endDay_114 cc_i_1 ?_
      refine g_iadd C dX5_endDay_115 ?_
      refine pf5_1 C oa0 lf_X5_78 dX5_endDay_116 ?_
      refine g_iconst C dX5_endDay_119 cc_i_0 ?_
      refine g_istore_n (lv' := [(1, .int (0 : Int32)), (0, .ref (ad E a0))]) C dX5_endDay_120 rfl (by decide) rfl ?_
      refine g_sub [1, 0] rfl ?_
      exact wb_X5_endDay_121 C 1000 (wI h a0 1 ((h.1 a0 1) + (1 : Int32))) a0 (0 : Int32) oa0 hs hR
    · refine g_aload_n C 0 dX5_endDay_88 rfl rfl ?_
      refine gf5_10 C oa0 lf_X5_29 dX5_endDay_89 ?_
      refine g_iload_n C 1 dX5_endDay_92 rfl rfl ?_
      refine g_dup2 C dX5_endDay_93 rfl rfl ?_
      refine g_iald C (tg5_10 oa0) dX5_endDay_94 hs (fun v1 hs => ?_)
      refine g_aload_n C 0 dX5_endDay_95 rfl rfl ?_
      refine gf5_15 C oa0 lf_X5_38 dX5_endDay_96 ?_
      refine g_iload_n C 1 dX5_endDay_99 rfl rfl ?_
      refine g_iald C (tg5_15 oa0) dX5_endDay_100 hs (fun v2 hs => ?_)
      refine g_iadd C dX5_endDay_101 ?_
      refine g_iast C (tg5_10 oa0) dX5_endDay_102 hs (fun h3 hs => ?_)
      refine g_iinc (lv' := [(1, .int (x1 + (1 : Int32))), (0, .ref (ad E a0))]) (j := 1) C dX5_endDay_103 rfl (cc_n_1 _) (by decide) rfl ?_
      refine g_goto (tgt := 80) C dX5_endDay_106 (by decide) ?_
      refine g_sub [1, 0] rfl ?_
      exact hk80 h3 a0 (x1 + (1 : Int32)) oa0 hs hR
set_option maxHeartbeats 4000000 in
set_option maxRecDepth 100000 in
theorem wb_X5_endDay_2 {l : Launch} {E : Ep} {X : Fx} {res : Hp} (C : CX E X RX5 cX5_endDay 3 4) : ∀ (n : Nat) (h : Hp) (a0 : Nat) (x1 : Int32) (oa0 : OKr a0 5), b_X5_endDay_2  n h a0 x1 = some res → RT E X none none res → GG l E X h 2 [(0, .ref (ad E a0)), (1, .int x1)] [] := by
  intro n
  induction n with
  | zero =>
    intro h a0 x1 oa0
    intro hs
    exact absurd hs (by intro e; cases e)
  | succ n ih =>
    intro h a0 x1 oa0 hs hR
    have hk2 := ih
    have hs : f_X5_endDay_2  (b_X5_endDay_2  n) h a0 x1 = some res := hs
    generalize b_X5_endDay_2  n = k2 at hs hk2
    refine g_iload_n C 1 dX5_endDay_2 rfl rfl ?_
    refine g_aload_n C 0 dX5_endDay_3 rfl rfl ?_
    refine gf5_0 C oa0 lf_X5_71 dX5_endDay_4 ?_
    refine g_icmp_ge (tgt := 78) C dX5_endDay_7 (by decide) hs (fun hs => ?_) (fun hs => ?_)
    · refine g_iconst C dX5_endDay_78 cc_i_0 ?_
      refine g_istore_n (lv' := [(1, .int (0 : Int32)), (0, .ref (ad E a0))]) C dX5_endDay_79 rfl (by decide) rfl ?_
      refine g_sub [1, 0] rfl ?_
      exact wb_X5_endDay_80 C 1000 h a0 (0 : Int32) oa0 hs hR
    · refine g_aload_n C 0 dX5_endDay_10 rfl rfl ?_
      refine g_aload_n C 0 dX5_endDay_11 rfl rfl ?_
      refine gf5_1 C oa0 lf_X5_78 dX5_endDay_12 ?_
      refine g_iload_n C 1 dX5_endDay_15 rfl rfl ?_
      obtain ⟨v1, hcv1, hs⟩ := bnd hs
      refine g_cV (As := [.int (h.1 a0 1), .int x1]) (rest := []) C (w_X5_got l E _ _ _ _ _ oa0 hcv1) mw_X5_got lm_X5_102 oa0 rfl (ce5 E _ (oa0).2) rfl (by decide) rfl (Nat.le_of_ble_eq_true rfl) dX5_endDay_16 rfl ?_
      refine g_aload_n C 0 dX5_endDay_19 rfl rfl ?_
      refine gf5_8 C oa0 lf_X5_23 dX5_endDay_20 ?_
      refine g_iload_n C 1 dX5_endDay_23 rfl rfl ?_
      refine g_iald C (tg5_8 oa0) dX5_endDay_24 hs (fun v2 hs => ?_)
      refine g_iadd C dX5_endDay_25 ?_
      refine g_istore_n (lv' := [(2, .int (v1 + v2)), (0, .ref (ad E a0)), (1, .int x1)]) C dX5_endDay_26 rfl (by decide) rfl ?_
      refine g_aload_n C 1 dX5_endDay_27 rfl rfl ?_
      refine gf5_15 C oa0 lf_X5_38 dX5_endDay_28 ?_
      refine g_iload_n C 2 dX5_endDay_31 rfl rfl ?_
      refine g_aload_n C 1 dX5_endDay_32 rfl rfl ?_
      refine g_iload_n C 2 dX5_endDay_33 rfl rfl ?_
      obtain ⟨v3, hcv3, hs⟩ := bnd hs
      refine g_cV (As := [.int x1]) (rest := [.int x1, .ref (ad E (rf a0 15))]) C (w_X5_leave l E _ _ _ _ oa0 hcv3) mw_X5_leave lm_X5_119 oa0 rfl (ce5 E _ (oa0).2) rfl (by decide) rfl (Nat.le_of_ble_eq_true rfl) dX5_endDay_34 rfl ?_
      refine g_iload_n C 0 dX5_endDay_37 rfl rfl ?_
      obtain ⟨v4, hcv4, hs⟩ := bnd hs
      refine g_cS (As := [.int v3, .int (v1 + v2)]) (rest := [.int x1, .ref (ad E (rf a0 15))]) C (w_X5_lesser l E _ _ _ _ hcv4) mw_X5_lesser lm_X5_99 rfl (by decide) rfl (Nat.le_of_ble_eq_true rfl) dX5_endDay_38 rfl ?_
      refine g_sipush C dX5_endDay_41 cc_s_9999 ?_
      refine g_aload_n C 1 dX5_endDay_44 rfl rfl ?_
      refine gf5_10 C oa0 lf_X5_29 dX5_endDay_45 ?_
      refine g_iload_n C 2 dX5_endDay_48 rfl rfl ?_
      refine g_iald C (tg5_10 oa0) dX5_endDay_49 hs (fun v5 hs => ?_)
      refine g_isub C dX5_endDay_50 ?_
      obtain ⟨v6, hcv6, hs⟩ := bnd hs
      refine g_cS (As := [.int v4, .int ((9999 : Int32) - v5)]) (rest := [.int x1, .ref (ad E (rf a0 15))]) C (w_X5_lesser l E _ _ _ _ hcv6) mw_X5_lesser lm_X5_99 rfl (by decide) rfl (Nat.le_of_ble_eq_true rfl) dX5_endDay_51 rfl ?_
      refine g_iast C (tg5_15 oa0) dX5_endDay_54 hs (fun h7 hs => ?_)
      refine g_aload_n C 1 dX5_endDay_55 rfl rfl ?_
      refine g_dup C dX5_endDay_56 rfl ?_
      refine gf5_12 C oa0 lf_X5_122 dX5_endDay_57 ?_
      refine g_iload_n C 0 dX5_endDay_60 rfl rfl ?_
      refine g_aload_n C 1 dX5_endDay_61 rfl rfl ?_
      refine gf5_15 C oa0 lf_X5_38 dX5_endDay_62 ?_
      refine g_iload_n C 2 dX5_endDay_65 rfl rfl ?_
      refine g_iald C (tg5_15 oa0) dX5_endDay_66 hs (fun v8 hs => ?_)
      refine g_isub C dX5_endDay_67 ?_
      refine g_iadd C dX5_endDay_68 ?_
      refine pf5_12 C oa0 lf_X5_122 dX5_endDay_69 ?_
      refine g_iinc (lv' := [(1, .int (x1 + (1 : Int32))), (2, .int (v1 + v2)), (0, .ref (ad E a0))]) (j := 2) C dX5_endDay_72 rfl (cc_n_1 _) (by decide) rfl ?_
      refine g_goto (tgt := 2) C dX5_endDay_75 (by decide) ?_
      refine g_sub [2, 0] rfl ?_
      exact hk2 (wI h7 a0 12 ((h7.1 a0 12) + ((v1 + v2) - v8))) a0 (x1 + (1 : Int32)) oa0 hs hR
set_option maxHeartbeats 4000000 in
set_option maxRecDepth 100000 in
theorem w_X5_endDay (l : Launch) (E : Ep) (h : Hp) (a0 : Nat) (res : Hp) (oa0 : OKr a0 5) (hs : sh_X5_endDay h a0 = some res) : MG l E yX5_endDay cX5_endDay 3 none 4 [.ref (ad E a0)] h none res := by
  refine MG.of (by decide) (Nat.le_of_ble_eq_true rfl) ?_
  intro X C hR
  have C : CX E X RX5 cX5_endDay 3 4 := C
  show GG l E X h 0 [(0, .ref (ad E a0))] []
  refine g_iconst C dX5_endDay_0 cc_i_0 ?_
  refine g_istore_n (lv' := [(1, .int (0 : Int32)), (0, .ref (ad E a0))]) C dX5_endDay_1 rfl (by decide) rfl ?_
  refine g_sub [1, 0] rfl ?_
  exact wb_X5_endDay_2 C 1000 h a0 (0 : Int32) oa0 hs hR
set_option maxHeartbeats 4000000 in
set_option maxRecDepth 100000 in
theorem w_X5_evening (l : Launch) (E : Ep) (h : Hp) (a0 : Nat) (res : Int32 × Hp) (oa0 : OKr a0 5) (hs : sh_X5_evening h a0 = some res) : MG l E yX5_evening cX5_evening 1 (some .int) 5 [.ref (ad E a0)] h (some (.int res.1)) res.2 := by
  refine MG.of (by decide) (Nat.le_of_ble_eq_true rfl) ?_
  intro X C hR
  have C : CX E X RX5 cX5_evening 1 5 := C
  show GG l E X h 0 [(0, .ref (ad E a0))] []
  refine g_aload_n C 0 dX5_evening_0 rfl rfl ?_
  refine g_iconst C dX5_evening_1 cc_i_0 ?_
  refine pf5_13 C oa0 lf_X5_68 dX5_evening_2 ?_
  refine g_aload_n C 0 dX5_evening_5 rfl rfl ?_
  refine gf5_1 C oa0 lf_X5_78 dX5_evening_6 ?_
  refine g_sipush C dX5_evening_9 cc_s_999 ?_
  refine g_icmp_ne (tgt := 22) C dX5_evening_12 (by decide) hs (fun hs => ?_) (fun hs => ?_)
  · refine g_aload_n C 0 dX5_evening_15 rfl rfl ?_
    refine g_bipush C dX5_evening_16 cc_b_m6 ?_
    obtain ⟨q1, hcq1, hs⟩ := bnd hs
    refine g_cV (As := [.int (-6 : Int32)]) (rest := []) C (w_X5_refuse l E _ _ _ _ oa0 hcq1) mw_X5_refuse lm_X5_152 oa0 rfl (ce5 E _ (oa0).2) rfl (by decide) rfl (Nat.le_of_ble_eq_true rfl) dX5_evening_18 rfl ?_
    have e9 := Option.some.inj hs
    subst e9
    exact g_iret C hR dX5_evening_21
  · refine g_aload_n C 0 dX5_evening_22 rfl rfl ?_
    obtain ⟨h2, hch2, hs⟩ := bnd hs
    refine g_cV (As := []) (rest := []) C (w_X5_endDay l E _ _ _ oa0 hch2) mw_X5_endDay lm_X5_129 oa0 rfl (ce5 E _ (oa0).2) rfl (by decide) rfl (Nat.le_of_ble_eq_true rfl) dX5_evening_23 rfl ?_
    refine g_aload_n C 0 dX5_evening_26 rfl rfl ?_
    refine gf5_1 C oa0 lf_X5_78 dX5_evening_27 ?_
    have e9 := Option.some.inj hs
    subst e9
    exact g_iret C hR dX5_evening_30
set_option maxHeartbeats 4000000 in
set_option maxRecDepth 100000 in
theorem wb_X5_target_53 {l : Launch} {E : Ep} {X : Fx} {res : Int32} (C : CX E X RX5 cX5_target 2 0) (h : Hp) (s0 : Int32) (hs : b_X5_target_53  h s0 = some res) (hR : RT E X (some .int) (some (.int res)) h) : GG l E X h 53 [] [.int s0] := by
  have e9 := Option.some.inj hs
  subst e9
  exact g_iret C hR dX5_target_53
set_option maxHeartbeats 4000000 in
set_option maxRecDepth 100000 in
theorem wb_X5_target_47 {l : Launch} {E : Ep} {X : Fx} {res : Int32} (C : CX E X RX5 cX5_target 2 0) (h : Hp) (a0 : Nat) (x1 : Int32) (oa0 : OKr a0 5) (hs : b_X5_target_47  h a0 x1 = some res) (hR : RT E X (some .int) (some (.int res)) h) : GG l E X h 47 [(0, .ref (ad E a0)), (1, .int x1)] [] := by
  refine g_aload_n C 0 dX5_target_47 rfl rfl ?_
  refine gf5_9 C oa0 lf_X5_26 dX5_target_48 ?_
  refine g_iload_n C 1 dX5_target_51 rfl rfl ?_
  refine g_iald C (tg5_9 oa0) dX5_target_52 hs (fun v1 hs => ?_)
  refine g_sub [] rfl ?_
  exact wb_X5_target_53 C h v1 hs hR
set_option maxHeartbeats 4000000 in
set_option maxRecDepth 100000 in
theorem w_X5_target (l : Launch) (E : Ep) (h : Hp) (a0 : Nat) (x1 : Int32) (res : Int32) (oa0 : OKr a0 5) (hs : sh_X5_target h a0 x1 = some res) : MG l E yX5_target cX5_target 2 (some .int) 0 [.ref (ad E a0), .int x1] h (some (.int res)) h := by
  refine MG.of (by decide) (Nat.le_of_ble_eq_true rfl) ?_
  intro X C hR
  have C : CX E X RX5 cX5_target 2 0 := C
  show GG l E X h 0 [(0, .ref (ad E a0)), (1, .int x1)] []
  refine g_aload_n C 0 dX5_target_0 rfl rfl ?_
  refine gf5_6 C oa0 lf_X5_16 dX5_target_1 ?_
  refine g_iload_n C 1 dX5_target_4 rfl rfl ?_
  refine g_iald C (tg5_6 oa0) dX5_target_5 hs (fun v1 hs => ?_)
  refine g_iconst C dX5_target_6 cc_i_4 ?_
  refine g_icmp_ne (tgt := 21) C dX5_target_7 (by decide) hs (fun hs => ?_) (fun hs => ?_)
  · refine g_iload_n C 1 dX5_target_10 rfl rfl ?_
    refine g_iconst C dX5_target_11 cc_i_1 ?_
    refine g_iadd C dX5_target_12 ?_
    refine g_aload_n C 0 dX5_target_13 rfl rfl ?_
    refine gf5_0 C oa0 lf_X5_71 dX5_target_14 ?_
    refine g_irem C dX5_target_17 hs (fun v2 hs => ?_)
    refine g_goto (tgt := 53) C dX5_target_18 (by decide) ?_
    refine g_sub [] rfl ?_
    exact wb_X5_target_53 C h v2 hs hR
  · refine g_aload_n C 0 dX5_target_21 rfl rfl ?_
    refine gf5_6 C oa0 lf_X5_16 dX5_target_22 ?_
    refine g_iload_n C 1 dX5_target_25 rfl rfl ?_
    refine g_iald C (tg5_6 oa0) dX5_target_26 hs (fun v3 hs => ?_)
    refine g_bipush C dX5_target_27 cc_b_6 ?_
    refine g_icmp_ne (tgt := 47) C dX5_target_29 (by decide) hs (fun hs => ?_) (fun hs => ?_)
    · refine g_aload_n C 0 dX5_target_32 rfl rfl ?_
      refine gf5_1 C oa0 lf_X5_78 dX5_target_33 ?_
      refine g_iconst C dX5_target_36 cc_i_2 ?_
      refine g_iremC C dX5_target_37 (by decide) ?_
      refine g_iconst C dX5_target_38 cc_i_1 ?_
      refine g_icmp_ne (tgt := 47) C dX5_target_39 (by decide) hs (fun hs => ?_) (fun hs => ?_)
      · refine g_bipush C dX5_target_42 cc_b_9 ?_
        refine g_goto (tgt := 53) C dX5_target_44 (by decide) ?_
        refine g_sub [] rfl ?_
        exact wb_X5_target_53 C h (9 : Int32) hs hR
      · exact wb_X5_target_47 C h a0 x1 oa0 hs hR
    · exact wb_X5_target_47 C h a0 x1 oa0 hs hR
set_option maxHeartbeats 4000000 in
set_option maxRecDepth 100000 in
theorem w_X5_grown (l : Launch) (E : Ep) (h : Hp) (a0 : Nat) (x1 : Int32) (res : Int32) (oa0 : OKr a0 5) (hs : sh_X5_grown h a0 x1 = some res) : MG l E yX5_grown cX5_grown 2 (some .int) 2 [.ref (ad E a0), .int x1] h (some (.int res)) h := by
  refine MG.of (by decide) (Nat.le_of_ble_eq_true rfl) ?_
  intro X C hR
  have C : CX E X RX5 cX5_grown 2 2 := C
  show GG l E X h 0 [(0, .ref (ad E a0)), (1, .int x1)] []
  refine g_aload_n C 0 dX5_grown_0 rfl rfl ?_
  refine gf5_10 C oa0 lf_X5_29 dX5_grown_1 ?_
  refine g_iload_n C 1 dX5_grown_4 rfl rfl ?_
  refine g_iald C (tg5_10 oa0) dX5_grown_5 hs (fun v1 hs => ?_)
  refine g_aload_n C 0 dX5_grown_6 rfl rfl ?_
  refine gf5_8 C oa0 lf_X5_23 dX5_grown_7 ?_
  refine g_iload_n C 1 dX5_grown_10 rfl rfl ?_
  refine g_iald C (tg5_8 oa0) dX5_grown_11 hs (fun v2 hs => ?_)
  refine g_aload_n C 0 dX5_grown_12 rfl rfl ?_
  refine g_aload_n C 0 dX5_grown_13 rfl rfl ?_
  refine gf5_1 C oa0 lf_X5_78 dX5_grown_14 ?_
  refine g_iconst C dX5_grown_17 cc_i_1 ?_
  refine g_isub C dX5_grown_18 ?_
  refine g_iload_n C 1 dX5_grown_19 rfl rfl ?_
  obtain ⟨v3, hcv3, hs⟩ := bnd hs
  refine g_cV (As := [.int ((h.1 a0 1) - (1 : Int32)), .int x1]) (rest := [.int v2, .int v1]) C (w_X5_got l E _ _ _ _ _ oa0 hcv3) mw_X5_got lm_X5_102 oa0 rfl (ce5 E _ (oa0).2) rfl (by decide) rfl (Nat.le_of_ble_eq_true rfl) dX5_grown_20 rfl ?_
  refine g_iadd C dX5_grown_23 ?_
  obtain ⟨v4, hcv4, hs⟩ := bnd hs
  refine g_cS (As := [.int v1, .int (v2 + v3)]) (rest := []) C (w_X5_lesser l E _ _ _ _ hcv4) mw_X5_lesser lm_X5_99 rfl (by decide) rfl (Nat.le_of_ble_eq_true rfl) dX5_grown_24 rfl ?_
  have e9 := Option.some.inj hs
  subst e9
  exact g_iret C hR dX5_grown_27
