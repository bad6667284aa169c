set_option maxHeartbeats 4000000 in
set_option maxRecDepth 100000 in
theorem wb_X4_leastLaw_66 {l : Launch} {E : Ep} {X : Fx} {res : Int32 × Hp} (C : CX E X RX4 cX4_leastLaw 8 7) (k35 : Hp → Nat → Int32 → Int32 → Int32 → Int32 → Int32 → Option (Int32 × Hp)) (hk35 : ∀ (h : Hp) (a0 : Nat) (x1 : Int32) (x2 : Int32) (x4 : Int32) (x5 : Int32) (x6 : Int32), OKr a0 4 → k35 h a0 x1 x2 x4 x5 x6 = some res → RT E X (some .int) (some (.int res.1)) res.2 → GG l E X h 35 [(0, .ref (ad E a0)), (1, .int x1), (2, .int x2), (4, .int x4), (5, .int x5), (6, .int x6)] []) (h : Hp) (a0 : Nat) (x1 : Int32) (x2 : Int32) (x4 : Int32) (x5 : Int32) (x6 : Int32) (oa0 : OKr a0 4) (hs : b_X4_leastLaw_66 k35 h a0 x1 x2 x4 x5 x6 = some res) (hR : RT E X (some .int) (some (.int res.1)) res.2) : GG l E X h 66 [(0, .ref (ad E a0)), (1, .int x1), (2, .int x2), (4, .int x4), (5, .int x5), (6, .int x6)] [] := by
  refine g_iinc (lv' := [(6, .int (x6 + (1 : Int32))), (0, .ref (ad E a0)), (1, .int x1), (2, .int x2), (4, .int x4), (5, .int x5)]) (j := 5) C dX4_leastLaw_66 rfl (cc_n_1 _) (by decide) rfl ?_
  refine g_goto (tgt := 35) C dX4_leastLaw_69 (by decide) ?_
  refine g_sub [1, 2, 3, 4, 5, 0] rfl ?_
  exact hk35 h a0 x1 x2 x4 x5 (x6 + (1 : Int32)) oa0 hs hR
set_option maxHeartbeats 4000000 in
set_option maxRecDepth 100000 in
theorem wb_X4_leastLaw_35 {l : Launch} {E : Ep} {X : Fx} {res : Int32 × Hp} (C : CX E X RX4 cX4_leastLaw 8 7) : ∀ (n : Nat) (h : Hp) (a0 : Nat) (x1 : Int32) (x2 : Int32) (x4 : Int32) (x5 : Int32) (x6 : Int32) (oa0 : OKr a0 4), b_X4_leastLaw_35  n h a0 x1 x2 x4 x5 x6 = some res → RT E X (some .int) (some (.int res.1)) res.2 → GG l E X h 35 [(0, .ref (ad E a0)), (1, .int x1), (2, .int x2), (4, .int x4), (5, .int x5), (6, .int x6)] [] := by
  intro n
  induction n with
  | zero =>
    intro h a0 x1 x2 x4 x5 x6 oa0
    intro hs
    exact absurd hs (by intro e; cases e)
  | succ n ih =>
    intro h a0 x1 x2 x4 x5 x6 oa0 hs hR
    have hk35 := ih
    have hs : f_X4_leastLaw_35  (b_X4_leastLaw_35  n) h a0 x1 x2 x4 x5 x6 = some res := hs
    generalize b_X4_leastLaw_35  n = k35 at hs hk35
    refine g_iload C 5 dX4_leastLaw_35 rfl ?_
    refine g_iconst C dX4_leastLaw_37 cc_i_5 ?_
    refine g_icmp_gt (tgt := 72) C dX4_leastLaw_38 (by decide) hs (fun hs => ?_) (fun hs => ?_)
    · refine g_iload C 3 dX4_leastLaw_72 rfl ?_
      have e9 := Option.some.inj hs
      subst e9
      exact g_iret C hR dX4_leastLaw_74
    · refine g_aload_n C 0 dX4_leastLaw_41 rfl rfl ?_
      refine g_iload C 5 dX4_leastLaw_42 rfl ?_
      refine g_iload_n C 1 dX4_leastLaw_44 rfl rfl ?_
      refine g_iload_n C 2 dX4_leastLaw_45 rfl rfl ?_
      obtain ⟨q1, hcq1, hs⟩ := bnd hs
      refine g_cV (As := [.int x6, .int x1, .int x2]) (rest := []) C (w_X4_hasByLaw l E _ _ _ _ _ _ oa0 hcq1) mw_X4_hasByLaw lm_X4_184 oa0 rfl (ce4 E _ (oa0).2) rfl (by decide) rfl (Nat.le_of_ble_eq_true rfl) dX4_leastLaw_46 rfl ?_
      refine g_istore (lv' := [(7, .int q1.1), (0, .ref (ad E a0)), (1, .int x1), (2, .int x2), (4, .int x4), (5, .int x5), (6, .int x6)]) C dX4_leastLaw_49 (by decide) rfl ?_
      refine g_iload C 0 dX4_leastLaw_51 rfl ?_
      refine g_iload C 5 dX4_leastLaw_53 rfl ?_
      refine g_icmp_ge (tgt := 66) C dX4_leastLaw_55 (by decide) hs (fun hs => ?_) (fun hs => ?_)
      · refine g_sub [1, 2, 3, 4, 5, 6] rfl ?_
        exact wb_X4_leastLaw_66 C k35 hk35 q1.2 a0 x1 x2 x4 x5 x6 oa0 hs hR
      · refine g_iload C 6 dX4_leastLaw_58 rfl ?_
        refine g_istore (lv' := [(4, .int x6), (7, .int q1.1), (0, .ref (ad E a0)), (1, .int x1), (2, .int x2), (5, .int x5), (6, .int x6)]) C dX4_leastLaw_60 (by decide) rfl ?_
        refine g_iload C 1 dX4_leastLaw_62 rfl ?_
        refine g_istore (lv' := [(5, .int q1.1), (4, .int x6), (7, .int q1.1), (0, .ref (ad E a0)), (1, .int x1), (2, .int x2), (6, .int x6)]) C dX4_leastLaw_64 (by decide) rfl ?_
        refine g_sub [3, 4, 5, 1, 0, 6] rfl ?_
        exact wb_X4_leastLaw_66 C k35 hk35 q1.2 a0 x1 x2 x6 q1.1 x6 oa0 hs hR
set_option maxHeartbeats 4000000 in
set_option maxRecDepth 100000 in
theorem w_X4_leastLaw (l : Launch) (E : Ep) (h : Hp) (a0 : Nat) (x1 : Int32) (x2 : Int32) (res : Int32 × Hp) (oa0 : OKr a0 4) (hs : sh_X4_leastLaw h a0 x1 x2 = some res) : MG l E yX4_leastLaw cX4_leastLaw 8 (some .int) 7 [.ref (ad E a0), .int x1, .int x2] h (some (.int res.1)) res.2 := by
  refine MG.of (by decide) (Nat.le_of_ble_eq_true rfl) ?_
  intro X C hR
  have C : CX E X RX4 cX4_leastLaw 8 7 := C
  show GG l E X h 0 [(0, .ref (ad E a0)), (1, .int x1), (2, .int x2)] []
  refine g_aload_n C 0 dX4_leastLaw_0 rfl rfl ?_
  refine g_iload_n C 1 dX4_leastLaw_1 rfl rfl ?_
  refine g_iload_n C 2 dX4_leastLaw_2 rfl rfl ?_
  refine g_iconst C dX4_leastLaw_3 cc_i_0 ?_
  refine g_bipush C dX4_leastLaw_4 cc_b_60 ?_
  obtain ⟨v1, hcv1, hs⟩ := bnd hs
  refine g_cV (As := [.int x1, .int x2, .int (0 : Int32), .int (60 : Int32)]) (rest := []) C (w_X4_ofOneRefusal l E _ _ _ _ _ _ _ oa0 hcv1) mw_X4_ofOneRefusal lm_X4_138 oa0 rfl (ce4 E _ (oa0).2) rfl (by decide) rfl (Nat.le_of_ble_eq_true rfl) dX4_leastLaw_6 rfl ?_
  refine g_istore_n (lv' := [(3, .int v1), (0, .ref (ad E a0)), (1, .int x1), (2, .int x2)]) C dX4_leastLaw_9 rfl (by decide) rfl ?_
  refine g_iload_n C 0 dX4_leastLaw_10 rfl rfl ?_
  refine g_if_eq (tgt := 20) C dX4_leastLaw_11 (by decide) hs (fun hs => ?_) (fun hs => ?_)
  · refine g_iconst C dX4_leastLaw_20 cc_i_0 ?_
    refine g_istore (lv' := [(4, .int (0 : Int32)), (3, .int v1), (0, .ref (ad E a0)), (1, .int x1), (2, .int x2)]) C dX4_leastLaw_21 (by decide) rfl ?_
    refine g_aload_n C 2 dX4_leastLaw_23 rfl rfl ?_
    refine g_iconst C dX4_leastLaw_24 cc_i_0 ?_
    refine g_iload_n C 3 dX4_leastLaw_25 rfl rfl ?_
    refine g_iload_n C 4 dX4_leastLaw_26 rfl rfl ?_
    obtain ⟨q2, hcq2, hs⟩ := bnd hs
    refine g_cV (As := [.int (0 : Int32), .int x1, .int x2]) (rest := []) C (w_X4_hasByLaw l E _ _ _ _ _ _ oa0 hcq2) mw_X4_hasByLaw lm_X4_184 oa0 rfl (ce4 E _ (oa0).2) rfl (by decide) rfl (Nat.le_of_ble_eq_true rfl) dX4_leastLaw_27 rfl ?_
    refine g_istore (lv' := [(5, .int q2.1), (4, .int (0 : Int32)), (3, .int v1), (0, .ref (ad E a0)), (1, .int x1), (2, .int x2)]) C dX4_leastLaw_30 (by decide) rfl ?_
    refine g_iconst C dX4_leastLaw_32 cc_i_1 ?_
    refine g_istore (lv' := [(6, .int (1 : Int32)), (5, .int q2.1), (4, .int (0 : Int32)), (3, .int v1), (0, .ref (ad E a0)), (1, .int x1), (2, .int x2)]) C dX4_leastLaw_33 (by decide) rfl ?_
    refine g_sub [4, 5, 6, 2, 1, 0] rfl ?_
    exact wb_X4_leastLaw_35 C 1000 q2.2 a0 x1 x2 (0 : Int32) q2.1 (1 : Int32) oa0 hs hR
  · refine g_aload_n C 1 dX4_leastLaw_14 rfl rfl ?_
    refine g_iload_n C 0 dX4_leastLaw_15 rfl rfl ?_
    obtain ⟨q3, hcq3, hs⟩ := bnd hs
    refine g_cV (As := [.int v1]) (rest := []) C (w_X4_refuse l E _ _ _ _ oa0 hcq3) mw_X4_refuse lm_X4_46 oa0 rfl (ce4 E _ (oa0).2) rfl (by decide) rfl (Nat.le_of_ble_eq_true rfl) dX4_leastLaw_16 rfl ?_
    have e9 := Option.some.inj hs
    subst e9
    exact g_iret C hR dX4_leastLaw_19
set_option maxHeartbeats 4000000 in
set_option maxRecDepth 100000 in
theorem wb_X4_row_30 {l : Launch} {E : Ep} {X : Fx} {res : Int32 × Hp} (C : CX E X RX4 cX4_row 2 1) (h : Hp) (a0 : Nat) (oa0 : OKr a0 4) (hs : b_X4_row_30  h a0 = some res) (hR : RT E X (some .int) (some (.int res.1)) res.2) : GG l E X h 30 [(0, .ref (ad E a0))] [] := by
  refine g_aload_n C 0 dX4_row_30 rfl rfl ?_
  refine g_bipush C dX4_row_31 cc_b_m6 ?_
  obtain ⟨q1, hcq1, hs⟩ := bnd hs
  refine g_cV (As := [.int (-6 : Int32)]) (rest := []) C (w_X4_refuse l E _ _ _ _ oa0 hcq1) mw_X4_refuse lm_X4_46 oa0 rfl (ce4 E _ (oa0).2) rfl (by decide) rfl (Nat.le_of_ble_eq_true rfl) dX4_row_33 rfl ?_
  have e9 := Option.some.inj hs
  subst e9
  exact g_iret C hR dX4_row_36
set_option maxHeartbeats 4000000 in
set_option maxRecDepth 100000 in
theorem w_X4_row (l : Launch) (E : Ep) (h : Hp) (a0 : Nat) (x1 : Int32) (res : Int32 × Hp) (oa0 : OKr a0 4) (hs : sh_X4_row h a0 x1 = some res) : MG l E yX4_row cX4_row 2 (some .int) 1 [.ref (ad E a0), .int x1] h (some (.int res.1)) res.2 := by
  refine MG.of (by decide) (Nat.le_of_ble_eq_true rfl) ?_
  intro X C hR
  have C : CX E X RX4 cX4_row 2 1 := C
  show GG l E X h 0 [(0, .ref (ad E a0)), (1, .int x1)] []
  refine g_iload_n C 1 dX4_row_0 rfl rfl ?_
  refine g_if_ge (tgt := 11) C dX4_row_1 (by decide) hs (fun hs => ?_) (fun hs => ?_)
  · refine g_iload_n C 1 dX4_row_11 rfl rfl ?_
    refine g_sipush C dX4_row_12 cc_s_9999 ?_
    refine g_icmp_gt (tgt := 30) C dX4_row_15 (by decide) hs (fun hs => ?_) (fun hs => ?_)
    · refine g_sub [0] rfl ?_
      exact wb_X4_row_30 C h a0 oa0 hs hR
    · refine g_aload_n C 0 dX4_row_18 rfl rfl ?_
      refine gf4_8 C oa0 lf_X4_190 dX4_row_19 ?_
      refine g_aload_n C 0 dX4_row_22 rfl rfl ?_
      refine gf4_6 C oa0 lf_X4_40 dX4_row_23 ?_
      refine g_alen C (tg4_6 oa0) dX4_row_26 ?_
      refine g_icmp_lt (tgt := 37) C dX4_row_27 (by decide) hs (fun hs => ?_) (fun hs => ?_)
      · refine g_aload_n C 0 dX4_row_37 rfl rfl ?_
        refine gf4_6 C oa0 lf_X4_40 dX4_row_38 ?_
        refine g_aload_n C 0 dX4_row_41 rfl rfl ?_
        refine gf4_8 C oa0 lf_X4_190 dX4_row_42 ?_
        refine g_iload_n C 1 dX4_row_45 rfl rfl ?_
        refine g_iast C (tg4_6 oa0) dX4_row_46 hs (fun h1 hs => ?_)
        refine g_aload_n C 0 dX4_row_47 rfl rfl ?_
        refine g_dup C dX4_row_48 rfl ?_
        refine gf4_8 C oa0 lf_X4_190 dX4_row_49 ?_
        refine g_iconst C dX4_row_52 cc_i_1 ?_
        refine g_iadd C dX4_row_53 ?_
        refine pf4_8 C oa0 lf_X4_190 dX4_row_54 ?_
        refine g_aload_n C 0 dX4_row_57 rfl rfl ?_
        refine gf4_8 C oa0 lf_X4_190 dX4_row_58 ?_
        have e9 := Option.some.inj hs
        subst e9
        exact g_iret C hR dX4_row_61
      · refine g_sub [0] rfl ?_
        exact wb_X4_row_30 C h a0 oa0 hs hR
  · refine g_aload_n C 0 dX4_row_4 rfl rfl ?_
    refine g_bipush C dX4_row_5 cc_b_m4 ?_
    obtain ⟨q2, hcq2, hs⟩ := bnd hs
    refine g_cV (As := [.int (-4 : Int32)]) (rest := []) C (w_X4_refuse l E _ _ _ _ oa0 hcq2) mw_X4_refuse lm_X4_46 oa0 rfl (ce4 E _ (oa0).2) rfl (by decide) rfl (Nat.le_of_ble_eq_true rfl) dX4_row_7 rfl ?_
    have e9 := Option.some.inj hs
    subst e9
    exact g_iret C hR dX4_row_10
set_option maxHeartbeats 4000000 in
set_option maxRecDepth 100000 in
theorem wb_X4_lookAtBook_82 {l : Launch} {E : Ep} {X : Fx} {res : Int32 × Hp} (C : CX E X RX4 cX4_lookAtBook 6 5) (k17 : Hp → Nat → Int32 → Int32 → Int32 → Int32 → Option (Int32 × Hp)) (hk17 : ∀ (h : Hp) (a0 : Nat) (x1 : Int32) (x2 : Int32) (x3 : Int32) (x4 : Int32), OKr a0 4 → k17 h a0 x1 x2 x3 x4 = some res → RT E X (some .int) (some (.int res.1)) res.2 → GG l E X h 17 [(0, .ref (ad E a0)), (1, .int x1), (2, .int x2), (3, .int x3), (4, .int x4)] []) (h : Hp) (a0 : Nat) (x1 : Int32) (x2 : Int32) (x3 : Int32) (x4 : Int32) (oa0 : OKr a0 4) (hs : b_X4_lookAtBook_82 k17 h a0 x1 x2 x3 x4 = some res) (hR : RT E X (some .int) (some (.int res.1)) res.2) : GG l E X h 82 [(0, .ref (ad E a0)), (1, .int x1), (2, .int x2), (3, .int x3), (4, .int x4)] [] := by
  refine g_iinc (lv' := [(4, .int (x4 + (1 : Int32))), (0, .ref (ad E a0)), (1, .int x1), (2, .int x2), (3, .int x3)]) (j := 4) C dX4_lookAtBook_82 rfl (cc_n_1 _) (by decide) rfl ?_
  refine g_goto (tgt := 17) C dX4_lookAtBook_85 (by decide) ?_
  refine g_sub [1, 2, 3, 4, 0] rfl ?_
  exact hk17 h a0 x1 x2 x3 (x4 + (1 : Int32)) oa0 hs hR
set_option maxHeartbeats 4000000 in
set_option maxRecDepth 100000 in
theorem wb_X4_lookAtBook_79 {l : Launch} {E : Ep} {X : Fx} {res : Int32 × Hp} (C : CX E X RX4 cX4_lookAtBook 6 5) (k17 : Hp → Nat → Int32 → Int32 → Int32 → Int32 → Option (Int32 × Hp)) (hk17 : ∀ (h : Hp) (a0 : Nat) (x1 : Int32) (x2 : Int32) (x3 : Int32) (x4 : Int32), OKr a0 4 → k17 h a0 x1 x2 x3 x4 = some res → RT E X (some .int) (some (.int res.1)) res.2 → GG l E X h 17 [(0, .ref (ad E a0)), (1, .int x1), (2, .int x2), (3, .int x3), (4, .int x4)] []) (h : Hp) (a0 : Nat) (x1 : Int32) (x2 : Int32) (x4 : Int32) (oa0 : OKr a0 4) (hs : b_X4_lookAtBook_79 k17 h a0 x1 x2 x4 = some res) (hR : RT E X (some .int) (some (.int res.1)) res.2) : GG l E X h 79 [(0, .ref (ad E a0)), (1, .int x1), (2, .int x2), (4, .int x4)] [] := by
  refine g_iload C 3 dX4_lookAtBook_79 rfl ?_
  refine g_istore_n (lv' := [(3, .int x4), (0, .ref (ad E a0)), (1, .int x1), (2, .int x2), (4, .int x4)]) C dX4_lookAtBook_81 rfl (by decide) rfl ?_
  refine g_sub [1, 2, 3, 0, 4] rfl ?_
  exact wb_X4_lookAtBook_82 C k17 hk17 h a0 x1 x2 x4 x4 oa0 hs hR
set_option maxHeartbeats 4000000 in
set_option maxRecDepth 100000 in
theorem wb_X4_lookAtBook_88 {l : Launch} {E : Ep} {X : Fx} {res : Int32 × Hp} (C : CX E X RX4 cX4_lookAtBook 6 5) (h : Hp) (a0 : Nat) (x3 : Int32) (oa0 : OKr a0 4) (hs : b_X4_lookAtBook_88  h a0 x3 = some res) (hR : RT E X (some .int) (some (.int res.1)) res.2) : GG l E X h 88 [(0, .ref (ad E a0)), (3, .int x3)] [] := by
  refine g_aload_n C 0 dX4_lookAtBook_88 rfl rfl ?_
  refine g_iconst C dX4_lookAtBook_89 cc_i_0 ?_
  refine pf4_8 C oa0 lf_X4_190 dX4_lookAtBook_90 ?_
  refine g_iload_n C 1 dX4_lookAtBook_93 rfl rfl ?_
  have e9 := Option.some.inj hs
  subst e9
  exact g_iret C hR dX4_lookAtBook_94
set_option maxHeartbeats 4000000 in
set_option maxRecDepth 100000 in
theorem wb_X4_lookAtBook_17 {l : Launch} {E : Ep} {X : Fx} {res : Int32 × Hp} (C : CX E X RX4 cX4_lookAtBook 6 5) : ∀ (n : Nat) (h : Hp) (a0 : Nat) (x1 : Int32) (x2 : Int32) (x3 : Int32) (x4 : Int32) (oa0 : OKr a0 4), b_X4_lookAtBook_17  n h a0 x1 x2 x3 x4 = some res → RT E X (some .int) (some (.int res.1)) res.2 → GG l E X h 17 [(0, .ref (ad E a0)), (1, .int x1), (2, .int x2), (3, .int x3), (4, .int x4)] [] := by
  intro n
  induction n with
  | zero =>
    intro h a0 x1 x2 x3 x4 oa0
    intro hs
    exact absurd hs (by intro e; cases e)
  | succ n ih =>
    intro h a0 x1 x2 x3 x4 oa0 hs hR
    have hk17 := ih
    have hs : f_X4_lookAtBook_17  (b_X4_lookAtBook_17  n) h a0 x1 x2 x3 x4 = some res := hs
    generalize b_X4_lookAtBook_17  n = k17 at hs hk17
    refine g_iload C 4 dX4_lookAtBook_17 rfl ?_
    refine g_aload_n C 0 dX4_lookAtBook_19 rfl rfl ?_
    refine gf4_8 C oa0 lf_X4_190 dX4_lookAtBook_20 ?_
    refine g_icmp_ge (tgt := 88) C dX4_lookAtBook_23 (by decide) hs (fun hs => ?_) (fun hs => ?_)
    · refine g_sub [0, 3] rfl ?_
      exact wb_X4_lookAtBook_88 C h a0 x3 oa0 hs hR
    · refine g_iload_n C 3 dX4_lookAtBook_26 rfl rfl ?_
      refine g_bipush C dX4_lookAtBook_27 cc_b_m9 ?_
      refine g_icmp_ne (tgt := 88) C dX4_lookAtBook_29 (by decide) hs (fun hs => ?_) (fun hs => ?_)
      · refine g_aload_n C 0 dX4_lookAtBook_32 rfl rfl ?_
        refine gf4_2 C oa0 lf_X4_19 dX4_lookAtBook_33 ?_
        obtain ⟨q1, hcq1, hs⟩ := bnd hs
        refine g_cVN (As := []) (rest := []) C (w_X3_passDay l E _ _ _ (tg4_2 oa0) hcq1) mw_X3_passDay lm_X4_132 (tg4_2 oa0) rfl (ce3 E _ ((tg4_2 oa0)).2) rfl (by decide) rfl (Nat.le_of_ble_eq_true rfl) dX4_lookAtBook_36 rfl ?_
        refine g_pop C dX4_lookAtBook_39 rfl ?_
        refine g_aload_n C 0 dX4_lookAtBook_40 rfl rfl ?_
        refine gf4_2 C oa0 lf_X4_19 dX4_lookAtBook_41 ?_
        refine gf3_3N C (tg4_2 oa0) lf_X4_77 dX4_lookAtBook_44 ?_
        refine g_iload_n C 1 dX4_lookAtBook_47 rfl rfl ?_
        refine g_iald C (tg3_3 (tg4_2 oa0)) dX4_lookAtBook_48 hs (fun v2 hs => ?_)
        refine g_istore (lv' := [(5, .int v2), (0, .ref (ad E a0)), (1, .int x1), (2, .int x2), (3, .int x3), (4, .int x4)]) C dX4_lookAtBook_49 (by decide) rfl ?_
        refine g_aload_n C 1 dX4_lookAtBook_51 rfl rfl ?_
        refine gf4_6 C oa0 lf_X4_40 dX4_lookAtBook_52 ?_
        refine g_iload C 5 dX4_lookAtBook_55 rfl ?_
        refine g_iald C (tg4_6 oa0) dX4_lookAtBook_57 hs (fun v3 hs => ?_)
        refine g_iload C 0 dX4_lookAtBook_58 rfl ?_
        refine g_icmp_gt (tgt := 79) C dX4_lookAtBook_60 (by decide) hs (fun hs => ?_) (fun hs => ?_)
        · refine g_sub [1, 2, 3, 5] rfl ?_
          exact wb_X4_lookAtBook_79 C k17 hk17 q1.2 a0 x1 x2 x4 oa0 hs hR
        · refine g_iload_n C 3 dX4_lookAtBook_63 rfl rfl ?_
          refine g_if_eq (tgt := 82) C dX4_lookAtBook_64 (by decide) hs (fun hs => ?_) (fun hs => ?_)
          · refine g_sub [1, 2, 3, 4, 5] rfl ?_
            exact wb_X4_lookAtBook_82 C k17 hk17 q1.2 a0 x1 x2 x3 x4 oa0 hs hR
          · refine g_aload_n C 1 dX4_lookAtBook_67 rfl rfl ?_
            refine gf4_6 C oa0 lf_X4_40 dX4_lookAtBook_68 ?_
            refine g_iload C 5 dX4_lookAtBook_71 rfl ?_
            refine g_iald C (tg4_6 oa0) dX4_lookAtBook_73 hs (fun v4 hs => ?_)
            refine g_iload C 0 dX4_lookAtBook_74 rfl ?_
            refine g_icmp_eq (tgt := 82) C dX4_lookAtBook_76 (by decide) hs (fun hs => ?_) (fun hs => ?_)
            · refine g_sub [1, 2, 3, 4, 5] rfl ?_
              exact wb_X4_lookAtBook_82 C k17 hk17 q1.2 a0 x1 x2 x3 x4 oa0 hs hR
            · refine g_sub [1, 2, 3, 5] rfl ?_
              exact wb_X4_lookAtBook_79 C k17 hk17 q1.2 a0 x1 x2 x4 oa0 hs hR
      · refine g_sub [0, 3] rfl ?_
        exact wb_X4_lookAtBook_88 C h a0 x3 oa0 hs hR
set_option maxHeartbeats 4000000 in
set_option maxRecDepth 100000 in
theorem w_X4_lookAtBook (l : Launch) (E : Ep) (h : Hp) (a0 : Nat) (x1 : Int32) (x2 : Int32) (res : Int32 × Hp) (oa0 : OKr a0 4) (hs : sh_X4_lookAtBook h a0 x1 x2 = some res) : MG l E yX4_lookAtBook cX4_lookAtBook 6 (some .int) 5 [.ref (ad E a0), .int x1, .int x2] h (some (.int res.1)) res.2 := by
  refine MG.of (by decide) (Nat.le_of_ble_eq_true rfl) ?_
  intro X C hR
  have C : CX E X RX4 cX4_lookAtBook 6 5 := C
  show GG l E X h 0 [(0, .ref (ad E a0)), (1, .int x1), (2, .int x2)] []
  refine g_aload_n C 0 dX4_lookAtBook_0 rfl rfl ?_
  refine gf4_2 C oa0 lf_X4_19 dX4_lookAtBook_1 ?_
  refine g_aload_n C 0 dX4_lookAtBook_4 rfl rfl ?_
  refine gf4_0 C oa0 lf_X4_10 dX4_lookAtBook_5 ?_
  obtain ⟨h1, hch1, hs⟩ := bnd hs
  refine g_cVN (As := [.ref (ad E (rf a0 0))]) (rest := []) C (w_X3_become l E _ _ _ _ (tg4_2 oa0) (tg4_0 oa0) hch1) mw_X3_become lm_X4_149 (tg4_2 oa0) rfl (ce3 E _ ((tg4_2 oa0)).2) rfl (by decide) rfl (Nat.le_of_ble_eq_true rfl) dX4_lookAtBook_8 rfl ?_
  refine g_bipush C dX4_lookAtBook_11 cc_b_m9 ?_
  refine g_istore_n (lv' := [(3, .int (-9 : Int32)), (0, .ref (ad E a0)), (1, .int x1), (2, .int x2)]) C dX4_lookAtBook_13 rfl (by decide) rfl ?_
  refine g_iconst C dX4_lookAtBook_14 cc_i_0 ?_
  refine g_istore (lv' := [(4, .int (0 : Int32)), (3, .int (-9 : Int32)), (0, .ref (ad E a0)), (1, .int x1), (2, .int x2)]) C dX4_lookAtBook_15 (by decide) rfl ?_
  refine g_sub [2, 3, 4, 1, 0] rfl ?_
  exact wb_X4_lookAtBook_17 C 1000 h1 a0 x1 x2 (-9 : Int32) (0 : Int32) oa0 hs hR
set_option maxHeartbeats 4000000 in
set_option maxRecDepth 100000 in
theorem w_X4_found (l : Launch) (E : Ep) (h : Hp) (a0 : Nat) (x1 : Int32) (res : Int32 × Hp) (oa0 : OKr a0 4) (hs : sh_X4_found h a0 x1 = some res) : MG l E yX4_found cX4_found 2 (some .int) 6 [.ref (ad E a0), .int x1] h (some (.int res.1)) res.2 := by
  refine MG.of (by decide) (Nat.le_of_ble_eq_true rfl) ?_
  intro X C hR
  have C : CX E X RX4 cX4_found 2 6 := C
  show GG l E X h 0 [(0, .ref (ad E a0)), (1, .int x1)] []
  refine g_aload_n C 0 dX4_found_0 rfl rfl ?_
  refine gf4_0 C oa0 lf_X4_10 dX4_found_1 ?_
  refine g_iload_n C 1 dX4_found_4 rfl rfl ?_
  obtain ⟨v1, hcv1, hs⟩ := bnd hs
  refine g_cVN (As := [.int x1]) (rest := []) C (w_X3_exists l E _ _ _ _ (tg4_0 oa0) hcv1) mw_X3_exists lm_X4_64 (tg4_0 oa0) rfl (ce3 E _ ((tg4_0 oa0)).2) rfl (by decide) rfl (Nat.le_of_ble_eq_true rfl) dX4_found_5 rfl ?_
  refine g_if_ne (tgt := 17) C dX4_found_8 (by decide) hs (fun hs => ?_) (fun hs => ?_)
  · refine g_aload_n C 0 dX4_found_11 rfl rfl ?_
    refine g_iconst C dX4_found_12 cc_i_m1 ?_
    obtain ⟨q2, hcq2, hs⟩ := bnd hs
    refine g_cV (As := [.int (-1 : Int32)]) (rest := []) C (w_X4_refuse l E _ _ _ _ oa0 hcq2) mw_X4_refuse lm_X4_46 oa0 rfl (ce4 E _ (oa0).2) rfl (by decide) rfl (Nat.le_of_ble_eq_true rfl) dX4_found_13 rfl ?_
    have e9 := Option.some.inj hs
    subst e9
    exact g_iret C hR dX4_found_16
  · refine g_aload_n C 0 dX4_found_17 rfl rfl ?_
    refine g_iload_n C 1 dX4_found_18 rfl rfl ?_
    refine g_iconst C dX4_found_19 cc_i_0 ?_
    obtain ⟨q3, hcq3, hs⟩ := bnd hs
    refine g_cV (As := [.int x1, .int (0 : Int32)]) (rest := []) C (w_X4_lookAtBook l E _ _ _ _ _ oa0 hcq3) mw_X4_lookAtBook lm_X4_193 oa0 rfl (ce4 E _ (oa0).2) rfl (by decide) rfl (Nat.le_of_ble_eq_true rfl) dX4_found_20 rfl ?_
    have e9 := Option.some.inj hs
    subst e9
    exact g_iret C hR dX4_found_23
set_option maxHeartbeats 4000000 in
set_option maxRecDepth 100000 in
theorem w_X4_judge (l : Launch) (E : Ep) (h : Hp) (a0 : Nat) (x1 : Int32) (res : Int32 × Hp) (oa0 : OKr a0 4) (hs : sh_X4_judge h a0 x1 = some res) : MG l E yX4_judge cX4_judge 2 (some .int) 6 [.ref (ad E a0), .int x1] h (some (.int res.1)) res.2 := by
  refine MG.of (by decide) (Nat.le_of_ble_eq_true rfl) ?_
  intro X C hR
  have C : CX E X RX4 cX4_judge 2 6 := C
  show GG l E X h 0 [(0, .ref (ad E a0)), (1, .int x1)] []
  refine g_aload_n C 0 dX4_judge_0 rfl rfl ?_
  refine gf4_0 C oa0 lf_X4_10 dX4_judge_1 ?_
  refine g_iload_n C 1 dX4_judge_4 rfl rfl ?_
  obtain ⟨v1, hcv1, hs⟩ := bnd hs
  refine g_cVN (As := [.int x1]) (rest := []) C (w_X3_exists l E _ _ _ _ (tg4_0 oa0) hcv1) mw_X3_exists lm_X4_64 (tg4_0 oa0) rfl (ce3 E _ ((tg4_0 oa0)).2) rfl (by decide) rfl (Nat.le_of_ble_eq_true rfl) dX4_judge_5 rfl ?_
  refine g_if_ne (tgt := 17) C dX4_judge_8 (by decide) hs (fun hs => ?_) (fun hs => ?_)
  · refine g_aload_n C 0 dX4_judge_11 rfl rfl ?_
    refine g_iconst C dX4_judge_12 cc_i_m1 ?_
    obtain ⟨q2, hcq2, hs⟩ := bnd hs
    refine g_cV (As := [.int (-1 : Int32)]) (rest := []) C (w_X4_refuse l E _ _ _ _ oa0 hcq2) mw_X4_refuse lm_X4_46 oa0 rfl (ce4 E _ (oa0).2) rfl (by decide) rfl (Nat.le_of_ble_eq_true rfl) dX4_judge_13 rfl ?_
    have e9 := Option.some.inj hs
    subst e9
    exact g_iret C hR dX4_judge_16
  · refine g_aload_n C 0 dX4_judge_17 rfl rfl ?_
    refine g_iload_n C 1 dX4_judge_18 rfl rfl ?_
    refine g_iconst C dX4_judge_19 cc_i_1 ?_
    obtain ⟨q3, hcq3, hs⟩ := bnd hs
    refine g_cV (As := [.int x1, .int (1 : Int32)]) (rest := []) C (w_X4_lookAtBook l E _ _ _ _ _ oa0 hcq3) mw_X4_lookAtBook lm_X4_193 oa0 rfl (ce4 E _ (oa0).2) rfl (by decide) rfl (Nat.le_of_ble_eq_true rfl) dX4_judge_20 rfl ?_
    have e9 := Option.some.inj hs
    subst e9
    exact g_iret C hR dX4_judge_23
set_option maxHeartbeats 4000000 in
set_option maxRecDepth 100000 in
theorem wb_X4_firstImpossibleGift_99 {l : Launch} {E : Ep} {X : Fx} {res : Int32 × Hp} (C : CX E X RX4 cX4_firstImpossibleGift 5 3) (h : Hp) (s0 : Int32) (hs : b_X4_firstImpossibleGift_99  h s0 = some res) (hR : RT E X (some .int) (some (.int res.1)) res.2) : GG l E X h 99 [] [.int s0] := by
  have e9 := Option.some.inj hs
  subst e9
  exact g_iret C hR dX4_firstImpossibleGift_99
set_option maxHeartbeats 4000000 in
set_option maxRecDepth 100000 in
theorem wb_X4_firstImpossibleGift_13 {l : Launch} {E : Ep} {X : Fx} {res : Int32 × Hp} (C : CX E X RX4 cX4_firstImpossibleGift 5 3) : ∀ (n : Nat) (h : Hp) (a0 : Nat) (x1 : Int32) (oa0 : OKr a0 4), b_X4_firstImpossibleGift_13  n h a0 x1 = some res → RT E X (some .int) (some (.int res.1)) res.2 → GG l E X h 13 [(0, .ref (ad E a0)), (1, .int x1)] [] := by
  intro n
  induction n with
  | zero =>
    intro h a0 x1 oa0
    intro hs
    exact absurd hs (by intro e; cases e)
  | succ n ih =>
    intro h a0 x1 oa0 hs hR
    have hk13 := ih
    have hs : f_X4_firstImpossibleGift_13  (b_X4_firstImpossibleGift_13  n) h a0 x1 = some res := hs
    generalize b_X4_firstImpossibleGift_13  n = k13 at hs hk13
    refine g_iload_n C 1 dX4_firstImpossibleGift_13 rfl rfl ?_
    refine g_iconst C dX4_firstImpossibleGift_14 cc_i_2 ?_
    refine g_iadd C dX4_firstImpossibleGift_15 ?_
    refine g_aload_n C 0 dX4_firstImpossibleGift_16 rfl rfl ?_
    refine gf4_8 C oa0 lf_X4_190 dX4_firstImpossibleGift_17 ?_
    refine g_icmp_ge (tgt := 82) C dX4_firstImpossibleGift_20 (by decide) hs (fun hs => ?_) (fun hs => ?_)
    · refine g_iload_n C 1 dX4_firstImpossibleGift_82 rfl rfl ?_
      refine g_aload_n C 0 dX4_firstImpossibleGift_83 rfl rfl ?_
      refine gf4_8 C oa0 lf_X4_190 dX4_firstImpossibleGift_84 ?_
      refine g_icmp_ne (tgt := 95) C dX4_firstImpossibleGift_87 (by decide) hs (fun hs => ?_) (fun hs => ?_)
      · refine g_bipush C dX4_firstImpossibleGift_90 cc_b_m9 ?_
        refine g_goto (tgt := 99) C dX4_firstImpossibleGift_92 (by decide) ?_
        refine g_sub [] rfl ?_
        exact wb_X4_firstImpossibleGift_99 C h (-9 : Int32) hs hR
      · refine g_aload_n C 0 dX4_firstImpossibleGift_95 rfl rfl ?_
        refine gf4_8 C oa0 lf_X4_190 dX4_firstImpossibleGift_96 ?_
        refine g_sub [] rfl ?_
        exact wb_X4_firstImpossibleGift_99 C h (h.1 a0 8) hs hR
    · refine g_aload_n C 0 dX4_firstImpossibleGift_23 rfl rfl ?_
      refine gf4_6 C oa0 lf_X4_40 dX4_firstImpossibleGift_24 ?_
      refine g_iload_n C 1 dX4_firstImpossibleGift_27 rfl rfl ?_
      refine g_iald C (tg4_6 oa0) dX4_firstImpossibleGift_28 hs (fun v1 hs => ?_)
      refine g_istore_n (lv' := [(2, .int v1), (0, .ref (ad E a0)), (1, .int x1)]) C dX4_firstImpossibleGift_29 rfl (by decide) rfl ?_
      refine g_aload_n C 1 dX4_firstImpossibleGift_30 rfl rfl ?_
      refine gf4_6 C oa0 lf_X4_40 dX4_firstImpossibleGift_31 ?_
      refine g_iload_n C 2 dX4_firstImpossibleGift_34 rfl rfl ?_
      refine g_iconst C dX4_firstImpossibleGift_35 cc_i_1 ?_
      refine g_iadd C dX4_firstImpossibleGift_36 ?_
      refine g_iald C (tg4_6 oa0) dX4_firstImpossibleGift_37 hs (fun v2 hs => ?_)
      refine g_istore_n (lv' := [(3, .int v2), (2, .int v1), (0, .ref (ad E a0)), (1, .int x1)]) C dX4_firstImpossibleGift_38 rfl (by decide) rfl ?_
      refine g_aload_n C 2 dX4_firstImpossibleGift_39 rfl rfl ?_
      refine gf4_6 C oa0 lf_X4_40 dX4_firstImpossibleGift_40 ?_
      refine g_iload_n C 3 dX4_firstImpossibleGift_43 rfl rfl ?_
      refine g_iconst C dX4_firstImpossibleGift_44 cc_i_2 ?_
      refine g_iadd C dX4_firstImpossibleGift_45 ?_
      refine g_iald C (tg4_6 oa0) dX4_firstImpossibleGift_46 hs (fun v3 hs => ?_)
      refine g_istore (lv' := [(4, .int v3), (3, .int v2), (2, .int v1), (0, .ref (ad E a0)), (1, .int x1)]) C dX4_firstImpossibleGift_47 (by decide) rfl ?_
      refine g_aload_n C 3 dX4_firstImpossibleGift_49 rfl rfl ?_
      refine gf4_2 C oa0 lf_X4_19 dX4_firstImpossibleGift_50 ?_
      refine g_iload_n C 2 dX4_firstImpossibleGift_53 rfl rfl ?_
      refine g_iload_n C 1 dX4_firstImpossibleGift_54 rfl rfl ?_
      refine g_iload C 0 dX4_firstImpossibleGift_55 rfl ?_
      obtain ⟨v4, hcv4, hs⟩ := bnd hs
      refine g_cVN (As := [.int v1, .int v2, .int v3]) (rest := []) C (w_X3_giftRefusal l E _ _ _ _ _ _ (tg4_2 oa0) hcv4) mw_X3_giftRefusal lm_X4_118 (tg4_2 oa0) rfl (ce3 E _ ((tg4_2 oa0)).2) rfl (by decide) rfl (Nat.le_of_ble_eq_true rfl) dX4_firstImpossibleGift_57 rfl ?_
      refine g_if_eq (tgt := 65) C dX4_firstImpossibleGift_60 (by decide) hs (fun hs => ?_) (fun hs => ?_)
      · refine g_aload_n C 3 dX4_firstImpossibleGift_65 rfl rfl ?_
        refine gf4_2 C oa0 lf_X4_19 dX4_firstImpossibleGift_66 ?_
        refine g_iload_n C 2 dX4_firstImpossibleGift_69 rfl rfl ?_
        refine g_iload_n C 1 dX4_firstImpossibleGift_70 rfl rfl ?_
        refine g_iload C 0 dX4_firstImpossibleGift_71 rfl ?_
        obtain ⟨h5, hch5, hs⟩ := bnd hs
        refine g_cVN (As := [.int v1, .int v2, .int v3]) (rest := []) C (w_X3_hand l E _ _ _ _ _ _ (tg4_2 oa0) hch5) mw_X3_hand lm_X4_121 (tg4_2 oa0) rfl (ce3 E _ ((tg4_2 oa0)).2) rfl (by decide) rfl (Nat.le_of_ble_eq_true rfl) dX4_firstImpossibleGift_73 rfl ?_
        refine g_iinc (lv' := [(1, .int (x1 + (3 : Int32))), (4, .int v3), (3, .int v2), (2, .int v1), (0, .ref (ad E a0))]) (j := 4) C dX4_firstImpossibleGift_76 rfl (cc_n_3 _) (by decide) rfl ?_
        refine g_goto (tgt := 13) C dX4_firstImpossibleGift_79 (by decide) ?_
        refine g_sub [4, 0] rfl ?_
        exact hk13 h5 a0 (x1 + (3 : Int32)) oa0 hs hR
      · refine g_iload_n C 4 dX4_firstImpossibleGift_63 rfl rfl ?_
        have e9 := Option.some.inj hs
        subst e9
        exact g_iret C hR dX4_firstImpossibleGift_64
set_option maxHeartbeats 4000000 in
set_option maxRecDepth 100000 in
theorem w_X4_firstImpossibleGift (l : Launch) (E : Ep) (h : Hp) (a0 : Nat) (res : Int32 × Hp) (oa0 : OKr a0 4) (hs : sh_X4_firstImpossibleGift h a0 = some res) : MG l E yX4_firstImpossibleGift cX4_firstImpossibleGift 5 (some .int) 3 [.ref (ad E a0)] h (some (.int res.1)) res.2 := by
  refine MG.of (by decide) (Nat.le_of_ble_eq_true rfl) ?_
  intro X C hR
  have C : CX E X RX4 cX4_firstImpossibleGift 5 3 := C
  show GG l E X h 0 [(0, .ref (ad E a0))] []
  refine g_aload_n C 0 dX4_firstImpossibleGift_0 rfl rfl ?_
  refine gf4_2 C oa0 lf_X4_19 dX4_firstImpossibleGift_1 ?_
  refine g_aload_n C 0 dX4_firstImpossibleGift_4 rfl rfl ?_
  refine gf4_0 C oa0 lf_X4_10 dX4_firstImpossibleGift_5 ?_
  obtain ⟨h1, hch1, hs⟩ := bnd hs
  refine g_cVN (As := [.ref (ad E (rf a0 0))]) (rest := []) C (w_X3_become l E _ _ _ _ (tg4_2 oa0) (tg4_0 oa0) hch1) mw_X3_become lm_X4_149 (tg4_2 oa0) rfl (ce3 E _ ((tg4_2 oa0)).2) rfl (by decide) rfl (Nat.le_of_ble_eq_true rfl) dX4_firstImpossibleGift_8 rfl ?_
  refine g_iconst C dX4_firstImpossibleGift_11 cc_i_0 ?_
  refine g_istore_n (lv' := [(1, .int (0 : Int32)), (0, .ref (ad E a0))]) C dX4_firstImpossibleGift_12 rfl (by decide) rfl ?_
  refine g_sub [1, 0] rfl ?_
  exact wb_X4_firstImpossibleGift_13 C 1000 h1 a0 (0 : Int32) oa0 hs hR
set_option maxHeartbeats 4000000 in
set_option maxRecDepth 100000 in
theorem w_X4_told (l : Launch) (E : Ep) (h : Hp) (a0 : Nat) (res : Int32 × Hp) (oa0 : OKr a0 4) (hs : sh_X4_told h a0 = some res) : MG l E yX4_told cX4_told 2 (some .int) 4 [.ref (ad E a0)] h (some (.int res.1)) res.2 := by
  refine MG.of (by decide) (Nat.le_of_ble_eq_true rfl) ?_
  intro X C hR
  have C : CX E X RX4 cX4_told 2 4 := C
  show GG l E X h 0 [(0, .ref (ad E a0))] []
  refine g_aload_n C 0 dX4_told_0 rfl rfl ?_
  obtain ⟨q1, hcq1, hs⟩ := bnd hs
  refine g_cV (As := []) (rest := []) C (w_X4_firstImpossibleGift l E _ _ _ oa0 hcq1) mw_X4_firstImpossibleGift lm_X4_197 oa0 rfl (ce4 E _ (oa0).2) rfl (by decide) rfl (Nat.le_of_ble_eq_true rfl) dX4_told_1 rfl ?_
  refine g_istore_n (lv' := [(1, .int q1.1), (0, .ref (ad E a0))]) C dX4_told_4 rfl (by decide) rfl ?_
  refine g_aload_n C 1 dX4_told_5 rfl rfl ?_
  refine g_iconst C dX4_told_6 cc_i_0 ?_
  refine pf4_8 C oa0 lf_X4_190 dX4_told_7 ?_
  refine g_iload_n C 0 dX4_told_10 rfl rfl ?_
  have e9 := Option.some.inj hs
  subst e9
  exact g_iret C hR dX4_told_11
set_option maxHeartbeats 4000000 in
set_option maxRecDepth 100000 in
theorem w_X4_nextSeed (l : Launch) (E : Ep) (h : Hp) (x0 : Int32) (res : Int32) (hs : sh_X4_nextSeed h x0 = some res) : MG l E yX4_nextSeed cX4_nextSeed 1 (some .int) 0 [.int x0] h (some (.int res)) h := by
  refine MG.of (by decide) (Nat.le_of_ble_eq_true rfl) ?_
  intro X C hR
  have C : CX E X RX4 cX4_nextSeed 1 0 := C
  show GG l E X h 0 [(0, .int x0)] []
  refine g_iload_n C 0 dX4_nextSeed_0 rfl rfl ?_
  refine g_ldcw C dX4_nextSeed_1 kk_X4_259 ?_
  refine g_imul C dX4_nextSeed_4 ?_
  refine g_sipush C dX4_nextSeed_5 cc_s_12345 ?_
  refine g_iadd C dX4_nextSeed_8 ?_
  have e9 := Option.some.inj hs
  subst e9
  exact g_iret C hR dX4_nextSeed_9
set_option maxHeartbeats 4000000 in
set_option maxRecDepth 100000 in
theorem wb_X4_draw_20 {l : Launch} {E : Ep} {X : Fx} {res : Int32} (C : CX E X RX4 cX4_draw 2 0) (h : Hp) (s0 : Int32) (hs : b_X4_draw_20  h s0 = some res) (hR : RT E X (some .int) (some (.int res)) h) : GG l E X h 20 [] [.int s0] := by
  have e9 := Option.some.inj hs
  subst e9
  exact g_iret C hR dX4_draw_20
set_option maxHeartbeats 4000000 in
set_option maxRecDepth 100000 in
theorem w_X4_draw (l : Launch) (E : Ep) (h : Hp) (x0 : Int32) (x1 : Int32) (res : Int32) (hs : sh_X4_draw h x0 x1 = some res) : MG l E yX4_draw cX4_draw 2 (some .int) 0 [.int x0, .int x1] h (some (.int res)) h := by
  refine MG.of (by decide) (Nat.le_of_ble_eq_true rfl) ?_
  intro X C hR
  have C : CX E X RX4 cX4_draw 2 0 := C
  show GG l E X h 0 [(0, .int x0), (1, .int x1)] []
  refine g_iload_n C 1 dX4_draw_0 rfl rfl ?_
  refine g_iconst C dX4_draw_1 cc_i_1 ?_
  refine g_icmp_ge (tgt := 9) C dX4_draw_2 (by decide) hs (fun hs => ?_) (fun hs => ?_)
  · refine g_iload_n C 0 dX4_draw_9 rfl rfl ?_
    refine g_ldcw C dX4_draw_10 kk_X4_260 ?_
    refine g_iand C dX4_draw_13 ?_
    refine g_ldcw C dX4_draw_14 kk_X4_261 ?_
    refine g_idivC C dX4_draw_17 (by decide) ?_
    refine g_iload_n C 1 dX4_draw_18 rfl rfl ?_
    refine g_irem C dX4_draw_19 hs (fun v1 hs => ?_)
    refine g_sub [] rfl ?_
    exact wb_X4_draw_20 C h v1 hs hR
  · refine g_iconst C dX4_draw_5 cc_i_0 ?_
    refine g_goto (tgt := 20) C dX4_draw_6 (by decide) ?_
    refine g_sub [] rfl ?_
    exact wb_X4_draw_20 C h (0 : Int32) hs hR
set_option maxHeartbeats 4000000 in
set_option maxRecDepth 100000 in
theorem wb_X3_find_28 {l : Launch} {E : Ep} {X : Fx} {res : Hp} (C : CX E X RX3 cX3_find 3 1) (h : Hp) (hs : b_X3_find_28  h  = some res) (hR : RT E X none none res) : GG l E X h 28 [] [] := by
  have e9 := Option.some.inj hs
  subst e9
  exact g_vret C hR dX3_find_28
set_option maxHeartbeats 4000000 in
set_option maxRecDepth 100000 in
theorem w_X3_find (l : Launch) (E : Ep) (h : Hp) (a0 : Nat) (x1 : Int32) (x2 : Int32) (res : Hp) (oa0 : OKr a0 3) (hs : sh_X3_find h a0 x1 x2 = some res) : MG l E yX3_find cX3_find 3 none 1 [.ref (ad E a0), .int x1, .int x2] h none res := by
  refine MG.of (by decide) (Nat.le_of_ble_eq_true rfl) ?_
  intro X C hR
  have C : CX E X RX3 cX3_find 3 1 := C
  show GG l E X h 0 [(0, .ref (ad E a0)), (1, .int x1), (2, .int x2)] []
  refine g_aload_n C 0 dX3_find_0 rfl rfl ?_
  refine g_iload_n C 1 dX3_find_1 rfl rfl ?_
  obtain ⟨v1, hcv1, hs⟩ := bnd hs
  refine g_cV (As := [.int x1]) (rest := []) C (w_X3_exists l E _ _ _ _ oa0 hcv1) mw_X3_exists lm_X3_118 oa0 rfl (ce3 E _ (oa0).2) rfl (by decide) rfl (Nat.le_of_ble_eq_true rfl) dX3_find_2 rfl ?_
  refine g_if_eq (tgt := 28) C dX3_find_5 (by decide) hs (fun hs => ?_) (fun hs => ?_)
  · refine g_sub [] rfl ?_
    exact wb_X3_find_28 C h hs hR
  · refine g_aload_n C 0 dX3_find_8 rfl rfl ?_
    refine gf3_3 C oa0 lf_X3_21 dX3_find_9 ?_
    refine g_iload_n C 1 dX3_find_12 rfl rfl ?_
    refine g_sipush C dX3_find_13 cc_s_9999 ?_
    refine g_aload_n C 0 dX3_find_16 rfl rfl ?_
    refine gf3_3 C oa0 lf_X3_21 dX3_find_17 ?_
    refine g_iload_n C 1 dX3_find_20 rfl rfl ?_
    refine g_iald C (tg3_3 oa0) dX3_find_21 hs (fun v2 hs => ?_)
    refine g_iload_n C 2 dX3_find_22 rfl rfl ?_
    refine g_iadd C dX3_find_23 ?_
    refine g_mmin C (by decide) dX3_find_24 lm_X3_91 kw_mmin_1 kw_math kw_mmin_2 (Nat.le_of_ble_eq_true rfl) ?_
    refine g_iast C (tg3_3 oa0) dX3_find_27 hs (fun h3 hs => ?_)
    refine g_sub [] rfl ?_
    exact wb_X3_find_28 C h3 hs hR
set_option maxHeartbeats 4000000 in
set_option maxRecDepth 100000 in
theorem wb_X4_seeds_52 {l : Launch} {E : Ep} {X : Fx} {res : Int32 × Hp} (C : CX E X RX4 cX4_seeds 7 5) : ∀ (n : Nat) (h : Hp) (a0 : Nat) (x1 : Int32) (x4 : Int32) (x5 : Int32) (oa0 : OKr a0 4), b_X4_seeds_52  n h a0 x1 x4 x5 = some res → RT E X (some .int) (some (.int res.1)) res.2 → GG l E X h 52 [(0, .ref (ad E a0)), (1, .int x1), (4, .int x4), (5, .int x5)] [] := by
  intro n
  induction n with
  | zero =>
    intro h a0 x1 x4 x5 oa0
    intro hs
    exact absurd hs (by intro e; cases e)
  | succ n ih =>
    intro h a0 x1 x4 x5 oa0 hs hR
    have hk52 := ih
    have hs : f_X4_seeds_52  (b_X4_seeds_52  n) h a0 x1 x4 x5 = some res := hs
    generalize b_X4_seeds_52  n = k52 at hs hk52
    refine g_iload C 3 dX4_seeds_52 rfl ?_
    refine g_iload_n C 1 dX4_seeds_54 rfl rfl ?_
    refine g_icmp_ge (tgt := 116) C dX4_seeds_55 (by decide) hs (fun hs => ?_) (fun hs => ?_)
    · refine g_aload_n C 0 dX4_seeds_116 rfl rfl ?_
      refine gf4_2 C oa0 lf_X4_19 dX4_seeds_117 ?_
      obtain ⟨v1, hcv1, hs⟩ := bnd hs
      refine g_cVN (As := []) (rest := []) C (w_X3_sumOfHas l E _ _ _ (tg4_2 oa0) hcv1) mw_X3_sumOfHas lm_X4_146 (tg4_2 oa0) rfl (ce3 E _ ((tg4_2 oa0)).2) rfl (by decide) rfl (Nat.le_of_ble_eq_true rfl) dX4_seeds_120 rfl ?_
      have e9 := Option.some.inj hs
      subst e9
      exact g_iret C hR dX4_seeds_123
    · refine g_iload C 2 dX4_seeds_58 rfl ?_
      obtain ⟨v2, hcv2, hs⟩ := bnd hs
      refine g_cS (As := [.int x4]) (rest := []) C (w_X4_nextSeed l E _ _ _ hcv2) mw_X4_nextSeed lm_X4_203 rfl (by decide) rfl (Nat.le_of_ble_eq_true rfl) dX4_seeds_60 rfl ?_
      refine g_istore (lv' := [(4, .int v2), (0, .ref (ad E a0)), (1, .int x1), (5, .int x5)]) C dX4_seeds_63 (by decide) rfl ?_
      refine g_iload C 0 dX4_seeds_65 rfl ?_
      refine g_aload_n C 1 dX4_seeds_67 rfl rfl ?_
      refine gf4_2 C oa0 lf_X4_19 dX4_seeds_68 ?_
      refine gf3_7N C (tg4_2 oa0) lf_X4_200 dX4_seeds_71 ?_
      obtain ⟨v3, hcv3, hs⟩ := bnd hs
      refine g_cS (As := [.int v2, .int (h.1 (rf a0 2) 7)]) (rest := []) C (w_X4_draw l E _ _ _ _ hcv3) mw_X4_draw lm_X4_206 rfl (by decide) rfl (Nat.le_of_ble_eq_true rfl) dX4_seeds_74 rfl ?_
      refine g_istore (lv' := [(6, .int v3), (4, .int v2), (0, .ref (ad E a0)), (1, .int x1), (5, .int x5)]) C dX4_seeds_77 (by decide) rfl ?_
      refine g_iload C 1 dX4_seeds_79 rfl ?_
      obtain ⟨v4, hcv4, hs⟩ := bnd hs
      refine g_cS (As := [.int v2]) (rest := []) C (w_X4_nextSeed l E _ _ _ hcv4) mw_X4_nextSeed lm_X4_203 rfl (by decide) rfl (Nat.le_of_ble_eq_true rfl) dX4_seeds_81 rfl ?_
      refine g_istore (lv' := [(4, .int v4), (6, .int v3), (0, .ref (ad E a0)), (1, .int x1), (5, .int x5)]) C dX4_seeds_84 (by decide) rfl ?_
      refine g_aload_n C 2 dX4_seeds_86 rfl rfl ?_
      refine gf4_2 C oa0 lf_X4_19 dX4_seeds_87 ?_
      refine g_iload C 1 dX4_seeds_90 rfl ?_
      refine g_iload C 0 dX4_seeds_92 rfl ?_
      refine g_bipush C dX4_seeds_94 cc_b_10 ?_
      obtain ⟨v5, hcv5, hs⟩ := bnd hs
      refine g_cS (As := [.int v4, .int (10 : Int32)]) (rest := [.int v3, .ref (ad E (rf a0 2))]) C (w_X4_draw l E _ _ _ _ hcv5) mw_X4_draw lm_X4_206 rfl (by decide) rfl (Nat.le_of_ble_eq_true rfl) dX4_seeds_96 rfl ?_
      obtain ⟨h6, hch6, hs⟩ := bnd hs
      refine g_cVN (As := [.int v3, .int v5]) (rest := []) C (w_X3_find l E _ _ _ _ _ (tg4_2 oa0) hch6) mw_X3_find lm_X4_209 (tg4_2 oa0) rfl (ce3 E _ ((tg4_2 oa0)).2) rfl (by decide) rfl (Nat.le_of_ble_eq_true rfl) dX4_seeds_99 rfl ?_
      refine g_aload_n C 2 dX4_seeds_102 rfl rfl ?_
      refine gf4_2 C oa0 lf_X4_19 dX4_seeds_103 ?_
      obtain ⟨q7, hcq7, hs⟩ := bnd hs
      refine g_cVN (As := []) (rest := []) C (w_X3_passDay l E _ _ _ (tg4_2 oa0) hcq7) mw_X3_passDay lm_X4_132 (tg4_2 oa0) rfl (ce3 E _ ((tg4_2 oa0)).2) rfl (by decide) rfl (Nat.le_of_ble_eq_true rfl) dX4_seeds_106 rfl ?_
      refine g_pop C dX4_seeds_109 rfl ?_
      refine g_iinc (lv' := [(5, .int (x5 + (1 : Int32))), (4, .int v4), (6, .int v3), (0, .ref (ad E a0)), (1, .int x1)]) (j := 4) C dX4_seeds_110 rfl (cc_n_1 _) (by decide) rfl ?_
      refine g_goto (tgt := 52) C dX4_seeds_113 (by decide) ?_
      refine g_sub [3, 4, 1, 0] rfl ?_
      exact hk52 q7.2 a0 x1 v4 (x5 + (1 : Int32)) oa0 hs hR
set_option maxHeartbeats 4000000 in
set_option maxRecDepth 100000 in
theorem wb_X4_seeds_25 {l : Launch} {E : Ep} {X : Fx} {res : Int32 × Hp} (C : CX E X RX4 cX4_seeds 7 5) (h : Hp) (a0 : Nat) (x1 : Int32) (x2 : Int32) (x3 : Int32) (oa0 : OKr a0 4) (hs : b_X4_seeds_25  h a0 x1 x2 x3 = some res) (hR : RT E X (some .int) (some (.int res.1)) res.2) : GG l E X h 25 [(0, .ref (ad E a0)), (1, .int x1), (2, .int x2), (3, .int x3)] [] := by
  refine g_iload_n C 3 dX4_seeds_25 rfl rfl ?_
  refine g_if_eq (tgt := 35) C dX4_seeds_26 (by decide) hs (fun hs => ?_) (fun hs => ?_)
  · refine g_aload_n C 0 dX4_seeds_35 rfl rfl ?_
    refine gf4_2 C oa0 lf_X4_19 dX4_seeds_36 ?_
    refine g_aload_n C 0 dX4_seeds_39 rfl rfl ?_
    refine gf4_0 C oa0 lf_X4_10 dX4_seeds_40 ?_
    obtain ⟨h1, hch1, hs⟩ := bnd hs
    refine g_cVN (As := [.ref (ad E (rf a0 0))]) (rest := []) C (w_X3_become l E _ _ _ _ (tg4_2 oa0) (tg4_0 oa0) hch1) mw_X3_become lm_X4_149 (tg4_2 oa0) rfl (ce3 E _ ((tg4_2 oa0)).2) rfl (by decide) rfl (Nat.le_of_ble_eq_true rfl) dX4_seeds_43 rfl ?_
    refine g_iload_n C 2 dX4_seeds_46 rfl rfl ?_
    refine g_istore (lv' := [(4, .int x2), (0, .ref (ad E a0)), (1, .int x1), (2, .int x2), (3, .int x3)]) C dX4_seeds_47 (by decide) rfl ?_
    refine g_iconst C dX4_seeds_49 cc_i_0 ?_
    refine g_istore (lv' := [(5, .int (0 : Int32)), (4, .int x2), (0, .ref (ad E a0)), (1, .int x1), (2, .int x2), (3, .int x3)]) C dX4_seeds_50 (by decide) rfl ?_
    refine g_sub [2, 3, 1, 0] rfl ?_
    exact wb_X4_seeds_52 C 1000 h1 a0 x1 x2 (0 : Int32) oa0 hs hR
  · refine g_aload_n C 0 dX4_seeds_29 rfl rfl ?_
    refine g_iload_n C 3 dX4_seeds_30 rfl rfl ?_
    obtain ⟨q2, hcq2, hs⟩ := bnd hs
    refine g_cV (As := [.int x3]) (rest := []) C (w_X4_refuse l E _ _ _ _ oa0 hcq2) mw_X4_refuse lm_X4_46 oa0 rfl (ce4 E _ (oa0).2) rfl (by decide) rfl (Nat.le_of_ble_eq_true rfl) dX4_seeds_31 rfl ?_
    have e9 := Option.some.inj hs
    subst e9
    exact g_iret C hR dX4_seeds_34
set_option maxHeartbeats 4000000 in
set_option maxRecDepth 100000 in
theorem w_X4_seeds (l : Launch) (E : Ep) (h : Hp) (a0 : Nat) (x1 : Int32) (x2 : Int32) (res : Int32 × Hp) (oa0 : OKr a0 4) (hs : sh_X4_seeds h a0 x1 x2 = some res) : MG l E yX4_seeds cX4_seeds 7 (some .int) 5 [.ref (ad E a0), .int x1, .int x2] h (some (.int res.1)) res.2 := by
  refine MG.of (by decide) (Nat.le_of_ble_eq_true rfl) ?_
  intro X C hR
  have C : CX E X RX4 cX4_seeds 7 5 := C
  show GG l E X h 0 [(0, .ref (ad E a0)), (1, .int x1), (2, .int x2)] []
  refine g_iload_n C 1 dX4_seeds_0 rfl rfl ?_
  refine g_iconst C dX4_seeds_1 cc_i_1 ?_
  refine g_bipush C dX4_seeds_2 cc_b_20 ?_
  obtain ⟨v1, hcv1, hs⟩ := bnd hs
  refine g_cS (As := [.int x1, .int (1 : Int32), .int (20 : Int32)]) (rest := []) C (w_X4_outside l E _ _ _ _ _ hcv1) mw_X4_outside lm_X4_111 rfl (by decide) rfl (Nat.le_of_ble_eq_true rfl) dX4_seeds_4 rfl ?_
  refine g_istore_n (lv' := [(3, .int v1), (0, .ref (ad E a0)), (1, .int x1), (2, .int x2)]) C dX4_seeds_7 rfl (by decide) rfl ?_
  refine g_iload_n C 0 dX4_seeds_8 rfl rfl ?_
  refine g_if_ne (tgt := 25) C dX4_seeds_9 (by decide) hs (fun hs => ?_) (fun hs => ?_)
  · refine g_aload_n C 1 dX4_seeds_12 rfl rfl ?_
    refine gf4_0 C oa0 lf_X4_10 dX4_seeds_13 ?_
    refine gf3_7N C (tg4_0 oa0) lf_X4_200 dX4_seeds_16 ?_
    refine g_if_ne (tgt := 25) C dX4_seeds_19 (by decide) hs (fun hs => ?_) (fun hs => ?_)
    · refine g_bipush C dX4_seeds_22 cc_b_m3 ?_
      refine g_istore_n (lv' := [(3, .int (-3 : Int32)), (0, .ref (ad E a0)), (1, .int x1), (2, .int x2)]) C dX4_seeds_24 rfl (by decide) rfl ?_
      refine g_sub [1, 2, 3, 0] rfl ?_
      exact wb_X4_seeds_25 C h a0 x1 x2 (-3 : Int32) oa0 hs hR
    · refine g_sub [1, 2, 3, 0] rfl ?_
      exact wb_X4_seeds_25 C h a0 x1 x2 v1 oa0 hs hR
  · refine g_sub [1, 2, 3, 0] rfl ?_
    exact wb_X4_seeds_25 C h a0 x1 x2 v1 oa0 hs hR
set_option maxHeartbeats 4000000 in
set_option maxRecDepth 100000 in
theorem w_X4_image (l : Launch) (E : Ep) (h : Hp) (a0 : Nat) (res : Int32 × Hp) (oa0 : OKr a0 4) (hs : sh_X4_image h a0 = some res) : MG l E yX4_image cX4_image 1 (some .int) 3 [.ref (ad E a0)] h (some (.int res.1)) res.2 := by
  refine MG.of (by decide) (Nat.le_of_ble_eq_true rfl) ?_
  intro X C hR
  have C : CX E X RX4 cX4_image 1 3 := C
  show GG l E X h 0 [(0, .ref (ad E a0))] []
  refine g_aload_n C 0 dX4_image_0 rfl rfl ?_
  refine gf4_1 C oa0 lf_X4_16 dX4_image_1 ?_
  refine g_aload_n C 0 dX4_image_4 rfl rfl ?_
  refine gf4_0 C oa0 lf_X4_10 dX4_image_5 ?_
  obtain ⟨h1, hch1, hs⟩ := bnd hs
  refine g_cVN (As := [.ref (ad E (rf a0 0))]) (rest := []) C (w_X3_become l E _ _ _ _ (tg4_1 oa0) (tg4_0 oa0) hch1) mw_X3_become lm_X4_149 (tg4_1 oa0) rfl (ce3 E _ ((tg4_1 oa0)).2) rfl (by decide) rfl (Nat.le_of_ble_eq_true rfl) dX4_image_8 rfl ?_
  refine g_aload_n C 0 dX4_image_11 rfl rfl ?_
  refine g_iconst C dX4_image_12 cc_i_1 ?_
  refine pf4_9 C (Or.inr rfl) oa0 lf_X4_213 dX4_image_13 ?_
  refine g_aload_n C 0 dX4_image_16 rfl rfl ?_
  refine gf4_0 C oa0 lf_X4_10 dX4_image_17 ?_
  refine gf3_8N C (tg4_0 oa0) lf_X4_125 dX4_image_20 ?_
  have e9 := Option.some.inj hs
  subst e9
  exact g_iret C hR dX4_image_23
set_option maxHeartbeats 4000000 in
set_option maxRecDepth 100000 in
theorem w_X4_restore (l : Launch) (E : Ep) (h : Hp) (a0 : Nat) (res : Int32 × Hp) (oa0 : OKr a0 4) (hs : sh_X4_restore h a0 = some res) : MG l E yX4_restore cX4_restore 1 (some .int) 3 [.ref (ad E a0)] h (some (.int res.1)) res.2 := by
  refine MG.of (by decide) (Nat.le_of_ble_eq_true rfl) ?_
  intro X C hR
  have C : CX E X RX4 cX4_restore 1 3 := C
  show GG l E X h 0 [(0, .ref (ad E a0))] []
  refine g_aload_n C 0 dX4_restore_0 rfl rfl ?_
  refine gf4_9 C oa0 lf_X4_213 dX4_restore_1 ?_
  refine g_if_ne (tgt := 14) C dX4_restore_4 (by decide) hs (fun hs => ?_) (fun hs => ?_)
  · refine g_aload_n C 0 dX4_restore_7 rfl rfl ?_
    refine g_bipush C dX4_restore_8 cc_b_m3 ?_
    obtain ⟨q1, hcq1, hs⟩ := bnd hs
    refine g_cV (As := [.int (-3 : Int32)]) (rest := []) C (w_X4_refuse l E _ _ _ _ oa0 hcq1) mw_X4_refuse lm_X4_46 oa0 rfl (ce4 E _ (oa0).2) rfl (by decide) rfl (Nat.le_of_ble_eq_true rfl) dX4_restore_10 rfl ?_
    have e9 := Option.some.inj hs
    subst e9
    exact g_iret C hR dX4_restore_13
  · refine g_aload_n C 0 dX4_restore_14 rfl rfl ?_
    refine gf4_0 C oa0 lf_X4_10 dX4_restore_15 ?_
    refine g_aload_n C 0 dX4_restore_18 rfl rfl ?_
    refine gf4_1 C oa0 lf_X4_16 dX4_restore_19 ?_
    obtain ⟨h2, hch2, hs⟩ := bnd hs
    refine g_cVN (As := [.ref (ad E (rf a0 1))]) (rest := []) C (w_X3_become l E _ _ _ _ (tg4_0 oa0) (tg4_1 oa0) hch2) mw_X3_become lm_X4_149 (tg4_0 oa0) rfl (ce3 E _ ((tg4_0 oa0)).2) rfl (by decide) rfl (Nat.le_of_ble_eq_true rfl) dX4_restore_22 rfl ?_
    refine g_aload_n C 0 dX4_restore_25 rfl rfl ?_
    refine gf4_0 C oa0 lf_X4_10 dX4_restore_26 ?_
    refine gf3_8N C (tg4_0 oa0) lf_X4_125 dX4_restore_29 ?_
    have e9 := Option.some.inj hs
    subst e9
    exact g_iret C hR dX4_restore_32
set_option maxHeartbeats 4000000 in
set_option maxRecDepth 100000 in
theorem wb_X3_sumOfLying_4 {l : Launch} {E : Ep} {X : Fx} {res : Int32} (C : CX E X RX3 cX3_sumOfLying 3 2) : ∀ (n : Nat) (h : Hp) (a0 : Nat) (x1 : Int32) (x2 : Int32) (oa0 : OKr a0 3), b_X3_sumOfLying_4  n h a0 x1 x2 = some res → RT E X (some .int) (some (.int res)) h → GG l E X h 4 [(0, .ref (ad E a0)), (1, .int x1), (2, .int x2)] [] := by
  intro n
  induction n with
  | zero =>
    intro h a0 x1 x2 oa0
    intro hs
    exact absurd hs (by intro e; cases e)
  | succ n ih =>
    intro h a0 x1 x2 oa0 hs hR
    have hk4 := ih
    have hs : f_X3_sumOfLying_4  (b_X3_sumOfLying_4  n) h a0 x1 x2 = some res := hs
    generalize b_X3_sumOfLying_4  n = k4 at hs hk4
    refine g_iload_n C 2 dX3_sumOfLying_4 rfl rfl ?_
    refine g_aload_n C 0 dX3_sumOfLying_5 rfl rfl ?_
    refine gf3_7 C oa0 lf_X3_47 dX3_sumOfLying_6 ?_
    refine g_icmp_ge (tgt := 29) C dX3_sumOfLying_9 (by decide) hs (fun hs => ?_) (fun hs => ?_)
    · refine g_iload_n C 1 dX3_sumOfLying_29 rfl rfl ?_
      have e9 := Option.some.inj hs
      subst e9
      exact g_iret C hR dX3_sumOfLying_30
    · refine g_iload_n C 1 dX3_sumOfLying_12 rfl rfl ?_
      refine g_aload_n C 0 dX3_sumOfLying_13 rfl rfl ?_
      refine gf3_6 C oa0 lf_X3_33 dX3_sumOfLying_14 ?_
      refine g_iload_n C 2 dX3_sumOfLying_17 rfl rfl ?_
      obtain ⟨v1, hcv1, hs⟩ := bnd hs
      refine g_cVN (As := [.int x2]) (rest := [.int x1]) C (w_X0_gotToday l E _ _ _ _ (tg3_6 oa0) hcv1) mw_X0_gotToday lm_X3_72 (tg3_6 oa0) rfl (ce0 E _ ((tg3_6 oa0)).2) rfl (by decide) rfl (Nat.le_of_ble_eq_true rfl) dX3_sumOfLying_18 rfl ?_
      refine g_iadd C dX3_sumOfLying_21 ?_
      refine g_istore_n (lv' := [(1, .int (x1 + v1)), (0, .ref (ad E a0)), (2, .int x2)]) C dX3_sumOfLying_22 rfl (by decide) rfl ?_
      refine g_iinc (lv' := [(2, .int (x2 + (1 : Int32))), (1, .int (x1 + v1)), (0, .ref (ad E a0))]) (j := 2) C dX3_sumOfLying_23 rfl (cc_n_1 _) (by decide) rfl ?_
      refine g_goto (tgt := 4) C dX3_sumOfLying_26 (by decide) ?_
      refine g_sub [2, 1, 0] rfl ?_
      exact hk4 h a0 (x1 + v1) (x2 + (1 : Int32)) oa0 hs hR
set_option maxHeartbeats 4000000 in
set_option maxRecDepth 100000 in
theorem w_X3_sumOfLying (l : Launch) (E : Ep) (h : Hp) (a0 : Nat) (res : Int32) (oa0 : OKr a0 3) (hs : sh_X3_sumOfLying h a0 = some res) : MG l E yX3_sumOfLying cX3_sumOfLying 3 (some .int) 2 [.ref (ad E a0)] h (some (.int res)) h := by
  refine MG.of (by decide) (Nat.le_of_ble_eq_true rfl) ?_
  intro X C hR
  have C : CX E X RX3 cX3_sumOfLying 3 2 := C
  show GG l E X h 0 [(0, .ref (ad E a0))] []
  refine g_iconst C dX3_sumOfLying_0 cc_i_0 ?_
  refine g_istore_n (lv' := [(1, .int (0 : Int32)), (0, .ref (ad E a0))]) C dX3_sumOfLying_1 rfl (by decide) rfl ?_
  refine g_iconst C dX3_sumOfLying_2 cc_i_0 ?_
  refine g_istore_n (lv' := [(2, .int (0 : Int32)), (1, .int (0 : Int32)), (0, .ref (ad E a0))]) C dX3_sumOfLying_3 rfl (by decide) rfl ?_
  refine g_sub [2, 1, 0] rfl ?_
  exact wb_X3_sumOfLying_4 C 1000 h a0 (0 : Int32) (0 : Int32) oa0 hs hR
set_option maxHeartbeats 4000000 in
set_option maxRecDepth 100000 in
theorem wb_X3_sumOfGiven_4 {l : Launch} {E : Ep} {X : Fx} {res : Int32} (C : CX E X RX3 cX3_sumOfGiven 3 1) : ∀ (n : Nat) (h : Hp) (a0 : Nat) (x1 : Int32) (x2 : Int32) (oa0 : OKr a0 3), b_X3_sumOfGiven_4  n h a0 x1 x2 = some res → RT E X (some .int) (some (.int res)) h → GG l E X h 4 [(0, .ref (ad E a0)), (1, .int x1), (2, .int x2)] [] := by
  intro n
  induction n with
  | zero =>
    intro h a0 x1 x2 oa0
    intro hs
    exact absurd hs (by intro e; cases e)
  | succ n ih =>
    intro h a0 x1 x2 oa0 hs hR
    have hk4 := ih
    have hs : f_X3_sumOfGiven_4  (b_X3_sumOfGiven_4  n) h a0 x1 x2 = some res := hs
    generalize b_X3_sumOfGiven_4  n = k4 at hs hk4
    refine g_iload_n C 2 dX3_sumOfGiven_4 rfl rfl ?_
    refine g_aload_n C 0 dX3_sumOfGiven_5 rfl rfl ?_
    refine gf3_7 C oa0 lf_X3_47 dX3_sumOfGiven_6 ?_
    refine g_icmp_ge (tgt := 29) C dX3_sumOfGiven_9 (by decide) hs (fun hs => ?_) (fun hs => ?_)
    · refine g_iload_n C 1 dX3_sumOfGiven_29 rfl rfl ?_
      have e9 := Option.some.inj hs
      subst e9
      exact g_iret C hR dX3_sumOfGiven_30
    · refine g_iload_n C 1 dX3_sumOfGiven_12 rfl rfl ?_
      refine g_aload_n C 0 dX3_sumOfGiven_13 rfl rfl ?_
      refine gf3_6 C oa0 lf_X3_33 dX3_sumOfGiven_14 ?_
      refine g_iload_n C 2 dX3_sumOfGiven_17 rfl rfl ?_
      obtain ⟨v1, hcv1, hs⟩ := bnd hs
      refine g_cVN (As := [.int x2]) (rest := [.int x1]) C (w_X0_givenToday l E _ _ _ _ (tg3_6 oa0) hcv1) mw_X0_givenToday lm_X3_76 (tg3_6 oa0) rfl (ce0 E _ ((tg3_6 oa0)).2) rfl (by decide) rfl (Nat.le_of_ble_eq_true rfl) dX3_sumOfGiven_18 rfl ?_
      refine g_iadd C dX3_sumOfGiven_21 ?_
      refine g_istore_n (lv' := [(1, .int (x1 + v1)), (0, .ref (ad E a0)), (2, .int x2)]) C dX3_sumOfGiven_22 rfl (by decide) rfl ?_
      refine g_iinc (lv' := [(2, .int (x2 + (1 : Int32))), (1, .int (x1 + v1)), (0, .ref (ad E a0))]) (j := 2) C dX3_sumOfGiven_23 rfl (cc_n_1 _) (by decide) rfl ?_
      refine g_goto (tgt := 4) C dX3_sumOfGiven_26 (by decide) ?_
      refine g_sub [2, 1, 0] rfl ?_
      exact hk4 h a0 (x1 + v1) (x2 + (1 : Int32)) oa0 hs hR
set_option maxHeartbeats 4000000 in
set_option maxRecDepth 100000 in
theorem w_X3_sumOfGiven (l : Launch) (E : Ep) (h : Hp) (a0 : Nat) (res : Int32) (oa0 : OKr a0 3) (hs : sh_X3_sumOfGiven h a0 = some res) : MG l E yX3_sumOfGiven cX3_sumOfGiven 3 (some .int) 1 [.ref (ad E a0)] h (some (.int res)) h := by
  refine MG.of (by decide) (Nat.le_of_ble_eq_true rfl) ?_
  intro X C hR
  have C : CX E X RX3 cX3_sumOfGiven 3 1 := C
  show GG l E X h 0 [(0, .ref (ad E a0))] []
  refine g_iconst C dX3_sumOfGiven_0 cc_i_0 ?_
  refine g_istore_n (lv' := [(1, .int (0 : Int32)), (0, .ref (ad E a0))]) C dX3_sumOfGiven_1 rfl (by decide) rfl ?_
  refine g_iconst C dX3_sumOfGiven_2 cc_i_0 ?_
  refine g_istore_n (lv' := [(2, .int (0 : Int32)), (1, .int (0 : Int32)), (0, .ref (ad E a0))]) C dX3_sumOfGiven_3 rfl (by decide) rfl ?_
  refine g_sub [2, 1, 0] rfl ?_
  exact wb_X3_sumOfGiven_4 C 1000 h a0 (0 : Int32) (0 : Int32) oa0 hs hR
set_option maxHeartbeats 4000000 in
set_option maxRecDepth 100000 in
theorem wb_X4_count_137 {l : Launch} {E : Ep} {X : Fx} {res : Int32} (C : CX E X RX4 cX4_count 2 3) (h : Hp) (a0 : Nat) (x1 : Int32) (oa0 : OKr a0 4) (hs : b_X4_count_137  h a0 x1 = some res) (hR : RT E X (some .int) (some (.int res)) h) : GG l E X h 137 [(0, .ref (ad E a0)), (1, .int x1)] [] := by
  refine g_aload_n C 0 dX4_count_137 rfl rfl ?_
  refine gf4_7 C oa0 lf_X4_43 dX4_count_138 ?_
  refine g_iload_n C 1 dX4_count_141 rfl rfl ?_
  refine g_bipush C dX4_count_142 cc_b_10 ?_
  refine g_isub C dX4_count_144 ?_
  refine g_iald C (tg4_7 oa0) dX4_count_145 hs (fun v1 hs => ?_)
  have e9 := Option.some.inj hs
  subst e9
  exact g_iret C hR dX4_count_146
set_option maxHeartbeats 4000000 in
set_option maxRecDepth 100000 in
theorem wb_X4_count_147 {l : Launch} {E : Ep} {X : Fx} {res : Int32} (C : CX E X RX4 cX4_count 2 3) (h : Hp) (hs : b_X4_count_147  h  = some res) (hR : RT E X (some .int) (some (.int res)) h) : GG l E X h 147 [] [] := by
  refine g_bipush C dX4_count_147 cc_b_m9 ?_
  have e9 := Option.some.inj hs
  subst e9
  exact g_iret C hR dX4_count_149
set_option maxHeartbeats 4000000 in
set_option maxRecDepth 100000 in
theorem w_X4_count (l : Launch) (E : Ep) (h : Hp) (a0 : Nat) (x1 : Int32) (res : Int32) (oa0 : OKr a0 4) (hs : sh_X4_count h a0 x1 = some res) : MG l E yX4_count cX4_count 2 (some .int) 3 [.ref (ad E a0), .int x1] h (some (.int res)) h := by
  refine MG.of (by decide) (Nat.le_of_ble_eq_true rfl) ?_
  intro X C hR
  have C : CX E X RX4 cX4_count 2 3 := C
  show GG l E X h 0 [(0, .ref (ad E a0)), (1, .int x1)] []
  refine g_iload_n C 1 dX4_count_0 rfl rfl ?_
  refine g_case hs (fun hx1_0 hs => ?_) (fun hx1_0 hs => ?_)
  · refine g_tabIn (v := (0 : Int32)) (tgt := 84) C dX4_count_1 hx1_0 (by decide) (by decide) rfl (by decide) ?_
    refine g_aload_n C 0 dX4_count_84 rfl rfl ?_
    refine gf4_0 C oa0 lf_X4_10 dX4_count_85 ?_
    refine gf3_7N C (tg4_0 oa0) lf_X4_200 dX4_count_88 ?_
    have e9 := Option.some.inj hs
    subst e9
    exact g_iret C hR dX4_count_91
  refine g_case hs (fun hx1_1 hs => ?_) (fun hx1_1 hs => ?_)
  · refine g_tabIn (v := (1 : Int32)) (tgt := 92) C dX4_count_1 hx1_1 (by decide) (by decide) rfl (by decide) ?_
    refine g_aload_n C 0 dX4_count_92 rfl rfl ?_
    refine gf4_0 C oa0 lf_X4_10 dX4_count_93 ?_
    refine gf3_8N C (tg4_0 oa0) lf_X4_125 dX4_count_96 ?_
    have e9 := Option.some.inj hs
    subst e9
    exact g_iret C hR dX4_count_99
  refine g_case hs (fun hx1_2 hs => ?_) (fun hx1_2 hs => ?_)
  · refine g_tabIn (v := (2 : Int32)) (tgt := 100) C dX4_count_1 hx1_2 (by decide) (by decide) rfl (by decide) ?_
    refine g_aload_n C 0 dX4_count_100 rfl rfl ?_
    refine gf4_0 C oa0 lf_X4_10 dX4_count_101 ?_
    obtain ⟨v1, hcv1, hs⟩ := bnd hs
    refine g_cVN (As := []) (rest := []) C (w_X3_sumOfHas l E _ _ _ (tg4_0 oa0) hcv1) mw_X3_sumOfHas lm_X4_146 (tg4_0 oa0) rfl (ce3 E _ ((tg4_0 oa0)).2) rfl (by decide) rfl (Nat.le_of_ble_eq_true rfl) dX4_count_104 rfl ?_
    have e9 := Option.some.inj hs
    subst e9
    exact g_iret C hR dX4_count_107
  refine g_case hs (fun hx1_3 hs => ?_) (fun hx1_3 hs => ?_)
  · refine g_tabIn (v := (3 : Int32)) (tgt := 108) C dX4_count_1 hx1_3 (by decide) (by decide) rfl (by decide) ?_
    refine g_aload_n C 0 dX4_count_108 rfl rfl ?_
    refine gf4_0 C oa0 lf_X4_10 dX4_count_109 ?_
    obtain ⟨v2, hcv2, hs⟩ := bnd hs
    refine g_cVN (As := []) (rest := []) C (w_X3_sumOfLying l E _ _ _ (tg4_0 oa0) hcv2) mw_X3_sumOfLying lm_X4_217 (tg4_0 oa0) rfl (ce3 E _ ((tg4_0 oa0)).2) rfl (by decide) rfl (Nat.le_of_ble_eq_true rfl) dX4_count_112 rfl ?_
    have e9 := Option.some.inj hs
    subst e9
    exact g_iret C hR dX4_count_115
  refine g_case hs (fun hx1_4 hs => ?_) (fun hx1_4 hs => ?_)
  · refine g_tabIn (v := (4 : Int32)) (tgt := 116) C dX4_count_1 hx1_4 (by decide) (by decide) rfl (by decide) ?_
    refine g_aload_n C 0 dX4_count_116 rfl rfl ?_
    refine gf4_0 C oa0 lf_X4_10 dX4_count_117 ?_
    obtain ⟨v3, hcv3, hs⟩ := bnd hs
    refine g_cVN (As := []) (rest := []) C (w_X3_sumOfGiven l E _ _ _ (tg4_0 oa0) hcv3) mw_X3_sumOfGiven lm_X4_220 (tg4_0 oa0) rfl (ce3 E _ ((tg4_0 oa0)).2) rfl (by decide) rfl (Nat.le_of_ble_eq_true rfl) dX4_count_120 rfl ?_
    have e9 := Option.some.inj hs
    subst e9
    exact g_iret C hR dX4_count_123
  refine g_case hs (fun hx1_5 hs => ?_) (fun hx1_5 hs => ?_)
  · refine g_tabIn (v := (5 : Int32)) (tgt := 124) C dX4_count_1 hx1_5 (by decide) (by decide) rfl (by decide) ?_
    refine g_aload_n C 0 dX4_count_124 rfl rfl ?_
    refine gf4_4 C oa0 lf_X4_32 dX4_count_125 ?_
    refine gf1_1N C (tg4_4 oa0) lf_X4_223 dX4_count_128 ?_
    have e9 := Option.some.inj hs
    subst e9
    exact g_iret C hR dX4_count_131
  refine g_case hs (fun hx1_6 hs => ?_) (fun hx1_6 hs => ?_)
  · refine g_tabIn (v := (6 : Int32)) (tgt := 132) C dX4_count_1 hx1_6 (by decide) (by decide) rfl (by decide) ?_
    refine g_aload_n C 0 dX4_count_132 rfl rfl ?_
    refine gf4_8 C oa0 lf_X4_190 dX4_count_133 ?_
    have e9 := Option.some.inj hs
    subst e9
    exact g_iret C hR dX4_count_136
  refine g_case hs (fun hx1_7 hs => ?_) (fun hx1_7 hs => ?_)
  · refine g_tabIn (v := (7 : Int32)) (tgt := 147) C dX4_count_1 hx1_7 (by decide) (by decide) rfl (by decide) ?_
    refine g_sub [] rfl ?_
    exact wb_X4_count_147 C h hs hR
  refine g_case hs (fun hx1_8 hs => ?_) (fun hx1_8 hs => ?_)
  · refine g_tabIn (v := (8 : Int32)) (tgt := 147) C dX4_count_1 hx1_8 (by decide) (by decide) rfl (by decide) ?_
    refine g_sub [] rfl ?_
    exact wb_X4_count_147 C h hs hR
  refine g_case hs (fun hx1_9 hs => ?_) (fun hx1_9 hs => ?_)
  · refine g_tabIn (v := (9 : Int32)) (tgt := 147) C dX4_count_1 hx1_9 (by decide) (by decide) rfl (by decide) ?_
    refine g_sub [] rfl ?_
    exact wb_X4_count_147 C h hs hR
  refine g_case hs (fun hx1_10 hs => ?_) (fun hx1_10 hs => ?_)
  · refine g_tabIn (v := (10 : Int32)) (tgt := 147) C dX4_count_1 hx1_10 (by decide) (by decide) rfl (by decide) ?_
    refine g_sub [] rfl ?_
    exact wb_X4_count_147 C h hs hR
  refine g_case hs (fun hx1_11 hs => ?_) (fun hx1_11 hs => ?_)
  · refine g_tabIn (v := (11 : Int32)) (tgt := 137) C dX4_count_1 hx1_11 (by decide) (by decide) rfl (by decide) ?_
    exact wb_X4_count_137 C h a0 x1 oa0 hs hR
  refine g_case hs (fun hx1_12 hs => ?_) (fun hx1_12 hs => ?_)
  · refine g_tabIn (v := (12 : Int32)) (tgt := 137) C dX4_count_1 hx1_12 (by decide) (by decide) rfl (by decide) ?_
    exact wb_X4_count_137 C h a0 x1 oa0 hs hR
  refine g_case hs (fun hx1_13 hs => ?_) (fun hx1_13 hs => ?_)
  · refine g_tabIn (v := (13 : Int32)) (tgt := 137) C dX4_count_1 hx1_13 (by decide) (by decide) rfl (by decide) ?_
    exact wb_X4_count_137 C h a0 x1 oa0 hs hR
  refine g_case hs (fun hx1_14 hs => ?_) (fun hx1_14 hs => ?_)
  · refine g_tabIn (v := (14 : Int32)) (tgt := 137) C dX4_count_1 hx1_14 (by decide) (by decide) rfl (by decide) ?_
    exact wb_X4_count_137 C h a0 x1 oa0 hs hR
  refine g_case hs (fun hx1_15 hs => ?_) (fun hx1_15 hs => ?_)
  · refine g_tabIn (v := (15 : Int32)) (tgt := 137) C dX4_count_1 hx1_15 (by decide) (by decide) rfl (by decide) ?_
    exact wb_X4_count_137 C h a0 x1 oa0 hs hR
  refine g_case hs (fun hx1_16 hs => ?_) (fun hx1_16 hs => ?_)
  · refine g_tabIn (v := (16 : Int32)) (tgt := 137) C dX4_count_1 hx1_16 (by decide) (by decide) rfl (by decide) ?_
    exact wb_X4_count_137 C h a0 x1 oa0 hs hR
  refine g_tabOut (tgt := 147) C dX4_count_1 (by have z0 := ne_tz (z := 0) (by decide) hx1_0; have z1 := ne_tz (z := 1) (by decide) hx1_1; have z2 := ne_tz (z := 2) (by decide) hx1_2; have z3 := ne_tz (z := 3) (by decide) hx1_3; have z4 := ne_tz (z := 4) (by decide) hx1_4; have z5 := ne_tz (z := 5) (by decide) hx1_5; have z6 := ne_tz (z := 6) (by decide) hx1_6; have z7 := ne_tz (z := 7) (by decide) hx1_7; have z8 := ne_tz (z := 8) (by decide) hx1_8; have z9 := ne_tz (z := 9) (by decide) hx1_9; have z10 := ne_tz (z := 10) (by decide) hx1_10; have z11 := ne_tz (z := 11) (by decide) hx1_11; have z12 := ne_tz (z := 12) (by decide) hx1_12; have z13 := ne_tz (z := 13) (by decide) hx1_13; have z14 := ne_tz (z := 14) (by decide) hx1_14; have z15 := ne_tz (z := 15) (by decide) hx1_15; have z16 := ne_tz (z := 16) (by decide) hx1_16; omega) (by decide) ?_
  refine g_sub [] rfl ?_
  exact wb_X4_count_147 C h hs hR
set_option maxHeartbeats 4000000 in
set_option maxRecDepth 100000 in
theorem w_X5_refuse (l : Launch) (E : Ep) (h : Hp) (a0 : Nat) (x1 : Int32) (res : Int32 × Hp) (oa0 : OKr a0 5) (hs : sh_X5_refuse h a0 x1 = some res) : MG l E yX5_refuse cX5_refuse 2 (some .int) 0 [.ref (ad E a0), .int x1] h (some (.int res.1)) res.2 := by
  refine MG.of (by decide) (Nat.le_of_ble_eq_true rfl) ?_
  intro X C hR
  have C : CX E X RX5 cX5_refuse 2 0 := C
  show GG l E X h 0 [(0, .ref (ad E a0)), (1, .int x1)] []
  refine g_aload_n C 0 dX5_refuse_0 rfl rfl ?_
  refine gf5_14 C oa0 lf_X5_35 dX5_refuse_1 ?_
  refine g_iload_n C 1 dX5_refuse_4 rfl rfl ?_
  refine g_ineg C dX5_refuse_5 ?_
  refine g_dup2 C dX5_refuse_6 rfl rfl ?_
  refine g_iald C (tg5_14 oa0) dX5_refuse_7 hs (fun v1 hs => ?_)
  refine g_iconst C dX5_refuse_8 cc_i_1 ?_
  refine g_iadd C dX5_refuse_9 ?_
  refine g_iast C (tg5_14 oa0) dX5_refuse_10 hs (fun h2 hs => ?_)
  refine g_iload_n C 1 dX5_refuse_11 rfl rfl ?_
  have e9 := Option.some.inj hs
  subst e9
  exact g_iret C hR dX5_refuse_12
set_option maxHeartbeats 4000000 in
set_option maxRecDepth 100000 in
theorem wb_X5_feed_32 {l : Launch} {E : Ep} {X : Fx} {res : Int32 × Hp} (C : CX E X RX5 cX5_feed 2 1) (h : Hp) (a0 : Nat) (oa0 : OKr a0 5) (hs : b_X5_feed_32  h a0 = some res) (hR : RT E X (some .int) (some (.int res.1)) res.2) : GG l E X h 32 [(0, .ref (ad E a0))] [] := by
  refine g_aload_n C 0 dX5_feed_32 rfl rfl ?_
  refine g_bipush C dX5_feed_33 cc_b_m6 ?_
  obtain ⟨q1, hcq1, hs⟩ := bnd hs
  refine g_cV (As := [.int (-6 : Int32)]) (rest := []) C (w_X5_refuse l E _ _ _ _ oa0 hcq1) mw_X5_refuse lm_X5_152 oa0 rfl (ce5 E _ (oa0).2) rfl (by decide) rfl (Nat.le_of_ble_eq_true rfl) dX5_feed_35 rfl ?_
  have e9 := Option.some.inj hs
  subst e9
  exact g_iret C hR dX5_feed_38
set_option maxHeartbeats 4000000 in
set_option maxRecDepth 100000 in
theorem w_X5_feed (l : Launch) (E : Ep) (h : Hp) (a0 : Nat) (x1 : Int32) (res : Int32 × Hp) (oa0 : OKr a0 5) (hs : sh_X5_feed h a0 x1 = some res) : MG l E yX5_feed cX5_feed 2 (some .int) 1 [.ref (ad E a0), .int x1] h (some (.int res.1)) res.2 := by
  refine MG.of (by decide) (Nat.le_of_ble_eq_true rfl) ?_
  intro X C hR
  have C : CX E X RX5 cX5_feed 2 1 := C
  show GG l E X h 0 [(0, .ref (ad E a0)), (1, .int x1)] []
  refine g_aload_n C 0 dX5_feed_0 rfl rfl ?_
  refine g_iconst C dX5_feed_1 cc_i_0 ?_
  refine pf5_13 C oa0 lf_X5_68 dX5_feed_2 ?_
  refine g_iload_n C 1 dX5_feed_5 rfl rfl ?_
  refine g_if_ge (tgt := 16) C dX5_feed_6 (by decide) hs (fun hs => ?_) (fun hs => ?_)
  · refine g_iload_n C 1 dX5_feed_16 rfl rfl ?_
    refine g_sipush C dX5_feed_17 cc_s_255 ?_
    refine g_icmp_gt (tgt := 32) C dX5_feed_20 (by decide) hs (fun hs => ?_) (fun hs => ?_)
    · refine g_sub [0] rfl ?_
      exact wb_X5_feed_32 C (wI h a0 13 (0 : Int32)) a0 oa0 hs hR
    · refine g_aload_n C 0 dX5_feed_23 rfl rfl ?_
      refine gf5_21 C oa0 lf_X5_155 dX5_feed_24 ?_
      refine g_bipush C dX5_feed_27 cc_b_64 ?_
      refine g_icmp_ne (tgt := 39) C dX5_feed_29 (by decide) hs (fun hs => ?_) (fun hs => ?_)
      · refine g_sub [0] rfl ?_
        exact wb_X5_feed_32 C (wI h a0 13 (0 : Int32)) a0 oa0 hs hR
      · refine g_aload_n C 0 dX5_feed_39 rfl rfl ?_
        refine gf5_20 C oa0 lf_X5_44 dX5_feed_40 ?_
        refine g_aload_n C 0 dX5_feed_43 rfl rfl ?_
        refine gf5_21 C oa0 lf_X5_155 dX5_feed_44 ?_
        refine g_iload_n C 1 dX5_feed_47 rfl rfl ?_
        refine g_iast C (tg5_20 oa0) dX5_feed_48 hs (fun h1 hs => ?_)
        refine g_aload_n C 0 dX5_feed_49 rfl rfl ?_
        refine g_dup C dX5_feed_50 rfl ?_
        refine gf5_21 C oa0 lf_X5_155 dX5_feed_51 ?_
        refine g_iconst C dX5_feed_54 cc_i_1 ?_
        refine g_iadd C dX5_feed_55 ?_
        refine pf5_21 C oa0 lf_X5_155 dX5_feed_56 ?_
        refine g_aload_n C 0 dX5_feed_59 rfl rfl ?_
        refine gf5_21 C oa0 lf_X5_155 dX5_feed_60 ?_
        have e9 := Option.some.inj hs
        subst e9
        exact g_iret C hR dX5_feed_63
  · refine g_aload_n C 0 dX5_feed_9 rfl rfl ?_
    refine g_bipush C dX5_feed_10 cc_b_m4 ?_
    obtain ⟨q2, hcq2, hs⟩ := bnd hs
    refine g_cV (As := [.int (-4 : Int32)]) (rest := []) C (w_X5_refuse l E _ _ _ _ oa0 hcq2) mw_X5_refuse lm_X5_152 oa0 rfl (ce5 E _ (oa0).2) rfl (by decide) rfl (Nat.le_of_ble_eq_true rfl) dX5_feed_12 rfl ?_
    have e9 := Option.some.inj hs
    subst e9
    exact g_iret C hR dX5_feed_15
set_option maxHeartbeats 4000000 in
set_option maxRecDepth 100000 in
theorem wb_X5_here_24 {l : Launch} {E : Ep} {X : Fx} {res : Int32} (C : CX E X RX5 cX5_here 1 0) (h : Hp) (s0 : Int32) (hs : b_X5_here_24  h s0 = some res) (hR : RT E X (some .int) (some (.int res)) h) : GG l E X h 24 [] [.int s0] := by
  have e9 := Option.some.inj hs
  subst e9
  exact g_iret C hR dX5_here_24
set_option maxHeartbeats 4000000 in
set_option maxRecDepth 100000 in
theorem w_X5_here (l : Launch) (E : Ep) (h : Hp) (a0 : Nat) (res : Int32) (oa0 : OKr a0 5) (hs : sh_X5_here h a0 = some res) : MG l E yX5_here cX5_here 1 (some .int) 0 [.ref (ad E a0)] h (some (.int res)) h := by
  refine MG.of (by decide) (Nat.le_of_ble_eq_true rfl) ?_
  intro X C hR
  have C : CX E X RX5 cX5_here 1 0 := C
  show GG l E X h 0 [(0, .ref (ad E a0))] []
  refine g_aload_n C 0 dX5_here_0 rfl rfl ?_
  refine gf5_22 C oa0 lf_X5_158 dX5_here_1 ?_
  refine g_aload_n C 0 dX5_here_4 rfl rfl ?_
  refine gf5_21 C oa0 lf_X5_155 dX5_here_5 ?_
  refine g_icmp_ge (tgt := 23) C dX5_here_8 (by decide) hs (fun hs => ?_) (fun hs => ?_)
  · refine g_iconst C dX5_here_23 cc_i_m1 ?_
    refine g_sub [] rfl ?_
    exact wb_X5_here_24 C h (-1 : Int32) hs hR
  · refine g_aload_n C 0 dX5_here_11 rfl rfl ?_
    refine gf5_20 C oa0 lf_X5_44 dX5_here_12 ?_
    refine g_aload_n C 0 dX5_here_15 rfl rfl ?_
    refine gf5_22 C oa0 lf_X5_158 dX5_here_16 ?_
    refine g_iald C (tg5_20 oa0) dX5_here_19 hs (fun v1 hs => ?_)
    refine g_goto (tgt := 24) C dX5_here_20 (by decide) ?_
    refine g_sub [] rfl ?_
    exact wb_X5_here_24 C h v1 hs hR
set_option maxHeartbeats 4000000 in
set_option maxRecDepth 100000 in
theorem wb_X5_in_18 {l : Launch} {E : Ep} {X : Fx} {res : Int32} (C : CX E X RX5 cX5_in 6 0) (h : Hp) (s0 : Int32) (hs : b_X5_in_18  h s0 = some res) (hR : RT E X (some .boolean) (some (.int res)) h) : GG l E X h 18 [] [.int s0] := by
  obtain ⟨v1, hbv1, hs⟩ := bnd hs
  obtain ⟨hzv1, hyv1⟩ := bol_v hbv1
  have e9 := Option.some.inj hs
  subst e9
  refine g_top hyv1 ?_
  exact g_zret C hzv1 hR dX5_in_18
set_option maxHeartbeats 4000000 in
set_option maxRecDepth 100000 in
theorem wb_X5_in_17 {l : Launch} {E : Ep} {X : Fx} {res : Int32} (C : CX E X RX5 cX5_in 6 0) (h : Hp) (hs : b_X5_in_17  h  = some res) (hR : RT E X (some .boolean) (some (.int res)) h) : GG l E X h 17 [] [] := by
  refine g_iconst C dX5_in_17 cc_i_0 ?_
  exact wb_X5_in_18 C h (0 : Int32) hs hR
set_option maxHeartbeats 4000000 in
set_option maxRecDepth 100000 in
theorem w_X5_in (l : Launch) (E : Ep) (h : Hp) (y0 : Int64) (y2 : Int64) (y4 : Int64) (res : Int32) (hs : sh_X5_in h y0 y2 y4 = some res) : MG l E yX5_in cX5_in 6 (some .boolean) 0 [.long y0, .long y2, .long y4] h (some (.int res)) h := by
  refine MG.of (by decide) (Nat.le_of_ble_eq_true rfl) ?_
  intro X C hR
  have C : CX E X RX5 cX5_in 6 0 := C
  show GG l E X h 0 [(0, .long y0), (2, .long y2), (4, .long y4)] []
  refine g_lload_n C 0 dX5_in_0 rfl rfl ?_
  refine g_lload_n C 1 dX5_in_1 rfl rfl ?_
  refine g_lcmp C dX5_in_2 ?_
  refine g_if_lt (tgt := 17) C dX5_in_3 (by decide) hs (fun hs => ?_) (fun hs => ?_)
  · refine g_sub [] rfl ?_
    exact wb_X5_in_17 C h hs hR
  · refine g_lload_n C 0 dX5_in_6 rfl rfl ?_
    refine g_lload C 2 dX5_in_7 rfl ?_
    refine g_lcmp C dX5_in_9 ?_
    refine g_if_gt (tgt := 17) C dX5_in_10 (by decide) hs (fun hs => ?_) (fun hs => ?_)
    · refine g_sub [] rfl ?_
      exact wb_X5_in_17 C h hs hR
    · refine g_iconst C dX5_in_13 cc_i_1 ?_
      refine g_goto (tgt := 18) C dX5_in_14 (by decide) ?_
      refine g_sub [] rfl ?_
      exact wb_X5_in_18 C h (1 : Int32) hs hR
set_option maxHeartbeats 4000000 in
set_option maxRecDepth 100000 in
theorem wb_X5_readDigit_30 {l : Launch} {E : Ep} {X : Fx} {res : Int32 × Hp} (C : CX E X RX5 cX5_readDigit 1 1) (h : Hp) (a0 : Nat) (b0 : Nat) (s1 : Int32) (oa0 : OKr a0 5) (ob0 : OKr b0 5) (hs : b_X5_readDigit_30  h a0 b0 s1 = some res) (hR : RT E X (some .int) (some (.int res.1)) res.2) : GG l E X h 30 [(0, .ref (ad E a0))] [.int s1, .ref (ad E b0)] := by
  obtain ⟨v1, hbv1, hs⟩ := bnd hs
  obtain ⟨hzv1, hyv1⟩ := bol_v hbv1
  refine g_top hyv1 ?_
  refine pf5_23 C hzv1 ob0 lf_X5_161 dX5_readDigit_30 ?_
  refine g_aload_n C 0 dX5_readDigit_33 rfl rfl ?_
  refine gf5_23 C oa0 lf_X5_161 dX5_readDigit_34 ?_
  refine g_if_eq (tgt := 42) C dX5_readDigit_37 (by decide) hs (fun hs => ?_) (fun hs => ?_)
  · refine g_aload_n C 0 dX5_readDigit_42 rfl rfl ?_
    refine g_dup C dX5_readDigit_43 rfl ?_
    refine gf5_22 C oa0 lf_X5_158 dX5_readDigit_44 ?_
    refine g_iconst C dX5_readDigit_47 cc_i_1 ?_
    refine g_iadd C dX5_readDigit_48 ?_
    refine pf5_22 C oa0 lf_X5_158 dX5_readDigit_49 ?_
    refine g_aload_n C 0 dX5_readDigit_52 rfl rfl ?_
    refine gf5_20 C oa0 lf_X5_44 dX5_readDigit_53 ?_
    refine g_aload_n C 0 dX5_readDigit_56 rfl rfl ?_
    refine gf5_22 C oa0 lf_X5_158 dX5_readDigit_57 ?_
    refine g_iconst C dX5_readDigit_60 cc_i_1 ?_
    refine g_isub C dX5_readDigit_61 ?_
    refine g_iald C (tg5_20 oa0) dX5_readDigit_62 hs (fun v2 hs => ?_)
    refine g_bipush C dX5_readDigit_63 cc_b_48 ?_
    refine g_isub C dX5_readDigit_65 ?_
    have e9 := Option.some.inj hs
    subst e9
    exact g_iret C hR dX5_readDigit_66
  · refine g_iconst C dX5_readDigit_40 cc_i_0 ?_
    have e9 := Option.some.inj hs
    subst e9
    exact g_iret C hR dX5_readDigit_41
set_option maxHeartbeats 4000000 in
set_option maxRecDepth 100000 in
theorem wb_X5_readDigit_25 {l : Launch} {E : Ep} {X : Fx} {res : Int32 × Hp} (C : CX E X RX5 cX5_readDigit 1 1) (h : Hp) (a0 : Nat) (b0 : Nat) (oa0 : OKr a0 5) (ob0 : OKr b0 5) (hs : b_X5_readDigit_25  h a0 b0 = some res) (hR : RT E X (some .int) (some (.int res.1)) res.2) : GG l E X h 25 [(0, .ref (ad E a0))] [.ref (ad E b0)] := by
  refine g_iconst C dX5_readDigit_25 cc_i_1 ?_
  refine g_goto (tgt := 30) C dX5_readDigit_26 (by decide) ?_
  exact wb_X5_readDigit_30 C h a0 b0 (1 : Int32) oa0 ob0 hs hR
set_option maxHeartbeats 4000000 in
set_option maxRecDepth 100000 in
theorem w_X5_readDigit (l : Launch) (E : Ep) (h : Hp) (a0 : Nat) (res : Int32 × Hp) (oa0 : OKr a0 5) (hs : sh_X5_readDigit h a0 = some res) : MG l E yX5_readDigit cX5_readDigit 1 (some .int) 1 [.ref (ad E a0)] h (some (.int res.1)) res.2 := by
  refine MG.of (by decide) (Nat.le_of_ble_eq_true rfl) ?_
  intro X C hR
  have C : CX E X RX5 cX5_readDigit 1 1 := C
  show GG l E X h 0 [(0, .ref (ad E a0))] []
  refine g_aload_n C 0 dX5_readDigit_0 rfl rfl ?_
  refine g_aload_n C 0 dX5_readDigit_1 rfl rfl ?_
  refine gf5_23 C oa0 lf_X5_161 dX5_readDigit_2 ?_
  refine g_if_ne (tgt := 25) C dX5_readDigit_5 (by decide) hs (fun hs => ?_) (fun hs => ?_)
  · refine g_aload_n C 0 dX5_readDigit_8 rfl rfl ?_
    obtain ⟨v1, hcv1, hs⟩ := bnd hs
    refine g_cV (As := []) (rest := [.ref (ad E a0)]) C (w_X5_here l E _ _ _ oa0 hcv1) mw_X5_here lm_X5_164 oa0 rfl (ce5 E _ (oa0).2) rfl (by decide) rfl (Nat.le_of_ble_eq_true rfl) dX5_readDigit_9 rfl ?_
    refine g_i2l C dX5_readDigit_12 ?_
    refine g_ldc2 C dX5_readDigit_13 kk_X5_168 ?_
    refine g_ldc2 C dX5_readDigit_16 kk_X5_170 ?_
    obtain ⟨v2, hcv2, hs⟩ := bnd hs
    refine g_cS (As := [.long (v1).toInt64, .long (48 : Int64), .long (57 : Int64)]) (rest := [.ref (ad E a0)]) C (w_X5_in l E _ _ _ _ _ hcv2) mw_X5_in lm_X5_74 rfl (by decide) rfl (Nat.le_of_ble_eq_true rfl) dX5_readDigit_19 rfl ?_
    refine g_if_ne (tgt := 29) C dX5_readDigit_22 (by decide) hs (fun hs => ?_) (fun hs => ?_)
    · exact wb_X5_readDigit_25 C h a0 a0 oa0 oa0 hs hR
    · refine g_iconst C dX5_readDigit_29 cc_i_0 ?_
      exact wb_X5_readDigit_30 C h a0 a0 (0 : Int32) oa0 oa0 hs hR
  · exact wb_X5_readDigit_25 C h a0 a0 oa0 oa0 hs hR
set_option maxHeartbeats 4000000 in
set_option maxRecDepth 100000 in
theorem wb_X5_readNumber_65 {l : Launch} {E : Ep} {X : Fx} {res : Int32 × Hp} (C : CX E X RX5 cX5_readNumber 4 2) (h : Hp) (x2 : Int32) (hs : b_X5_readNumber_65  h x2 = some res) (hR : RT E X (some .int) (some (.int res.1)) res.2) : GG l E X h 65 [(2, .int x2)] [] := by
  refine g_iload_n C 0 dX5_readNumber_65 rfl rfl ?_
  have e9 := Option.some.inj hs
  subst e9
  exact g_iret C hR dX5_readNumber_66
set_option maxHeartbeats 4000000 in
set_option maxRecDepth 100000 in
theorem wb_X5_readNumber_7 {l : Launch} {E : Ep} {X : Fx} {res : Int32 × Hp} (C : CX E X RX5 cX5_readNumber 4 2) : ∀ (n : Nat) (h : Hp) (a0 : Nat) (x1 : Int32) (x2 : Int32) (x3 : Int32) (oa0 : OKr a0 5), b_X5_readNumber_7  n h a0 x1 x2 x3 = some res → RT E X (some .int) (some (.int res.1)) res.2 → GG l E X h 7 [(0, .ref (ad E a0)), (1, .int x1), (2, .int x2), (3, .int x3)] [] := by
  intro n
  induction n with
  | zero =>
    intro h a0 x1 x2 x3 oa0
    intro hs
    exact absurd hs (by intro e; cases e)
  | succ n ih =>
    intro h a0 x1 x2 x3 oa0 hs hR
    have hk7 := ih
    have hs : f_X5_readNumber_7  (b_X5_readNumber_7  n) h a0 x1 x2 x3 = some res := hs
    generalize b_X5_readNumber_7  n = k7 at hs hk7
    refine g_iload_n C 3 dX5_readNumber_7 rfl rfl ?_
    refine g_iload_n C 1 dX5_readNumber_8 rfl rfl ?_
    refine g_icmp_ge (tgt := 65) C dX5_readNumber_9 (by decide) hs (fun hs => ?_) (fun hs => ?_)
    · refine g_sub [2] rfl ?_
      exact wb_X5_readNumber_65 C h x2 hs hR
    · refine g_aload_n C 0 dX5_readNumber_12 rfl rfl ?_
      refine gf5_23 C oa0 lf_X5_161 dX5_readNumber_13 ?_
      refine g_if_ne (tgt := 65) C dX5_readNumber_16 (by decide) hs (fun hs => ?_) (fun hs => ?_)
      · refine g_aload_n C 0 dX5_readNumber_19 rfl rfl ?_
        obtain ⟨v1, hcv1, hs⟩ := bnd hs
        refine g_cV (As := []) (rest := []) C (w_X5_here l E _ _ _ oa0 hcv1) mw_X5_here lm_X5_164 oa0 rfl (ce5 E _ (oa0).2) rfl (by decide) rfl (Nat.le_of_ble_eq_true rfl) dX5_readNumber_20 rfl ?_
        refine g_i2l C dX5_readNumber_23 ?_
        refine g_ldc2 C dX5_readNumber_24 kk_X5_168 ?_
        refine g_ldc2 C dX5_readNumber_27 kk_X5_170 ?_
        obtain ⟨v2, hcv2, hs⟩ := bnd hs
        refine g_cS (As := [.long (v1).toInt64, .long (48 : Int64), .long (57 : Int64)]) (rest := []) C (w_X5_in l E _ _ _ _ _ hcv2) mw_X5_in lm_X5_74 rfl (by decide) rfl (Nat.le_of_ble_eq_true rfl) dX5_readNumber_30 rfl ?_
        refine g_if_eq (tgt := 65) C dX5_readNumber_33 (by decide) hs (fun hs => ?_) (fun hs => ?_)
        · refine g_sub [2] rfl ?_
          exact wb_X5_readNumber_65 C h x2 hs hR
        · refine g_bipush C dX5_readNumber_36 cc_b_10 ?_
          refine g_iload_n C 2 dX5_readNumber_38 rfl rfl ?_
          refine g_imul C dX5_readNumber_39 ?_
          refine g_aload_n C 0 dX5_readNumber_40 rfl rfl ?_
          obtain ⟨v3, hcv3, hs⟩ := bnd hs
          refine g_cV (As := []) (rest := [.int ((10 : Int32) * x2)]) C (w_X5_here l E _ _ _ oa0 hcv3) mw_X5_here lm_X5_164 oa0 rfl (ce5 E _ (oa0).2) rfl (by decide) rfl (Nat.le_of_ble_eq_true rfl) dX5_readNumber_41 rfl ?_
          refine g_iadd C dX5_readNumber_44 ?_
          refine g_bipush C dX5_readNumber_45 cc_b_48 ?_
          refine g_isub C dX5_readNumber_47 ?_
          refine g_istore_n (lv' := [(2, .int ((((10 : Int32) * x2) + v3) - (48 : Int32))), (0, .ref (ad E a0)), (1, .int x1), (3, .int x3)]) C dX5_readNumber_48 rfl (by decide) rfl ?_
          refine g_aload_n C 1 dX5_readNumber_49 rfl rfl ?_
          refine g_dup C dX5_readNumber_50 rfl ?_
          refine gf5_22 C oa0 lf_X5_158 dX5_readNumber_51 ?_
          refine g_iconst C dX5_readNumber_54 cc_i_1 ?_
          refine g_iadd C dX5_readNumber_55 ?_
          refine pf5_22 C oa0 lf_X5_158 dX5_readNumber_56 ?_
          refine g_iinc (lv' := [(3, .int (x3 + (1 : Int32))), (2, .int ((((10 : Int32) * x2) + v3) - (48 : Int32))), (0, .ref (ad E a0)), (1, .int x1)]) (j := 3) C dX5_readNumber_59 rfl (cc_n_1 _) (by decide) rfl ?_
          refine g_goto (tgt := 7) C dX5_readNumber_62 (by decide) ?_
          refine g_sub [2, 3, 1, 0] rfl ?_
          exact hk7 (wI h a0 22 ((h.1 a0 22) + (1 : Int32))) a0 x1 ((((10 : Int32) * x2) + v3) - (48 : Int32)) (x3 + (1 : Int32)) oa0 hs hR
      · refine g_sub [2] rfl ?_
        exact wb_X5_readNumber_65 C h x2 hs hR
set_option maxHeartbeats 4000000 in
set_option maxRecDepth 100000 in
theorem w_X5_readNumber (l : Launch) (E : Ep) (h : Hp) (a0 : Nat) (x1 : Int32) (res : Int32 × Hp) (oa0 : OKr a0 5) (hs : sh_X5_readNumber h a0 x1 = some res) : MG l E yX5_readNumber cX5_readNumber 4 (some .int) 2 [.ref (ad E a0), .int x1] h (some (.int res.1)) res.2 := by
  refine MG.of (by decide) (Nat.le_of_ble_eq_true rfl) ?_
  intro X C hR
  have C : CX E X RX5 cX5_readNumber 4 2 := C
  show GG l E X h 0 [(0, .ref (ad E a0)), (1, .int x1)] []
  refine g_aload_n C 0 dX5_readNumber_0 rfl rfl ?_
  obtain ⟨q1, hcq1, hs⟩ := bnd hs
  refine g_cV (As := []) (rest := []) C (w_X5_readDigit l E _ _ _ oa0 hcq1) mw_X5_readDigit lm_X5_172 oa0 rfl (ce5 E _ (oa0).2) rfl (by decide) rfl (Nat.le_of_ble_eq_true rfl) dX5_readNumber_1 rfl ?_
  refine g_istore_n (lv' := [(2, .int q1.1), (0, .ref (ad E a0)), (1, .int x1)]) C dX5_readNumber_4 rfl (by decide) rfl ?_
  refine g_iconst C dX5_readNumber_5 cc_i_1 ?_
  refine g_istore_n (lv' := [(3, .int (1 : Int32)), (2, .int q1.1), (0, .ref (ad E a0)), (1, .int x1)]) C dX5_readNumber_6 rfl (by decide) rfl ?_
  refine g_sub [2, 3, 1, 0] rfl ?_
  exact wb_X5_readNumber_7 C 1000 q1.2 a0 x1 q1.1 (1 : Int32) oa0 hs hR
set_option maxHeartbeats 4000000 in
set_option maxRecDepth 100000 in
theorem wb_X5_take_41 {l : Launch} {E : Ep} {X : Fx} {res : Hp} (C : CX E X RX5 cX5_take 2 1) (h : Hp) (b0 : Nat) (s1 : Int32) (s2 : Int32) (ob0 : OKr b0 5) (hs : b_X5_take_41  h b0 s1 s2 = some res) (hR : RT E X none none res) : GG l E X h 41 [] [.int s2, .int s1, .ref (ad E b0)] := by
  refine g_iadd C dX5_take_41 ?_
  refine pf5_22 C ob0 lf_X5_158 dX5_take_42 ?_
  have e9 := Option.some.inj hs
  subst e9
  exact g_vret C hR dX5_take_45
set_option maxHeartbeats 4000000 in
set_option maxRecDepth 100000 in
theorem wb_X5_take_21 {l : Launch} {E : Ep} {X : Fx} {res : Hp} (C : CX E X RX5 cX5_take 2 1) (h : Hp) (a0 : Nat) (b0 : Nat) (s1 : Int32) (oa0 : OKr a0 5) (ob0 : OKr b0 5) (hs : b_X5_take_21  h a0 b0 s1 = some res) (hR : RT E X none none res) : GG l E X h 21 [(0, .ref (ad E a0))] [.int s1, .ref (ad E b0)] := by
  obtain ⟨v1, hbv1, hs⟩ := bnd hs
  obtain ⟨hzv1, hyv1⟩ := bol_v hbv1
  refine g_top hyv1 ?_
  refine pf5_23 C hzv1 ob0 lf_X5_161 dX5_take_21 ?_
  refine g_aload_n C 0 dX5_take_24 rfl rfl ?_
  refine g_dup C dX5_take_25 rfl ?_
  refine gf5_22 C oa0 lf_X5_158 dX5_take_26 ?_
  refine g_aload_n C 0 dX5_take_29 rfl rfl ?_
  refine gf5_23 C oa0 lf_X5_161 dX5_take_30 ?_
  refine g_if_eq (tgt := 40) C dX5_take_33 (by decide) hs (fun hs => ?_) (fun hs => ?_)
  · refine g_iconst C dX5_take_40 cc_i_1 ?_
    refine g_sub [] rfl ?_
    exact wb_X5_take_41 C (wI h b0 23 v1) a0 ((wI h b0 23 v1).1 a0 22) (1 : Int32) oa0 hs hR
  · refine g_iconst C dX5_take_36 cc_i_0 ?_
    refine g_goto (tgt := 41) C dX5_take_37 (by decide) ?_
    refine g_sub [] rfl ?_
    exact wb_X5_take_41 C (wI h b0 23 v1) a0 ((wI h b0 23 v1).1 a0 22) (0 : Int32) oa0 hs hR
set_option maxHeartbeats 4000000 in
set_option maxRecDepth 100000 in
theorem wb_X5_take_16 {l : Launch} {E : Ep} {X : Fx} {res : Hp} (C : CX E X RX5 cX5_take 2 1) (h : Hp) (a0 : Nat) (b0 : Nat) (oa0 : OKr a0 5) (ob0 : OKr b0 5) (hs : b_X5_take_16  h a0 b0 = some res) (hR : RT E X none none res) : GG l E X h 16 [(0, .ref (ad E a0))] [.ref (ad E b0)] := by
  refine g_iconst C dX5_take_16 cc_i_1 ?_
  refine g_goto (tgt := 21) C dX5_take_17 (by decide) ?_
  exact wb_X5_take_21 C h a0 b0 (1 : Int32) oa0 ob0 hs hR
set_option maxHeartbeats 4000000 in
set_option maxRecDepth 100000 in
theorem w_X5_take (l : Launch) (E : Ep) (h : Hp) (a0 : Nat) (x1 : Int32) (res : Hp) (oa0 : OKr a0 5) (hs : sh_X5_take h a0 x1 = some res) : MG l E yX5_take cX5_take 2 none 1 [.ref (ad E a0), .int x1] h none res := by
  refine MG.of (by decide) (Nat.le_of_ble_eq_true rfl) ?_
  intro X C hR
  have C : CX E X RX5 cX5_take 2 1 := C
  show GG l E X h 0 [(0, .ref (ad E a0)), (1, .int x1)] []
  refine g_aload_n C 0 dX5_take_0 rfl rfl ?_
  refine g_aload_n C 0 dX5_take_1 rfl rfl ?_
  refine gf5_23 C oa0 lf_X5_161 dX5_take_2 ?_
  refine g_if_ne (tgt := 16) C dX5_take_5 (by decide) hs (fun hs => ?_) (fun hs => ?_)
  · refine g_aload_n C 0 dX5_take_8 rfl rfl ?_
    obtain ⟨v1, hcv1, hs⟩ := bnd hs
    refine g_cV (As := []) (rest := [.ref (ad E a0)]) C (w_X5_here l E _ _ _ oa0 hcv1) mw_X5_here lm_X5_164 oa0 rfl (ce5 E _ (oa0).2) rfl (by decide) rfl (Nat.le_of_ble_eq_true rfl) dX5_take_9 rfl ?_
    refine g_iload_n C 1 dX5_take_12 rfl rfl ?_
    refine g_icmp_eq (tgt := 20) C dX5_take_13 (by decide) hs (fun hs => ?_) (fun hs => ?_)
    · refine g_iconst C dX5_take_20 cc_i_0 ?_
      refine g_sub [0] rfl ?_
      exact wb_X5_take_21 C h a0 a0 (0 : Int32) oa0 oa0 hs hR
    · refine g_sub [0] rfl ?_
      exact wb_X5_take_16 C h a0 a0 oa0 oa0 hs hR
  · refine g_sub [0] rfl ?_
    exact wb_X5_take_16 C h a0 a0 oa0 oa0 hs hR
set_option maxHeartbeats 4000000 in
set_option maxRecDepth 100000 in
theorem wb_X5_readStatement_172 {l : Launch} {E : Ep} {X : Fx} {res : Hp} (C : CX E X RX5 cX5_readStatement 4 3) (h : Hp) (a0 : Nat) (oa0 : OKr a0 5) (hs : b_X5_readStatement_172  h a0 = some res) (hR : RT E X none none res) : GG l E X h 172 [(0, .ref (ad E a0))] [] := by
  refine g_aload_n C 0 dX5_readStatement_172 rfl rfl ?_
  refine g_bipush C dX5_readStatement_173 cc_b_59 ?_
  obtain ⟨h1, hch1, hs⟩ := bnd hs
  refine g_cV (As := [.int (59 : Int32)]) (rest := []) C (w_X5_take l E _ _ _ _ oa0 hch1) mw_X5_take lm_X5_181 oa0 rfl (ce5 E _ (oa0).2) rfl (by decide) rfl (Nat.le_of_ble_eq_true rfl) dX5_readStatement_175 rfl ?_
  refine g_aload_n C 0 dX5_readStatement_178 rfl rfl ?_
  refine g_dup C dX5_readStatement_179 rfl ?_
  refine gf5_24 C oa0 lf_X5_175 dX5_readStatement_180 ?_
  refine g_iconst C dX5_readStatement_183 cc_i_1 ?_
  refine g_iadd C dX5_readStatement_184 ?_
  refine pf5_24 C oa0 lf_X5_175 dX5_readStatement_185 ?_
  have e9 := Option.some.inj hs
  subst e9
  exact g_vret C hR dX5_readStatement_188
set_option maxHeartbeats 4000000 in
set_option maxRecDepth 100000 in
theorem wb_X5_readStatement_171 {l : Launch} {E : Ep} {X : Fx} {res : Hp} (C : CX E X RX5 cX5_readStatement 4 3) (h : Hp) (a0 : Nat) (b0 : Nat) (s1 : Int32) (s2 : Int32) (oa0 : OKr a0 5) (ob0 : OKr b0 6) (hs : b_X5_readStatement_171  h a0 b0 s1 s2 = some res) (hR : RT E X none none res) : GG l E X h 171 [(0, .ref (ad E a0))] [.int s2, .int s1, .ref (ad E b0)] := by
  refine g_iast C ob0 dX5_readStatement_171 hs (fun h1 hs => ?_)
  exact wb_X5_readStatement_172 C h1 a0 oa0 hs hR
set_option maxHeartbeats 4000000 in
set_option maxRecDepth 100000 in
theorem wb_X5_readStatement_116 {l : Launch} {E : Ep} {X : Fx} {res : Hp} (C : CX E X RX5 cX5_readStatement 4 3) (h : Hp) (a0 : Nat) (x1 : Int32) (x2 : Int32) (oa0 : OKr a0 5) (hs : b_X5_readStatement_116  h a0 x1 x2 = some res) (hR : RT E X none none res) : GG l E X h 116 [(0, .ref (ad E a0)), (1, .int x1), (2, .int x2)] [] := by
  refine g_aload_n C 0 dX5_readStatement_116 rfl rfl ?_
  refine gf5_23 C oa0 lf_X5_161 dX5_readStatement_117 ?_
  refine g_if_ne (tgt := 172) C dX5_readStatement_120 (by decide) hs (fun hs => ?_) (fun hs => ?_)
  · refine g_iload_n C 2 dX5_readStatement_123 rfl rfl ?_
    refine g_bipush C dX5_readStatement_124 cc_b_112 ?_
    refine g_icmp_ne (tgt := 172) C dX5_readStatement_126 (by decide) hs (fun hs => ?_) (fun hs => ?_)
    · refine g_aload_n C 0 dX5_readStatement_129 rfl rfl ?_
      refine gf5_27 C oa0 lf_X5_53 dX5_readStatement_130 ?_
      refine g_iload_n C 1 dX5_readStatement_133 rfl rfl ?_
      refine g_iconst C dX5_readStatement_134 cc_i_3 ?_
      refine g_iadd C dX5_readStatement_135 ?_
      refine g_aload_n C 0 dX5_readStatement_136 rfl rfl ?_
      refine g_iconst C dX5_readStatement_137 cc_i_4 ?_
      obtain ⟨q1, hcq1, hs⟩ := bnd hs
      refine g_cV (As := [.int (4 : Int32)]) (rest := [.int (x1 + (3 : Int32)), .ref (ad E (rf a0 27))]) C (w_X5_readNumber l E _ _ _ _ oa0 hcq1) mw_X5_readNumber lm_X5_178 oa0 rfl (ce5 E _ (oa0).2) rfl (by decide) rfl (Nat.le_of_ble_eq_true rfl) dX5_readStatement_138 rfl ?_
      refine g_iast C (tg5_27 oa0) dX5_readStatement_141 hs (fun h2 hs => ?_)
      refine g_aload_n C 0 dX5_readStatement_142 rfl rfl ?_
      refine g_bipush C dX5_readStatement_143 cc_b_44 ?_
      obtain ⟨h3, hch3, hs⟩ := bnd hs
      refine g_cV (As := [.int (44 : Int32)]) (rest := []) C (w_X5_take l E _ _ _ _ oa0 hch3) mw_X5_take lm_X5_181 oa0 rfl (ce5 E _ (oa0).2) rfl (by decide) rfl (Nat.le_of_ble_eq_true rfl) dX5_readStatement_145 rfl ?_
      refine g_aload_n C 0 dX5_readStatement_148 rfl rfl ?_
      refine gf5_27 C oa0 lf_X5_53 dX5_readStatement_149 ?_
      refine g_iload_n C 1 dX5_readStatement_152 rfl rfl ?_
      refine g_iconst C dX5_readStatement_153 cc_i_4 ?_
      refine g_iadd C dX5_readStatement_154 ?_
      refine g_aload_n C 0 dX5_readStatement_155 rfl rfl ?_
      refine gf5_23 C oa0 lf_X5_161 dX5_readStatement_156 ?_
      refine g_if_eq (tgt := 166) C dX5_readStatement_159 (by decide) hs (fun hs => ?_) (fun hs => ?_)
      · refine g_aload_n C 0 dX5_readStatement_166 rfl rfl ?_
        refine g_iconst C dX5_readStatement_167 cc_i_2 ?_
        obtain ⟨q4, hcq4, hs⟩ := bnd hs
        refine g_cV (As := [.int (2 : Int32)]) (rest := [.int (x1 + (4 : Int32)), .ref (ad E (rf a0 27))]) C (w_X5_readNumber l E _ _ _ _ oa0 hcq4) mw_X5_readNumber lm_X5_178 oa0 rfl (ce5 E _ (oa0).2) rfl (by decide) rfl (Nat.le_of_ble_eq_true rfl) dX5_readStatement_168 rfl ?_
        refine g_sub [0] rfl ?_
        exact wb_X5_readStatement_171 C q4.2 a0 (rf a0 27) (x1 + (4 : Int32)) q4.1 oa0 (tg5_27 oa0) hs hR
      · refine g_iconst C dX5_readStatement_162 cc_i_0 ?_
        refine g_goto (tgt := 171) C dX5_readStatement_163 (by decide) ?_
        refine g_sub [0] rfl ?_
        exact wb_X5_readStatement_171 C h3 a0 (rf a0 27) (x1 + (4 : Int32)) (0 : Int32) oa0 (tg5_27 oa0) hs hR
    · refine g_sub [0] rfl ?_
      exact wb_X5_readStatement_172 C h a0 oa0 hs hR
  · refine g_sub [0] rfl ?_
    exact wb_X5_readStatement_172 C h a0 oa0 hs hR
set_option maxHeartbeats 4000000 in
set_option maxRecDepth 100000 in
theorem wb_X5_readStatement_86 {l : Launch} {E : Ep} {X : Fx} {res : Hp} (C : CX E X RX5 cX5_readStatement 4 3) : ∀ (n : Nat) (h : Hp) (a0 : Nat) (x1 : Int32) (x2 : Int32) (x3 : Int32) (oa0 : OKr a0 5), b_X5_readStatement_86  n h a0 x1 x2 x3 = some res → RT E X none none res → GG l E X h 86 [(0, .ref (ad E a0)), (1, .int x1), (2, .int x2), (3, .int x3)] [] := by
  intro n
  induction n with
  | zero =>
    intro h a0 x1 x2 x3 oa0
    intro hs
    exact absurd hs (by intro e; cases e)
  | succ n ih =>
    intro h a0 x1 x2 x3 oa0 hs hR
    have hk86 := ih
    have hs : f_X5_readStatement_86  (b_X5_readStatement_86  n) h a0 x1 x2 x3 = some res := hs
    generalize b_X5_readStatement_86  n = k86 at hs hk86
    refine g_iload_n C 3 dX5_readStatement_86 rfl rfl ?_
    refine g_iconst C dX5_readStatement_87 cc_i_3 ?_
    refine g_icmp_ge (tgt := 116) C dX5_readStatement_88 (by decide) hs (fun hs => ?_) (fun hs => ?_)
    · refine g_sub [0, 1, 2] rfl ?_
      exact wb_X5_readStatement_116 C h a0 x1 x2 oa0 hs hR
    · refine g_aload_n C 0 dX5_readStatement_91 rfl rfl ?_
      refine gf5_23 C oa0 lf_X5_161 dX5_readStatement_92 ?_
      refine g_if_ne (tgt := 116) C dX5_readStatement_95 (by decide) hs (fun hs => ?_) (fun hs => ?_)
      · refine g_aload_n C 0 dX5_readStatement_98 rfl rfl ?_
        refine gf5_27 C oa0 lf_X5_53 dX5_readStatement_99 ?_
        refine g_iload_n C 1 dX5_readStatement_102 rfl rfl ?_
        refine g_iload_n C 3 dX5_readStatement_103 rfl rfl ?_
        refine g_iadd C dX5_readStatement_104 ?_
        refine g_aload_n C 0 dX5_readStatement_105 rfl rfl ?_
        obtain ⟨q1, hcq1, hs⟩ := bnd hs
        refine g_cV (As := []) (rest := [.int (x1 + x3), .ref (ad E (rf a0 27))]) C (w_X5_readDigit l E _ _ _ oa0 hcq1) mw_X5_readDigit lm_X5_172 oa0 rfl (ce5 E _ (oa0).2) rfl (by decide) rfl (Nat.le_of_ble_eq_true rfl) dX5_readStatement_106 rfl ?_
        refine g_iast C (tg5_27 oa0) dX5_readStatement_109 hs (fun h2 hs => ?_)
        refine g_iinc (lv' := [(3, .int (x3 + (1 : Int32))), (0, .ref (ad E a0)), (1, .int x1), (2, .int x2)]) (j := 3) C dX5_readStatement_110 rfl (cc_n_1 _) (by decide) rfl ?_
        refine g_goto (tgt := 86) C dX5_readStatement_113 (by decide) ?_
        refine g_sub [1, 2, 3, 0] rfl ?_
        exact hk86 h2 a0 x1 x2 (x3 + (1 : Int32)) oa0 hs hR
      · refine g_sub [0, 1, 2] rfl ?_
        exact wb_X5_readStatement_116 C h a0 x1 x2 oa0 hs hR
set_option maxHeartbeats 4000000 in
set_option maxRecDepth 100000 in
theorem wb_X5_readStatement_80 {l : Launch} {E : Ep} {X : Fx} {res : Hp} (C : CX E X RX5 cX5_readStatement 4 3) (h : Hp) (a0 : Nat) (x1 : Int32) (x2 : Int32) (b0 : Nat) (s1 : Int32) (s2 : Int32) (oa0 : OKr a0 5) (ob0 : OKr b0 5) (hs : b_X5_readStatement_80  h a0 x1 x2 b0 s1 s2 = some res) (hR : RT E X none none res) : GG l E X h 80 [(0, .ref (ad E a0)), (1, .int x1), (2, .int x2)] [.int s2, .int s1, .ref (ad E b0)] := by
  refine g_iadd C dX5_readStatement_80 ?_
  refine pf5_22 C ob0 lf_X5_158 dX5_readStatement_81 ?_
  refine g_iconst C dX5_readStatement_84 cc_i_0 ?_
  refine g_istore_n (lv' := [(3, .int (0 : Int32)), (0, .ref (ad E a0)), (1, .int x1), (2, .int x2)]) C dX5_readStatement_85 rfl (by decide) rfl ?_
  refine g_sub [1, 2, 3, 0] rfl ?_
  exact wb_X5_readStatement_86 C 1000 (wI h b0 22 (s1 + s2)) a0 x1 x2 (0 : Int32) oa0 hs hR
set_option maxHeartbeats 4000000 in
set_option maxRecDepth 100000 in
theorem wb_X5_readStatement_60 {l : Launch} {E : Ep} {X : Fx} {res : Hp} (C : CX E X RX5 cX5_readStatement 4 3) (h : Hp) (a0 : Nat) (x1 : Int32) (x2 : Int32) (b0 : Nat) (s1 : Int32) (oa0 : OKr a0 5) (ob0 : OKr b0 5) (hs : b_X5_readStatement_60  h a0 x1 x2 b0 s1 = some res) (hR : RT E X none none res) : GG l E X h 60 [(0, .ref (ad E a0)), (1, .int x1), (2, .int x2)] [.int s1, .ref (ad E b0)] := by
  obtain ⟨v1, hbv1, hs⟩ := bnd hs
  obtain ⟨hzv1, hyv1⟩ := bol_v hbv1
  refine g_top hyv1 ?_
  refine pf5_23 C hzv1 ob0 lf_X5_161 dX5_readStatement_60 ?_
  refine g_aload_n C 0 dX5_readStatement_63 rfl rfl ?_
  refine g_dup C dX5_readStatement_64 rfl ?_
  refine gf5_22 C oa0 lf_X5_158 dX5_readStatement_65 ?_
  refine g_aload_n C 0 dX5_readStatement_68 rfl rfl ?_
  refine gf5_23 C oa0 lf_X5_161 dX5_readStatement_69 ?_
  refine g_if_eq (tgt := 79) C dX5_readStatement_72 (by decide) hs (fun hs => ?_) (fun hs => ?_)
  · refine g_iconst C dX5_readStatement_79 cc_i_1 ?_
    exact wb_X5_readStatement_80 C (wI h b0 23 v1) a0 x1 x2 a0 ((wI h b0 23 v1).1 a0 22) (1 : Int32) oa0 oa0 hs hR
  · refine g_iconst C dX5_readStatement_75 cc_i_0 ?_
    refine g_goto (tgt := 80) C dX5_readStatement_76 (by decide) ?_
    exact wb_X5_readStatement_80 C (wI h b0 23 v1) a0 x1 x2 a0 ((wI h b0 23 v1).1 a0 22) (0 : Int32) oa0 oa0 hs hR
set_option maxHeartbeats 4000000 in
set_option maxRecDepth 100000 in
theorem wb_X5_readStatement_55 {l : Launch} {E : Ep} {X : Fx} {res : Hp} (C : CX E X RX5 cX5_readStatement 4 3) (h : Hp) (a0 : Nat) (x1 : Int32) (x2 : Int32) (b0 : Nat) (oa0 : OKr a0 5) (ob0 : OKr b0 5) (hs : b_X5_readStatement_55  h a0 x1 x2 b0 = some res) (hR : RT E X none none res) : GG l E X h 55 [(0, .ref (ad E a0)), (1, .int x1), (2, .int x2)] [.ref (ad E b0)] := by
  refine g_iconst C dX5_readStatement_55 cc_i_1 ?_
  refine g_goto (tgt := 60) C dX5_readStatement_56 (by decide) ?_
  exact wb_X5_readStatement_60 C h a0 x1 x2 b0 (1 : Int32) oa0 ob0 hs hR
set_option maxHeartbeats 4000000 in
set_option maxRecDepth 100000 in
theorem wb_X5_readStatement_59 {l : Launch} {E : Ep} {X : Fx} {res : Hp} (C : CX E X RX5 cX5_readStatement 4 3) (h : Hp) (a0 : Nat) (x1 : Int32) (x2 : Int32) (b0 : Nat) (oa0 : OKr a0 5) (ob0 : OKr b0 5) (hs : b_X5_readStatement_59  h a0 x1 x2 b0 = some res) (hR : RT E X none none res) : GG l E X h 59 [(0, .ref (ad E a0)), (1, .int x1), (2, .int x2)] [.ref (ad E b0)] := by
  refine g_iconst C dX5_readStatement_59 cc_i_0 ?_
  exact wb_X5_readStatement_60 C h a0 x1 x2 b0 (0 : Int32) oa0 ob0 hs hR
set_option maxHeartbeats 4000000 in
set_option maxRecDepth 100000 in
theorem w_X5_readStatement (l : Launch) (E : Ep) (h : Hp) (a0 : Nat) (res : Hp) (oa0 : OKr a0 5) (hs : sh_X5_readStatement h a0 = some res) : MG l E yX5_readStatement cX5_readStatement 4 none 3 [.ref (ad E a0)] h none res := by
  refine MG.of (by decide) (Nat.le_of_ble_eq_true rfl) ?_
  intro X C hR
  have C : CX E X RX5 cX5_readStatement 4 3 := C
  show GG l E X h 0 [(0, .ref (ad E a0))] []
  refine g_iconst C dX5_readStatement_0 cc_i_5 ?_
  refine g_aload_n C 0 dX5_readStatement_1 rfl rfl ?_
  refine gf5_24 C oa0 lf_X5_175 dX5_readStatement_2 ?_
  refine g_imul C dX5_readStatement_5 ?_
  refine g_istore_n (lv' := [(1, .int ((5 : Int32) * (h.1 a0 24))), (0, .ref (ad E a0))]) C dX5_readStatement_6 rfl (by decide) rfl ?_
  refine g_aload_n C 1 dX5_readStatement_7 rfl rfl ?_
  obtain ⟨v1, hcv1, hs⟩ := bnd hs
  refine g_cV (As := []) (rest := []) C (w_X5_here l E _ _ _ oa0 hcv1) mw_X5_here lm_X5_164 oa0 rfl (ce5 E _ (oa0).2) rfl (by decide) rfl (Nat.le_of_ble_eq_true rfl) dX5_readStatement_8 rfl ?_
  refine g_istore_n (lv' := [(2, .int v1), (1, .int ((5 : Int32) * (h.1 a0 24))), (0, .ref (ad E a0))]) C dX5_readStatement_11 rfl (by decide) rfl ?_
  refine g_aload_n C 2 dX5_readStatement_12 rfl rfl ?_
  refine gf5_25 C oa0 lf_X5_47 dX5_readStatement_13 ?_
  refine g_aload_n C 2 dX5_readStatement_16 rfl rfl ?_
  refine gf5_24 C oa0 lf_X5_175 dX5_readStatement_17 ?_
  refine g_aload_n C 2 dX5_readStatement_20 rfl rfl ?_
  refine gf5_22 C oa0 lf_X5_158 dX5_readStatement_21 ?_
  refine g_iast C (tg5_25 oa0) dX5_readStatement_24 hs (fun h2 hs => ?_)
  refine g_aload_n C 2 dX5_readStatement_25 rfl rfl ?_
  refine gf5_26 C oa0 lf_X5_50 dX5_readStatement_26 ?_
  refine g_aload_n C 2 dX5_readStatement_29 rfl rfl ?_
  refine gf5_24 C oa0 lf_X5_175 dX5_readStatement_30 ?_
  refine g_iload_n C 0 dX5_readStatement_33 rfl rfl ?_
  refine g_iast C (tg5_26 oa0) dX5_readStatement_34 hs (fun h3 hs => ?_)
  refine g_aload_n C 2 dX5_readStatement_35 rfl rfl ?_
  refine g_aload_n C 2 dX5_readStatement_36 rfl rfl ?_
  refine gf5_23 C oa0 lf_X5_161 dX5_readStatement_37 ?_
  refine g_if_ne (tgt := 55) C dX5_readStatement_40 (by decide) hs (fun hs => ?_) (fun hs => ?_)
  · refine g_iload_n C 0 dX5_readStatement_43 rfl rfl ?_
    refine g_bipush C dX5_readStatement_44 cc_b_112 ?_
    refine g_icmp_eq (tgt := 59) C dX5_readStatement_46 (by decide) hs (fun hs => ?_) (fun hs => ?_)
    · refine g_sub [2, 1, 0] rfl ?_
      exact wb_X5_readStatement_59 C h3 a0 ((5 : Int32) * (h.1 a0 24)) v1 a0 oa0 oa0 hs hR
    · refine g_iload_n C 0 dX5_readStatement_49 rfl rfl ?_
      refine g_bipush C dX5_readStatement_50 cc_b_108 ?_
      refine g_icmp_eq (tgt := 59) C dX5_readStatement_52 (by decide) hs (fun hs => ?_) (fun hs => ?_)
      · refine g_sub [2, 1, 0] rfl ?_
        exact wb_X5_readStatement_59 C h3 a0 ((5 : Int32) * (h.1 a0 24)) v1 a0 oa0 oa0 hs hR
      · refine g_sub [2, 1, 0] rfl ?_
        exact wb_X5_readStatement_55 C h3 a0 ((5 : Int32) * (h.1 a0 24)) v1 a0 oa0 oa0 hs hR
  · refine g_sub [2, 1, 0] rfl ?_
    exact wb_X5_readStatement_55 C h3 a0 ((5 : Int32) * (h.1 a0 24)) v1 a0 oa0 oa0 hs hR
set_option maxHeartbeats 4000000 in
set_option maxRecDepth 100000 in
theorem wb_X5_isGood_73 {l : Launch} {E : Ep} {X : Fx} {res : Int32 × Hp} (C : CX E X RX5 cX5_isGood 7 1) (h : Hp) (s0 : Int32) (hs : b_X5_isGood_73  h s0 = some res) (hR : RT E X (some .boolean) (some (.int res.1)) res.2) : GG l E X h 73 [] [.int s0] := by
  obtain ⟨v1, hbv1, hs⟩ := bnd hs
  obtain ⟨hzv1, hyv1⟩ := bol_v hbv1
  have e9 := Option.some.inj hs
  subst e9
  refine g_top hyv1 ?_
  exact g_zret C hzv1 hR dX5_isGood_73
set_option maxHeartbeats 4000000 in
set_option maxRecDepth 100000 in
theorem wb_X5_isGood_72 {l : Launch} {E : Ep} {X : Fx} {res : Int32 × Hp} (C : CX E X RX5 cX5_isGood 7 1) (h : Hp) (hs : b_X5_isGood_72  h  = some res) (hR : RT E X (some .boolean) (some (.int res.1)) res.2) : GG l E X h 72 [] [] := by
  refine g_iconst C dX5_isGood_72 cc_i_0 ?_
  exact wb_X5_isGood_73 C h (0 : Int32) hs hR
set_option maxHeartbeats 4000000 in
set_option maxRecDepth 100000 in
theorem wb_X5_isGood_117 {l : Launch} {E : Ep} {X : Fx} {res : Int32 × Hp} (C : CX E X RX5 cX5_isGood 7 1) (h : Hp) (a0 : Nat) (s0 : Int32) (oa0 : OKr a0 5) (hs : b_X5_isGood_117  h a0 s0 = some res) (hR : RT E X (some .boolean) (some (.int res.1)) res.2) : GG l E X h 117 [(0, .ref (ad E a0))] [.int s0] := by
  refine g_istore (lv' := [(6, .int s0), (0, .ref (ad E a0))]) C dX5_isGood_117 (by decide) rfl ?_
  refine g_aload_n C 1 dX5_isGood_119 rfl rfl ?_
  refine g_dup C dX5_isGood_120 rfl ?_
  refine gf5_28 C oa0 lf_X5_186 dX5_isGood_121 ?_
  refine g_iconst C dX5_isGood_124 cc_i_1 ?_
  refine g_iadd C dX5_isGood_125 ?_
  refine pf5_28 C oa0 lf_X5_186 dX5_isGood_126 ?_
  refine g_iload C 0 dX5_isGood_129 rfl ?_
  obtain ⟨v1, hbv1, hs⟩ := bnd hs
  obtain ⟨hzv1, hyv1⟩ := bol_v hbv1
  have e9 := Option.some.inj hs
  subst e9
  refine g_top hyv1 ?_
  exact g_zret C hzv1 hR dX5_isGood_131
set_option maxHeartbeats 4000000 in
set_option maxRecDepth 100000 in
theorem wb_X5_isGood_116 {l : Launch} {E : Ep} {X : Fx} {res : Int32 × Hp} (C : CX E X RX5 cX5_isGood 7 1) (h : Hp) (a0 : Nat) (oa0 : OKr a0 5) (hs : b_X5_isGood_116  h a0 = some res) (hR : RT E X (some .boolean) (some (.int res.1)) res.2) : GG l E X h 116 [(0, .ref (ad E a0))] [] := by
  refine g_iconst C dX5_isGood_116 cc_i_0 ?_
  exact wb_X5_isGood_117 C h a0 (0 : Int32) oa0 hs hR
set_option maxHeartbeats 4000000 in
set_option maxRecDepth 100000 in
theorem wb_X5_isGood_96 {l : Launch} {E : Ep} {X : Fx} {res : Int32 × Hp} (C : CX E X RX5 cX5_isGood 7 1) (h : Hp) (a0 : Nat) (oa0 : OKr a0 5) (hs : b_X5_isGood_96  h a0 = some res) (hR : RT E X (some .boolean) (some (.int res.1)) res.2) : GG l E X h 96 [(0, .ref (ad E a0))] [] := by
  refine g_aload_n C 0 dX5_isGood_96 rfl rfl ?_
  refine gf5_28 C oa0 lf_X5_186 dX5_isGood_97 ?_
  refine g_bipush C dX5_isGood_100 cc_b_6 ?_
  refine g_icmp_ge (tgt := 116) C dX5_isGood_102 (by decide) hs (fun hs => ?_) (fun hs => ?_)
  · exact wb_X5_isGood_116 C h a0 oa0 hs hR
  · refine g_aload_n C 0 dX5_isGood_105 rfl rfl ?_
    refine gf5_1 C oa0 lf_X5_78 dX5_isGood_106 ?_
    refine g_if_ne (tgt := 116) C dX5_isGood_109 (by decide) hs (fun hs => ?_) (fun hs => ?_)
    · refine g_iconst C dX5_isGood_112 cc_i_1 ?_
      refine g_goto (tgt := 117) C dX5_isGood_113 (by decide) ?_
      exact wb_X5_isGood_117 C h a0 (1 : Int32) oa0 hs hR
    · exact wb_X5_isGood_116 C h a0 oa0 hs hR
set_option maxHeartbeats 4000000 in
set_option maxRecDepth 100000 in
theorem w_X5_isGood (l : Launch) (E : Ep) (h : Hp) (a0 : Nat) (x1 : Int32) (res : Int32 × Hp) (oa0 : OKr a0 5) (hs : sh_X5_isGood h a0 x1 = some res) : MG l E yX5_isGood cX5_isGood 7 (some .boolean) 1 [.ref (ad E a0), .int x1] h (some (.int res.1)) res.2 := by
  refine MG.of (by decide) (Nat.le_of_ble_eq_true rfl) ?_
  intro X C hR
  have C : CX E X RX5 cX5_isGood 7 1 := C
  show GG l E X h 0 [(0, .ref (ad E a0)), (1, .int x1)] []
  refine g_iconst C dX5_isGood_0 cc_i_5 ?_
  refine g_iload_n C 1 dX5_isGood_1 rfl rfl ?_
  refine g_imul C dX5_isGood_2 ?_
  refine g_istore_n (lv' := [(2, .int ((5 : Int32) * x1)), (0, .ref (ad E a0)), (1, .int x1)]) C dX5_isGood_3 rfl (by decide) rfl ?_
  refine g_aload_n C 1 dX5_isGood_4 rfl rfl ?_
  refine gf5_27 C oa0 lf_X5_53 dX5_isGood_5 ?_
  refine g_iload_n C 0 dX5_isGood_8 rfl rfl ?_
  refine g_iald C (tg5_27 oa0) dX5_isGood_9 hs (fun v1 hs => ?_)
  refine g_istore_n (lv' := [(3, .int v1), (2, .int ((5 : Int32) * x1)), (0, .ref (ad E a0)), (1, .int x1)]) C dX5_isGood_10 rfl (by decide) rfl ?_
  refine g_aload_n C 2 dX5_isGood_11 rfl rfl ?_
  refine gf5_27 C oa0 lf_X5_53 dX5_isGood_12 ?_
  refine g_iload_n C 1 dX5_isGood_15 rfl rfl ?_
  refine g_iconst C dX5_isGood_16 cc_i_1 ?_
  refine g_iadd C dX5_isGood_17 ?_
  refine g_iald C (tg5_27 oa0) dX5_isGood_18 hs (fun v2 hs => ?_)
  refine g_istore (lv' := [(4, .int v2), (3, .int v1), (2, .int ((5 : Int32) * x1)), (0, .ref (ad E a0)), (1, .int x1)]) C dX5_isGood_19 (by decide) rfl ?_
  refine g_aload_n C 3 dX5_isGood_21 rfl rfl ?_
  refine gf5_27 C oa0 lf_X5_53 dX5_isGood_22 ?_
  refine g_iload_n C 2 dX5_isGood_25 rfl rfl ?_
  refine g_iconst C dX5_isGood_26 cc_i_2 ?_
  refine g_iadd C dX5_isGood_27 ?_
  refine g_iald C (tg5_27 oa0) dX5_isGood_28 hs (fun v3 hs => ?_)
  refine g_istore (lv' := [(5, .int v3), (4, .int v2), (3, .int v1), (2, .int ((5 : Int32) * x1)), (0, .ref (ad E a0)), (1, .int x1)]) C dX5_isGood_29 (by decide) rfl ?_
  refine g_aload_n C 4 dX5_isGood_31 rfl rfl ?_
  refine gf5_26 C oa0 lf_X5_50 dX5_isGood_32 ?_
  refine g_iload_n C 5 dX5_isGood_35 rfl rfl ?_
  refine g_iald C (tg5_26 oa0) dX5_isGood_36 hs (fun v4 hs => ?_)
  refine g_bipush C dX5_isGood_37 cc_b_108 ?_
  refine g_icmp_ne (tgt := 74) C dX5_isGood_39 (by decide) hs (fun hs => ?_) (fun hs => ?_)
  · refine g_iload_n C 2 dX5_isGood_42 rfl rfl ?_
    refine g_bipush C dX5_isGood_43 cc_b_6 ?_
    refine g_icmp_ge (tgt := 72) C dX5_isGood_45 (by decide) hs (fun hs => ?_) (fun hs => ?_)
    · refine g_sub [] rfl ?_
      exact wb_X5_isGood_72 C h hs hR
    · refine g_iload C 1 dX5_isGood_48 rfl ?_
      refine g_i2l C dX5_isGood_50 ?_
      refine g_lconst (v := (1 : Int64)) C dX5_isGood_51 (by decide) ?_
      refine g_ldc2 C dX5_isGood_52 kk_X5_184 ?_
      obtain ⟨v5, hcv5, hs⟩ := bnd hs
      refine g_cS (As := [.long (v2).toInt64, .long (1 : Int64), .long (5 : Int64)]) (rest := []) C (w_X5_in l E _ _ _ _ _ hcv5) mw_X5_in lm_X5_74 rfl (by decide) rfl (Nat.le_of_ble_eq_true rfl) dX5_isGood_55 rfl ?_
      refine g_if_eq (tgt := 72) C dX5_isGood_58 (by decide) hs (fun hs => ?_) (fun hs => ?_)
      · refine g_sub [] rfl ?_
        exact wb_X5_isGood_72 C h hs hR
      · refine g_iload C 0 dX5_isGood_61 rfl ?_
        refine g_bipush C dX5_isGood_63 cc_b_6 ?_
        refine g_icmp_ge (tgt := 72) C dX5_isGood_65 (by decide) hs (fun hs => ?_) (fun hs => ?_)
        · refine g_sub [] rfl ?_
          exact wb_X5_isGood_72 C h hs hR
        · refine g_iconst C dX5_isGood_68 cc_i_1 ?_
          refine g_goto (tgt := 73) C dX5_isGood_69 (by decide) ?_
          refine g_sub [] rfl ?_
          exact wb_X5_isGood_73 C h (1 : Int32) hs hR
  · refine g_iload_n C 2 dX5_isGood_74 rfl rfl ?_
    refine g_bipush C dX5_isGood_75 cc_b_8 ?_
    refine g_icmp_ge (tgt := 116) C dX5_isGood_77 (by decide) hs (fun hs => ?_) (fun hs => ?_)
    · refine g_sub [4] rfl ?_
      exact wb_X5_isGood_116 C h a0 oa0 hs hR
    · refine g_iload C 0 dX5_isGood_80 rfl ?_
      refine g_bipush C dX5_isGood_82 cc_b_9 ?_
      refine g_icmp_eq (tgt := 96) C dX5_isGood_84 (by decide) hs (fun hs => ?_) (fun hs => ?_)
      · refine g_sub [4] rfl ?_
        exact wb_X5_isGood_96 C h a0 oa0 hs hR
      · refine g_iload C 0 dX5_isGood_87 rfl ?_
        refine g_aload_n C 4 dX5_isGood_89 rfl rfl ?_
        refine gf5_28 C oa0 lf_X5_186 dX5_isGood_90 ?_
        refine g_icmp_gt (tgt := 116) C dX5_isGood_93 (by decide) hs (fun hs => ?_) (fun hs => ?_)
        · refine g_sub [4] rfl ?_
          exact wb_X5_isGood_116 C h a0 oa0 hs hR
        · refine g_sub [4] rfl ?_
          exact wb_X5_isGood_96 C h a0 oa0 hs hR
set_option maxHeartbeats 4000000 in
set_option maxRecDepth 100000 in
theorem w_X5_comes (l : Launch) (E : Ep) (h : Hp) (a0 : Nat) (x1 : Int32) (res : Hp) (oa0 : OKr a0 5) (hs : sh_X5_comes h a0 x1 = some res) : MG l E yX5_comes cX5_comes 3 none 0 [.ref (ad E a0), .int x1] h none res := by
  refine MG.of (by decide) (Nat.le_of_ble_eq_true rfl) ?_
  intro X C hR
  have C : CX E X RX5 cX5_comes 3 0 := C
  show GG l E X h 0 [(0, .ref (ad E a0)), (1, .int x1)] []
  refine g_iconst C dX5_comes_0 cc_i_5 ?_
  refine g_iload_n C 1 dX5_comes_1 rfl rfl ?_
  refine g_imul C dX5_comes_2 ?_
  refine g_istore_n (lv' := [(2, .int ((5 : Int32) * x1)), (0, .ref (ad E a0)), (1, .int x1)]) C dX5_comes_3 rfl (by decide) rfl ?_
  refine g_aload_n C 1 dX5_comes_4 rfl rfl ?_
  refine gf5_26 C oa0 lf_X5_50 dX5_comes_5 ?_
  refine g_iload_n C 2 dX5_comes_8 rfl rfl ?_
  refine g_iald C (tg5_26 oa0) dX5_comes_9 hs (fun v1 hs => ?_)
  refine g_bipush C dX5_comes_10 cc_b_108 ?_
  refine g_icmp_ne (tgt := 50) C dX5_comes_12 (by decide) hs (fun hs => ?_) (fun hs => ?_)
  · refine g_aload_n C 1 dX5_comes_15 rfl rfl ?_
    refine g_aload_n C 1 dX5_comes_16 rfl rfl ?_
    refine gf5_27 C oa0 lf_X5_53 dX5_comes_17 ?_
    refine g_iload_n C 0 dX5_comes_20 rfl rfl ?_
    refine g_iald C (tg5_27 oa0) dX5_comes_21 hs (fun v2 hs => ?_)
    refine pf5_2 C oa0 lf_X5_96 dX5_comes_22 ?_
    refine g_aload_n C 1 dX5_comes_25 rfl rfl ?_
    refine g_aload_n C 1 dX5_comes_26 rfl rfl ?_
    refine gf5_27 C oa0 lf_X5_53 dX5_comes_27 ?_
    refine g_iload_n C 0 dX5_comes_30 rfl rfl ?_
    refine g_iconst C dX5_comes_31 cc_i_1 ?_
    refine g_iadd C dX5_comes_32 ?_
    refine g_iald C (tg5_27 oa0) dX5_comes_33 hs (fun v3 hs => ?_)
    refine pf5_3 C oa0 lf_X5_7 dX5_comes_34 ?_
    refine g_aload_n C 1 dX5_comes_37 rfl rfl ?_
    refine g_aload_n C 1 dX5_comes_38 rfl rfl ?_
    refine gf5_27 C oa0 lf_X5_53 dX5_comes_39 ?_
    refine g_iload_n C 0 dX5_comes_42 rfl rfl ?_
    refine g_iconst C dX5_comes_43 cc_i_2 ?_
    refine g_iadd C dX5_comes_44 ?_
    refine g_iald C (tg5_27 oa0) dX5_comes_45 hs (fun v4 hs => ?_)
    refine pf5_4 C oa0 lf_X5_85 dX5_comes_46 ?_
    have e9 := Option.some.inj hs
    subst e9
    exact g_vret C hR dX5_comes_49
  · refine g_aload_n C 1 dX5_comes_50 rfl rfl ?_
    refine gf5_6 C oa0 lf_X5_16 dX5_comes_51 ?_
    refine g_aload_n C 1 dX5_comes_54 rfl rfl ?_
    refine gf5_0 C oa0 lf_X5_71 dX5_comes_55 ?_
    refine g_aload_n C 1 dX5_comes_58 rfl rfl ?_
    refine gf5_27 C oa0 lf_X5_53 dX5_comes_59 ?_
    refine g_iload_n C 0 dX5_comes_62 rfl rfl ?_
    refine g_iald C (tg5_27 oa0) dX5_comes_63 hs (fun v5 hs => ?_)
    refine g_iast C (tg5_6 oa0) dX5_comes_64 hs (fun h6 hs => ?_)
    refine g_aload_n C 1 dX5_comes_65 rfl rfl ?_
    refine gf5_7 C oa0 lf_X5_20 dX5_comes_66 ?_
    refine g_aload_n C 1 dX5_comes_69 rfl rfl ?_
    refine gf5_0 C oa0 lf_X5_71 dX5_comes_70 ?_
    refine g_aload_n C 1 dX5_comes_73 rfl rfl ?_
    refine gf5_27 C oa0 lf_X5_53 dX5_comes_74 ?_
    refine g_iload_n C 0 dX5_comes_77 rfl rfl ?_
    refine g_iconst C dX5_comes_78 cc_i_1 ?_
    refine g_iadd C dX5_comes_79 ?_
    refine g_iald C (tg5_27 oa0) dX5_comes_80 hs (fun v7 hs => ?_)
    refine g_iast C (tg5_7 oa0) dX5_comes_81 hs (fun h8 hs => ?_)
    refine g_aload_n C 1 dX5_comes_82 rfl rfl ?_
    refine gf5_9 C oa0 lf_X5_26 dX5_comes_83 ?_
    refine g_aload_n C 1 dX5_comes_86 rfl rfl ?_
    refine gf5_0 C oa0 lf_X5_71 dX5_comes_87 ?_
    refine g_aload_n C 1 dX5_comes_90 rfl rfl ?_
    refine gf5_27 C oa0 lf_X5_53 dX5_comes_91 ?_
    refine g_iload_n C 0 dX5_comes_94 rfl rfl ?_
    refine g_iconst C dX5_comes_95 cc_i_2 ?_
    refine g_iadd C dX5_comes_96 ?_
    refine g_iald C (tg5_27 oa0) dX5_comes_97 hs (fun v9 hs => ?_)
    refine g_iast C (tg5_9 oa0) dX5_comes_98 hs (fun h10 hs => ?_)
    refine g_aload_n C 1 dX5_comes_99 rfl rfl ?_
    refine gf5_10 C oa0 lf_X5_29 dX5_comes_100 ?_
    refine g_aload_n C 1 dX5_comes_103 rfl rfl ?_
    refine gf5_0 C oa0 lf_X5_71 dX5_comes_104 ?_
    refine g_aload_n C 1 dX5_comes_107 rfl rfl ?_
    refine gf5_27 C oa0 lf_X5_53 dX5_comes_108 ?_
    refine g_iload_n C 0 dX5_comes_111 rfl rfl ?_
    refine g_iconst C dX5_comes_112 cc_i_3 ?_
    refine g_iadd C dX5_comes_113 ?_
    refine g_iald C (tg5_27 oa0) dX5_comes_114 hs (fun v11 hs => ?_)
    refine g_iast C (tg5_10 oa0) dX5_comes_115 hs (fun h12 hs => ?_)
    refine g_aload_n C 1 dX5_comes_116 rfl rfl ?_
    refine gf5_8 C oa0 lf_X5_23 dX5_comes_117 ?_
    refine g_aload_n C 1 dX5_comes_120 rfl rfl ?_
    refine gf5_0 C oa0 lf_X5_71 dX5_comes_121 ?_
    refine g_aload_n C 1 dX5_comes_124 rfl rfl ?_
    refine gf5_27 C oa0 lf_X5_53 dX5_comes_125 ?_
    refine g_iload_n C 0 dX5_comes_128 rfl rfl ?_
    refine g_iconst C dX5_comes_129 cc_i_4 ?_
    refine g_iadd C dX5_comes_130 ?_
    refine g_iald C (tg5_27 oa0) dX5_comes_131 hs (fun v13 hs => ?_)
    refine g_iast C (tg5_8 oa0) dX5_comes_132 hs (fun h14 hs => ?_)
    refine g_aload_n C 1 dX5_comes_133 rfl rfl ?_
    refine g_dup C dX5_comes_134 rfl ?_
    refine gf5_0 C oa0 lf_X5_71 dX5_comes_135 ?_
    refine g_iconst C dX5_comes_138 cc_i_1 ?_
    refine g_iadd C dX5_comes_139 ?_
    refine pf5_0 C oa0 lf_X5_71 dX5_comes_140 ?_
    have e9 := Option.some.inj hs
    subst e9
    exact g_vret C hR dX5_comes_143
