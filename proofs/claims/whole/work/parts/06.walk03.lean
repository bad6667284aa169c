set_option maxHeartbeats 4000000 in
set_option maxRecDepth 100000 in
theorem wb_X4_enough_35 {l : Launch} {E : Ep} {X : Fx} {res : Int32 × Hp} (C : CX E X RX4 cX4_enough 5 5) : ∀ (n : Nat) (h : Hp) (a0 : Nat) (x1 : Int32) (x2 : Int32) (x4 : Int32) (oa0 : OKr a0 4), b_X4_enough_35  n h a0 x1 x2 x4 = some res → RT E X (some .int) (some (.int res.1)) res.2 → GG l E X h 35 [(0, .ref (ad E a0)), (1, .int x1), (2, .int x2), (4, .int x4)] [] := by
  intro n
  induction n with
  | zero =>
    intro h a0 x1 x2 x4 oa0
    intro hs
    exact absurd hs (by intro e; cases e)
  | succ n ih =>
    intro h a0 x1 x2 x4 oa0 hs hR
    have hk35 := ih
    have hs : f_X4_enough_35  (b_X4_enough_35  n) h a0 x1 x2 x4 = some res := hs
    generalize b_X4_enough_35  n = k35 at hs hk35
    refine g_iload C 3 dX4_enough_35 rfl ?_
    refine g_bipush C dX4_enough_37 cc_b_60 ?_
    refine g_icmp_gt (tgt := 72) C dX4_enough_39 (by decide) hs (fun hs => ?_) (fun hs => ?_)
    · refine g_bipush C dX4_enough_72 cc_b_m9 ?_
      have e9 := Option.some.inj hs
      subst e9
      exact g_iret C hR dX4_enough_74
    · refine g_aload_n C 0 dX4_enough_42 rfl rfl ?_
      refine gf4_2 C oa0 lf_X4_19 dX4_enough_43 ?_
      refine gf3_3N C (tg4_2 oa0) lf_X4_77 dX4_enough_46 ?_
      refine g_iload_n C 1 dX4_enough_49 rfl rfl ?_
      refine g_iald C (tg3_3 (tg4_2 oa0)) dX4_enough_50 hs (fun v1 hs => ?_)
      refine g_iload_n C 2 dX4_enough_51 rfl rfl ?_
      refine g_icmp_lt (tgt := 58) C dX4_enough_52 (by decide) hs (fun hs => ?_) (fun hs => ?_)
      · refine g_aload_n C 0 dX4_enough_58 rfl rfl ?_
        refine gf4_2 C oa0 lf_X4_19 dX4_enough_59 ?_
        obtain ⟨q2, hcq2, hs⟩ := bnd hs
        refine g_cVN (As := []) (rest := []) C (w_X3_passDay l E _ _ _ (tg4_2 oa0) hcq2) mw_X3_passDay lm_X4_132 (tg4_2 oa0) rfl (ce3 E _ ((tg4_2 oa0)).2) rfl (by decide) rfl (Nat.le_of_ble_eq_true rfl) dX4_enough_62 rfl ?_
        refine g_pop C dX4_enough_65 rfl ?_
        refine g_iinc (lv' := [(4, .int (x4 + (1 : Int32))), (0, .ref (ad E a0)), (1, .int x1), (2, .int x2)]) (j := 3) C dX4_enough_66 rfl (cc_n_1 _) (by decide) rfl ?_
        refine g_goto (tgt := 35) C dX4_enough_69 (by decide) ?_
        refine g_sub [1, 2, 3, 0] rfl ?_
        exact hk35 q2.2 a0 x1 x2 (x4 + (1 : Int32)) oa0 hs hR
      · refine g_iload C 3 dX4_enough_55 rfl ?_
        have e9 := Option.some.inj hs
        subst e9
        exact g_iret C hR dX4_enough_57
set_option maxHeartbeats 4000000 in
set_option maxRecDepth 100000 in
theorem w_X4_enough (l : Launch) (E : Ep) (h : Hp) (a0 : Nat) (x1 : Int32) (x2 : Int32) (res : Int32 × Hp) (oa0 : OKr a0 4) (hs : sh_X4_enough h a0 x1 x2 = some res) : MG l E yX4_enough cX4_enough 5 (some .int) 5 [.ref (ad E a0), .int x1, .int x2] h (some (.int res.1)) res.2 := by
  refine MG.of (by decide) (Nat.le_of_ble_eq_true rfl) ?_
  intro X C hR
  have C : CX E X RX4 cX4_enough 5 5 := C
  show GG l E X h 0 [(0, .ref (ad E a0)), (1, .int x1), (2, .int x2)] []
  refine g_aload_n C 0 dX4_enough_0 rfl rfl ?_
  refine g_iload_n C 1 dX4_enough_1 rfl rfl ?_
  refine g_iload_n C 2 dX4_enough_2 rfl rfl ?_
  refine g_iconst C dX4_enough_3 cc_i_0 ?_
  refine g_sipush C dX4_enough_4 cc_s_9999 ?_
  obtain ⟨v1, hcv1, hs⟩ := bnd hs
  refine g_cV (As := [.int x1, .int x2, .int (0 : Int32), .int (9999 : Int32)]) (rest := []) C (w_X4_ofOneRefusal l E _ _ _ _ _ _ _ oa0 hcv1) mw_X4_ofOneRefusal lm_X4_138 oa0 rfl (ce4 E _ (oa0).2) rfl (by decide) rfl (Nat.le_of_ble_eq_true rfl) dX4_enough_7 rfl ?_
  refine g_istore_n (lv' := [(3, .int v1), (0, .ref (ad E a0)), (1, .int x1), (2, .int x2)]) C dX4_enough_10 rfl (by decide) rfl ?_
  refine g_iload_n C 0 dX4_enough_11 rfl rfl ?_
  refine g_if_eq (tgt := 21) C dX4_enough_12 (by decide) hs (fun hs => ?_) (fun hs => ?_)
  · refine g_aload_n C 1 dX4_enough_21 rfl rfl ?_
    refine gf4_2 C oa0 lf_X4_19 dX4_enough_22 ?_
    refine g_aload_n C 1 dX4_enough_25 rfl rfl ?_
    refine gf4_0 C oa0 lf_X4_10 dX4_enough_26 ?_
    obtain ⟨h2, hch2, hs⟩ := bnd hs
    refine g_cVN (As := [.ref (ad E (rf a0 0))]) (rest := []) C (w_X3_become l E _ _ _ _ (tg4_2 oa0) (tg4_0 oa0) hch2) mw_X3_become lm_X4_149 (tg4_2 oa0) rfl (ce3 E _ ((tg4_2 oa0)).2) rfl (by decide) rfl (Nat.le_of_ble_eq_true rfl) dX4_enough_29 rfl ?_
    refine g_iconst C dX4_enough_32 cc_i_0 ?_
    refine g_istore (lv' := [(4, .int (0 : Int32)), (3, .int v1), (0, .ref (ad E a0)), (1, .int x1), (2, .int x2)]) C dX4_enough_33 (by decide) rfl ?_
    refine g_sub [2, 3, 4, 0] rfl ?_
    exact wb_X4_enough_35 C 1000 h2 a0 x1 x2 (0 : Int32) oa0 hs hR
  · refine g_aload_n C 1 dX4_enough_15 rfl rfl ?_
    refine g_iload_n C 0 dX4_enough_16 rfl rfl ?_
    obtain ⟨q3, hcq3, hs⟩ := bnd hs
    refine g_cV (As := [.int v1]) (rest := []) C (w_X4_refuse l E _ _ _ _ oa0 hcq3) mw_X4_refuse lm_X4_46 oa0 rfl (ce4 E _ (oa0).2) rfl (by decide) rfl (Nat.le_of_ble_eq_true rfl) dX4_enough_17 rfl ?_
    have e9 := Option.some.inj hs
    subst e9
    exact g_iret C hR dX4_enough_20
set_option maxHeartbeats 4000000 in
set_option maxRecDepth 100000 in
theorem wb_X3_richestAbove_39 {l : Launch} {E : Ep} {X : Fx} {res : Int32} (C : CX E X RX3 cX3_richestAbove 5 0) (k8 : Hp → Nat → Int32 → Int32 → Int32 → Option (Int32)) (hk8 : ∀ (h : Hp) (a0 : Nat) (x2 : Int32) (x3 : Int32) (x4 : Int32), OKr a0 3 → k8 h a0 x2 x3 x4 = some res → RT E X (some .int) (some (.int res)) h → GG l E X h 8 [(0, .ref (ad E a0)), (2, .int x2), (3, .int x3), (4, .int x4)] []) (h : Hp) (a0 : Nat) (x2 : Int32) (x3 : Int32) (x4 : Int32) (oa0 : OKr a0 3) (hs : b_X3_richestAbove_39 k8 h a0 x2 x3 x4 = some res) (hR : RT E X (some .int) (some (.int res)) h) : GG l E X h 39 [(0, .ref (ad E a0)), (2, .int x2), (3, .int x3), (4, .int x4)] [] := by
  refine g_iinc (lv' := [(4, .int (x4 + (1 : Int32))), (0, .ref (ad E a0)), (2, .int x2), (3, .int x3)]) (j := 3) C dX3_richestAbove_39 rfl (cc_n_1 _) (by decide) rfl ?_
  refine g_goto (tgt := 8) C dX3_richestAbove_42 (by decide) ?_
  refine g_sub [1, 2, 3, 0] rfl ?_
  exact hk8 h a0 x2 x3 (x4 + (1 : Int32)) oa0 hs hR
set_option maxHeartbeats 4000000 in
set_option maxRecDepth 100000 in
theorem wb_X3_richestAbove_8 {l : Launch} {E : Ep} {X : Fx} {res : Int32} (C : CX E X RX3 cX3_richestAbove 5 0) : ∀ (n : Nat) (h : Hp) (a0 : Nat) (x2 : Int32) (x3 : Int32) (x4 : Int32) (oa0 : OKr a0 3), b_X3_richestAbove_8  n h a0 x2 x3 x4 = some res → RT E X (some .int) (some (.int res)) h → GG l E X h 8 [(0, .ref (ad E a0)), (2, .int x2), (3, .int x3), (4, .int x4)] [] := by
  intro n
  induction n with
  | zero =>
    intro h a0 x2 x3 x4 oa0
    intro hs
    exact absurd hs (by intro e; cases e)
  | succ n ih =>
    intro h a0 x2 x3 x4 oa0 hs hR
    have hk8 := ih
    have hs : f_X3_richestAbove_8  (b_X3_richestAbove_8  n) h a0 x2 x3 x4 = some res := hs
    generalize b_X3_richestAbove_8  n = k8 at hs hk8
    refine g_iload C 3 dX3_richestAbove_8 rfl ?_
    refine g_aload_n C 0 dX3_richestAbove_10 rfl rfl ?_
    refine gf3_7 C oa0 lf_X3_47 dX3_richestAbove_11 ?_
    refine g_icmp_ge (tgt := 45) C dX3_richestAbove_14 (by decide) hs (fun hs => ?_) (fun hs => ?_)
    · refine g_iload_n C 1 dX3_richestAbove_45 rfl rfl ?_
      have e9 := Option.some.inj hs
      subst e9
      exact g_iret C hR dX3_richestAbove_46
    · refine g_aload_n C 0 dX3_richestAbove_17 rfl rfl ?_
      refine gf3_3 C oa0 lf_X3_21 dX3_richestAbove_18 ?_
      refine g_iload C 3 dX3_richestAbove_21 rfl ?_
      refine g_iald C (tg3_3 oa0) dX3_richestAbove_23 hs (fun v1 hs => ?_)
      refine g_iload_n C 2 dX3_richestAbove_24 rfl rfl ?_
      refine g_icmp_le (tgt := 39) C dX3_richestAbove_25 (by decide) hs (fun hs => ?_) (fun hs => ?_)
      · exact wb_X3_richestAbove_39 C k8 hk8 h a0 x2 x3 x4 oa0 hs hR
      · refine g_iload C 3 dX3_richestAbove_28 rfl ?_
        refine g_istore_n (lv' := [(2, .int x4), (0, .ref (ad E a0)), (3, .int x3), (4, .int x4)]) C dX3_richestAbove_30 rfl (by decide) rfl ?_
        refine g_aload_n C 1 dX3_richestAbove_31 rfl rfl ?_
        refine gf3_3 C oa0 lf_X3_21 dX3_richestAbove_32 ?_
        refine g_iload C 3 dX3_richestAbove_35 rfl ?_
        refine g_iald C (tg3_3 oa0) dX3_richestAbove_37 hs (fun v2 hs => ?_)
        refine g_istore_n (lv' := [(3, .int v2), (2, .int x4), (0, .ref (ad E a0)), (4, .int x4)]) C dX3_richestAbove_38 rfl (by decide) rfl ?_
        refine g_sub [2, 1, 0, 3] rfl ?_
        exact wb_X3_richestAbove_39 C k8 hk8 h a0 x4 v2 x4 oa0 hs hR
set_option maxHeartbeats 4000000 in
set_option maxRecDepth 100000 in
theorem w_X3_richestAbove (l : Launch) (E : Ep) (h : Hp) (a0 : Nat) (x1 : Int32) (res : Int32) (oa0 : OKr a0 3) (hs : sh_X3_richestAbove h a0 x1 = some res) : MG l E yX3_richestAbove cX3_richestAbove 5 (some .int) 0 [.ref (ad E a0), .int x1] h (some (.int res)) h := by
  refine MG.of (by decide) (Nat.le_of_ble_eq_true rfl) ?_
  intro X C hR
  have C : CX E X RX3 cX3_richestAbove 5 0 := C
  show GG l E X h 0 [(0, .ref (ad E a0)), (1, .int x1)] []
  refine g_bipush C dX3_richestAbove_0 cc_b_m9 ?_
  refine g_istore_n (lv' := [(2, .int (-9 : Int32)), (0, .ref (ad E a0)), (1, .int x1)]) C dX3_richestAbove_2 rfl (by decide) rfl ?_
  refine g_iload_n C 2 dX3_richestAbove_3 rfl rfl ?_
  refine g_istore_n (lv' := [(3, .int x1), (2, .int (-9 : Int32)), (0, .ref (ad E a0)), (1, .int x1)]) C dX3_richestAbove_4 rfl (by decide) rfl ?_
  refine g_iconst C dX3_richestAbove_5 cc_i_0 ?_
  refine g_istore (lv' := [(4, .int (0 : Int32)), (3, .int x1), (2, .int (-9 : Int32)), (0, .ref (ad E a0)), (1, .int x1)]) C dX3_richestAbove_6 (by decide) rfl ?_
  refine g_sub [3, 2, 1, 0] rfl ?_
  exact wb_X3_richestAbove_8 C 1000 h a0 (-9 : Int32) x1 (0 : Int32) oa0 hs hR
set_option maxHeartbeats 4000000 in
set_option maxRecDepth 100000 in
theorem w_X4_richest (l : Launch) (E : Ep) (h : Hp) (a0 : Nat) (x1 : Int32) (res : Int32 × Hp) (oa0 : OKr a0 4) (hs : sh_X4_richest h a0 x1 = some res) : MG l E yX4_richest cX4_richest 3 (some .int) 7 [.ref (ad E a0), .int x1] h (some (.int res.1)) res.2 := by
  refine MG.of (by decide) (Nat.le_of_ble_eq_true rfl) ?_
  intro X C hR
  have C : CX E X RX4 cX4_richest 3 7 := C
  show GG l E X h 0 [(0, .ref (ad E a0)), (1, .int x1)] []
  refine g_iload_n C 1 dX4_richest_0 rfl rfl ?_
  refine g_iconst C dX4_richest_1 cc_i_0 ?_
  refine g_bipush C dX4_richest_2 cc_b_60 ?_
  obtain ⟨v1, hcv1, hs⟩ := bnd hs
  refine g_cS (As := [.int x1, .int (0 : Int32), .int (60 : Int32)]) (rest := []) C (w_X4_outside l E _ _ _ _ _ hcv1) mw_X4_outside lm_X4_111 rfl (by decide) rfl (Nat.le_of_ble_eq_true rfl) dX4_richest_4 rfl ?_
  refine g_istore_n (lv' := [(2, .int v1), (0, .ref (ad E a0)), (1, .int x1)]) C dX4_richest_7 rfl (by decide) rfl ?_
  refine g_iload_n C 0 dX4_richest_8 rfl rfl ?_
  refine g_if_eq (tgt := 18) C dX4_richest_9 (by decide) hs (fun hs => ?_) (fun hs => ?_)
  · refine g_aload_n C 1 dX4_richest_18 rfl rfl ?_
    refine g_iload_n C 2 dX4_richest_19 rfl rfl ?_
    obtain ⟨h2, hch2, hs⟩ := bnd hs
    refine g_cV (As := [.int x1]) (rest := []) C (w_X4_think l E _ _ _ _ oa0 hch2) mw_X4_think lm_X4_142 oa0 rfl (ce4 E _ (oa0).2) rfl (by decide) rfl (Nat.le_of_ble_eq_true rfl) dX4_richest_20 rfl ?_
    refine g_aload_n C 1 dX4_richest_23 rfl rfl ?_
    refine gf4_2 C oa0 lf_X4_19 dX4_richest_24 ?_
    refine g_iconst C dX4_richest_27 cc_i_m1 ?_
    obtain ⟨v3, hcv3, hs⟩ := bnd hs
    refine g_cVN (As := [.int (-1 : Int32)]) (rest := []) C (w_X3_richestAbove l E _ _ _ _ (tg4_2 oa0) hcv3) mw_X3_richestAbove lm_X4_153 (tg4_2 oa0) rfl (ce3 E _ ((tg4_2 oa0)).2) rfl (by decide) rfl (Nat.le_of_ble_eq_true rfl) dX4_richest_28 rfl ?_
    have e9 := Option.some.inj hs
    subst e9
    exact g_iret C hR dX4_richest_31
  · refine g_aload_n C 1 dX4_richest_12 rfl rfl ?_
    refine g_iload_n C 0 dX4_richest_13 rfl rfl ?_
    obtain ⟨q4, hcq4, hs⟩ := bnd hs
    refine g_cV (As := [.int v1]) (rest := []) C (w_X4_refuse l E _ _ _ _ oa0 hcq4) mw_X4_refuse lm_X4_46 oa0 rfl (ce4 E _ (oa0).2) rfl (by decide) rfl (Nat.le_of_ble_eq_true rfl) dX4_richest_14 rfl ?_
    have e9 := Option.some.inj hs
    subst e9
    exact g_iret C hR dX4_richest_17
set_option maxHeartbeats 4000000 in
set_option maxRecDepth 100000 in
theorem wb_X4_lost_34 {l : Launch} {E : Ep} {X : Fx} {res : Int32 × Hp} (C : CX E X RX4 cX4_lost 5 5) : ∀ (n : Nat) (h : Hp) (a0 : Nat) (x1 : Int32) (x3 : Int32) (x4 : Int32) (oa0 : OKr a0 4), b_X4_lost_34  n h a0 x1 x3 x4 = some res → RT E X (some .int) (some (.int res.1)) res.2 → GG l E X h 34 [(0, .ref (ad E a0)), (1, .int x1), (3, .int x3), (4, .int x4)] [] := by
  intro n
  induction n with
  | zero =>
    intro h a0 x1 x3 x4 oa0
    intro hs
    exact absurd hs (by intro e; cases e)
  | succ n ih =>
    intro h a0 x1 x3 x4 oa0 hs hR
    have hk34 := ih
    have hs : f_X4_lost_34  (b_X4_lost_34  n) h a0 x1 x3 x4 = some res := hs
    generalize b_X4_lost_34  n = k34 at hs hk34
    refine g_iload C 3 dX4_lost_34 rfl ?_
    refine g_iload_n C 1 dX4_lost_36 rfl rfl ?_
    refine g_icmp_ge (tgt := 56) C dX4_lost_37 (by decide) hs (fun hs => ?_) (fun hs => ?_)
    · refine g_iload_n C 2 dX4_lost_56 rfl rfl ?_
      have e9 := Option.some.inj hs
      subst e9
      exact g_iret C hR dX4_lost_57
    · refine g_iload_n C 2 dX4_lost_40 rfl rfl ?_
      refine g_aload_n C 0 dX4_lost_41 rfl rfl ?_
      refine gf4_2 C oa0 lf_X4_19 dX4_lost_42 ?_
      obtain ⟨q1, hcq1, hs⟩ := bnd hs
      refine g_cVN (As := []) (rest := [.int x3]) C (w_X3_passDay l E _ _ _ (tg4_2 oa0) hcq1) mw_X3_passDay lm_X4_132 (tg4_2 oa0) rfl (ce3 E _ ((tg4_2 oa0)).2) rfl (by decide) rfl (Nat.le_of_ble_eq_true rfl) dX4_lost_45 rfl ?_
      refine g_iadd C dX4_lost_48 ?_
      refine g_istore_n (lv' := [(3, .int (x3 + q1.1)), (0, .ref (ad E a0)), (1, .int x1), (4, .int x4)]) C dX4_lost_49 rfl (by decide) rfl ?_
      refine g_iinc (lv' := [(4, .int (x4 + (1 : Int32))), (3, .int (x3 + q1.1)), (0, .ref (ad E a0)), (1, .int x1)]) (j := 3) C dX4_lost_50 rfl (cc_n_1 _) (by decide) rfl ?_
      refine g_goto (tgt := 34) C dX4_lost_53 (by decide) ?_
      refine g_sub [2, 3, 1, 0] rfl ?_
      exact hk34 q1.2 a0 x1 (x3 + q1.1) (x4 + (1 : Int32)) oa0 hs hR
set_option maxHeartbeats 4000000 in
set_option maxRecDepth 100000 in
theorem w_X4_lost (l : Launch) (E : Ep) (h : Hp) (a0 : Nat) (x1 : Int32) (res : Int32 × Hp) (oa0 : OKr a0 4) (hs : sh_X4_lost h a0 x1 = some res) : MG l E yX4_lost cX4_lost 5 (some .int) 5 [.ref (ad E a0), .int x1] h (some (.int res.1)) res.2 := by
  refine MG.of (by decide) (Nat.le_of_ble_eq_true rfl) ?_
  intro X C hR
  have C : CX E X RX4 cX4_lost 5 5 := C
  show GG l E X h 0 [(0, .ref (ad E a0)), (1, .int x1)] []
  refine g_iload_n C 1 dX4_lost_0 rfl rfl ?_
  refine g_iconst C dX4_lost_1 cc_i_0 ?_
  refine g_bipush C dX4_lost_2 cc_b_60 ?_
  obtain ⟨v1, hcv1, hs⟩ := bnd hs
  refine g_cS (As := [.int x1, .int (0 : Int32), .int (60 : Int32)]) (rest := []) C (w_X4_outside l E _ _ _ _ _ hcv1) mw_X4_outside lm_X4_111 rfl (by decide) rfl (Nat.le_of_ble_eq_true rfl) dX4_lost_4 rfl ?_
  refine g_istore_n (lv' := [(2, .int v1), (0, .ref (ad E a0)), (1, .int x1)]) C dX4_lost_7 rfl (by decide) rfl ?_
  refine g_iload_n C 0 dX4_lost_8 rfl rfl ?_
  refine g_if_eq (tgt := 18) C dX4_lost_9 (by decide) hs (fun hs => ?_) (fun hs => ?_)
  · refine g_aload_n C 1 dX4_lost_18 rfl rfl ?_
    refine gf4_2 C oa0 lf_X4_19 dX4_lost_19 ?_
    refine g_aload_n C 1 dX4_lost_22 rfl rfl ?_
    refine gf4_0 C oa0 lf_X4_10 dX4_lost_23 ?_
    obtain ⟨h2, hch2, hs⟩ := bnd hs
    refine g_cVN (As := [.ref (ad E (rf a0 0))]) (rest := []) C (w_X3_become l E _ _ _ _ (tg4_2 oa0) (tg4_0 oa0) hch2) mw_X3_become lm_X4_149 (tg4_2 oa0) rfl (ce3 E _ ((tg4_2 oa0)).2) rfl (by decide) rfl (Nat.le_of_ble_eq_true rfl) dX4_lost_26 rfl ?_
    refine g_iconst C dX4_lost_29 cc_i_0 ?_
    refine g_istore_n (lv' := [(3, .int (0 : Int32)), (2, .int v1), (0, .ref (ad E a0)), (1, .int x1)]) C dX4_lost_30 rfl (by decide) rfl ?_
    refine g_iconst C dX4_lost_31 cc_i_0 ?_
    refine g_istore (lv' := [(4, .int (0 : Int32)), (3, .int (0 : Int32)), (2, .int v1), (0, .ref (ad E a0)), (1, .int x1)]) C dX4_lost_32 (by decide) rfl ?_
    refine g_sub [3, 4, 1, 0] rfl ?_
    exact wb_X4_lost_34 C 1000 h2 a0 x1 (0 : Int32) (0 : Int32) oa0 hs hR
  · refine g_aload_n C 1 dX4_lost_12 rfl rfl ?_
    refine g_iload_n C 0 dX4_lost_13 rfl rfl ?_
    obtain ⟨q3, hcq3, hs⟩ := bnd hs
    refine g_cV (As := [.int v1]) (rest := []) C (w_X4_refuse l E _ _ _ _ oa0 hcq3) mw_X4_refuse lm_X4_46 oa0 rfl (ce4 E _ (oa0).2) rfl (by decide) rfl (Nat.le_of_ble_eq_true rfl) dX4_lost_14 rfl ?_
    have e9 := Option.some.inj hs
    subst e9
    exact g_iret C hR dX4_lost_17
set_option maxHeartbeats 4000000 in
set_option maxRecDepth 100000 in
theorem wb_X4_grows_56 {l : Launch} {E : Ep} {X : Fx} {res : Int32 × Hp} (C : CX E X RX4 cX4_grows 4 7) (h : Hp) (s0 : Int32) (hs : b_X4_grows_56  h s0 = some res) (hR : RT E X (some .int) (some (.int res.1)) res.2) : GG l E X h 56 [] [.int s0] := by
  have e9 := Option.some.inj hs
  subst e9
  exact g_iret C hR dX4_grows_56
set_option maxHeartbeats 4000000 in
set_option maxRecDepth 100000 in
theorem w_X4_grows (l : Launch) (E : Ep) (h : Hp) (a0 : Nat) (x1 : Int32) (res : Int32 × Hp) (oa0 : OKr a0 4) (hs : sh_X4_grows h a0 x1 = some res) : MG l E yX4_grows cX4_grows 4 (some .int) 7 [.ref (ad E a0), .int x1] h (some (.int res.1)) res.2 := by
  refine MG.of (by decide) (Nat.le_of_ble_eq_true rfl) ?_
  intro X C hR
  have C : CX E X RX4 cX4_grows 4 7 := C
  show GG l E X h 0 [(0, .ref (ad E a0)), (1, .int x1)] []
  refine g_iload_n C 1 dX4_grows_0 rfl rfl ?_
  refine g_iconst C dX4_grows_1 cc_i_1 ?_
  refine g_bipush C dX4_grows_2 cc_b_60 ?_
  obtain ⟨v1, hcv1, hs⟩ := bnd hs
  refine g_cS (As := [.int x1, .int (1 : Int32), .int (60 : Int32)]) (rest := []) C (w_X4_outside l E _ _ _ _ _ hcv1) mw_X4_outside lm_X4_111 rfl (by decide) rfl (Nat.le_of_ble_eq_true rfl) dX4_grows_4 rfl ?_
  refine g_istore_n (lv' := [(2, .int v1), (0, .ref (ad E a0)), (1, .int x1)]) C dX4_grows_7 rfl (by decide) rfl ?_
  refine g_iload_n C 0 dX4_grows_8 rfl rfl ?_
  refine g_if_eq (tgt := 18) C dX4_grows_9 (by decide) hs (fun hs => ?_) (fun hs => ?_)
  · refine g_aload_n C 1 dX4_grows_18 rfl rfl ?_
    refine g_iload_n C 2 dX4_grows_19 rfl rfl ?_
    obtain ⟨h2, hch2, hs⟩ := bnd hs
    refine g_cV (As := [.int x1]) (rest := []) C (w_X4_think l E _ _ _ _ oa0 hch2) mw_X4_think lm_X4_142 oa0 rfl (ce4 E _ (oa0).2) rfl (by decide) rfl (Nat.le_of_ble_eq_true rfl) dX4_grows_20 rfl ?_
    refine g_aload_n C 1 dX4_grows_23 rfl rfl ?_
    refine gf4_2 C oa0 lf_X4_19 dX4_grows_24 ?_
    obtain ⟨v3, hcv3, hs⟩ := bnd hs
    refine g_cVN (As := []) (rest := []) C (w_X3_sumOfHas l E _ _ _ (tg4_2 oa0) hcv3) mw_X3_sumOfHas lm_X4_146 (tg4_2 oa0) rfl (ce3 E _ ((tg4_2 oa0)).2) rfl (by decide) rfl (Nat.le_of_ble_eq_true rfl) dX4_grows_27 rfl ?_
    refine g_aload_n C 1 dX4_grows_30 rfl rfl ?_
    refine gf4_0 C oa0 lf_X4_10 dX4_grows_31 ?_
    obtain ⟨v4, hcv4, hs⟩ := bnd hs
    refine g_cVN (As := []) (rest := [.int v3]) C (w_X3_sumOfHas l E _ _ _ (tg4_0 oa0) hcv4) mw_X3_sumOfHas lm_X4_146 (tg4_0 oa0) rfl (ce3 E _ ((tg4_0 oa0)).2) rfl (by decide) rfl (Nat.le_of_ble_eq_true rfl) dX4_grows_34 rfl ?_
    refine g_isub C dX4_grows_37 ?_
    refine g_istore_n (lv' := [(3, .int (v3 - v4)), (2, .int v1), (0, .ref (ad E a0)), (1, .int x1)]) C dX4_grows_38 rfl (by decide) rfl ?_
    refine g_iload_n C 0 dX4_grows_39 rfl rfl ?_
    refine g_if_le (tgt := 47) C dX4_grows_40 (by decide) hs (fun hs => ?_) (fun hs => ?_)
    · refine g_iload_n C 0 dX4_grows_47 rfl rfl ?_
      refine g_if_ne (tgt := 55) C dX4_grows_48 (by decide) hs (fun hs => ?_) (fun hs => ?_)
      · refine g_iconst C dX4_grows_51 cc_i_0 ?_
        refine g_goto (tgt := 56) C dX4_grows_52 (by decide) ?_
        refine g_sub [] rfl ?_
        exact wb_X4_grows_56 C h2 (0 : Int32) hs hR
      · refine g_iconst C dX4_grows_55 cc_i_2 ?_
        refine g_sub [] rfl ?_
        exact wb_X4_grows_56 C h2 (2 : Int32) hs hR
    · refine g_iconst C dX4_grows_43 cc_i_1 ?_
      refine g_goto (tgt := 56) C dX4_grows_44 (by decide) ?_
      refine g_sub [] rfl ?_
      exact wb_X4_grows_56 C h2 (1 : Int32) hs hR
  · refine g_aload_n C 1 dX4_grows_12 rfl rfl ?_
    refine g_iload_n C 0 dX4_grows_13 rfl rfl ?_
    obtain ⟨q5, hcq5, hs⟩ := bnd hs
    refine g_cV (As := [.int v1]) (rest := []) C (w_X4_refuse l E _ _ _ _ oa0 hcq5) mw_X4_refuse lm_X4_46 oa0 rfl (ce4 E _ (oa0).2) rfl (by decide) rfl (Nat.le_of_ble_eq_true rfl) dX4_grows_14 rfl ?_
    have e9 := Option.some.inj hs
    subst e9
    exact g_iret C hR dX4_grows_17
set_option maxHeartbeats 4000000 in
set_option maxRecDepth 100000 in
theorem wb_X4_quietDayInMind_28 {l : Launch} {E : Ep} {X : Fx} {res : Int32 × Hp} (C : CX E X RX4 cX4_quietDayInMind 2 5) : ∀ (n : Nat) (h : Hp) (a0 : Nat) (x1 : Int32) (oa0 : OKr a0 4), b_X4_quietDayInMind_28  n h a0 x1 = some res → RT E X (some .boolean) (some (.int res.1)) res.2 → GG l E X h 28 [(0, .ref (ad E a0)), (1, .int x1)] [] := by
  intro n
  induction n with
  | zero =>
    intro h a0 x1 oa0
    intro hs
    exact absurd hs (by intro e; cases e)
  | succ n ih =>
    intro h a0 x1 oa0 hs hR
    have hk28 := ih
    have hs : f_X4_quietDayInMind_28  (b_X4_quietDayInMind_28  n) h a0 x1 = some res := hs
    generalize b_X4_quietDayInMind_28  n = k28 at hs hk28
    refine g_iload_n C 1 dX4_quietDayInMind_28 rfl rfl ?_
    refine g_aload_n C 0 dX4_quietDayInMind_29 rfl rfl ?_
    refine gf4_2 C oa0 lf_X4_19 dX4_quietDayInMind_30 ?_
    refine gf3_7N C (tg4_2 oa0) lf_X4_200 dX4_quietDayInMind_33 ?_
    refine g_icmp_ge (tgt := 65) C dX4_quietDayInMind_36 (by decide) hs (fun hs => ?_) (fun hs => ?_)
    · refine g_iconst C dX4_quietDayInMind_65 cc_i_1 ?_
      have e9 := Option.some.inj hs
      subst e9
      exact g_zret C (Or.inr rfl) hR dX4_quietDayInMind_66
    · refine g_aload_n C 0 dX4_quietDayInMind_39 rfl rfl ?_
      refine gf4_2 C oa0 lf_X4_19 dX4_quietDayInMind_40 ?_
      refine gf3_3N C (tg4_2 oa0) lf_X4_77 dX4_quietDayInMind_43 ?_
      refine g_iload_n C 1 dX4_quietDayInMind_46 rfl rfl ?_
      refine g_iald C (tg3_3 (tg4_2 oa0)) dX4_quietDayInMind_47 hs (fun v1 hs => ?_)
      refine g_aload_n C 0 dX4_quietDayInMind_48 rfl rfl ?_
      refine gf4_5 C oa0 lf_X4_36 dX4_quietDayInMind_49 ?_
      refine g_iload_n C 1 dX4_quietDayInMind_52 rfl rfl ?_
      refine g_iald C (tg4_5 oa0) dX4_quietDayInMind_53 hs (fun v2 hs => ?_)
      refine g_icmp_eq (tgt := 59) C dX4_quietDayInMind_54 (by decide) hs (fun hs => ?_) (fun hs => ?_)
      · refine g_iinc (lv' := [(1, .int (x1 + (1 : Int32))), (0, .ref (ad E a0))]) (j := 1) C dX4_quietDayInMind_59 rfl (cc_n_1 _) (by decide) rfl ?_
        refine g_goto (tgt := 28) C dX4_quietDayInMind_62 (by decide) ?_
        refine g_sub [1, 0] rfl ?_
        exact hk28 h a0 (x1 + (1 : Int32)) oa0 hs hR
      · refine g_iconst C dX4_quietDayInMind_57 cc_i_0 ?_
        have e9 := Option.some.inj hs
        subst e9
        exact g_zret C (Or.inl rfl) hR dX4_quietDayInMind_58
set_option maxHeartbeats 4000000 in
set_option maxRecDepth 100000 in
theorem w_X4_quietDayInMind (l : Launch) (E : Ep) (h : Hp) (a0 : Nat) (res : Int32 × Hp) (oa0 : OKr a0 4) (hs : sh_X4_quietDayInMind h a0 = some res) : MG l E yX4_quietDayInMind cX4_quietDayInMind 2 (some .boolean) 5 [.ref (ad E a0)] h (some (.int res.1)) res.2 := by
  refine MG.of (by decide) (Nat.le_of_ble_eq_true rfl) ?_
  intro X C hR
  have C : CX E X RX4 cX4_quietDayInMind 2 5 := C
  show GG l E X h 0 [(0, .ref (ad E a0))] []
  refine g_aload_n C 0 dX4_quietDayInMind_0 rfl rfl ?_
  refine gf4_2 C oa0 lf_X4_19 dX4_quietDayInMind_1 ?_
  refine gf3_3N C (tg4_2 oa0) lf_X4_77 dX4_quietDayInMind_4 ?_
  refine g_iconst C dX4_quietDayInMind_7 cc_i_0 ?_
  refine g_aload_n C 0 dX4_quietDayInMind_8 rfl rfl ?_
  refine gf4_5 C oa0 lf_X4_36 dX4_quietDayInMind_9 ?_
  refine g_iconst C dX4_quietDayInMind_12 cc_i_0 ?_
  refine g_bipush C dX4_quietDayInMind_13 cc_b_6 ?_
  refine g_acI C (by decide) (tg3_3 (tg4_2 oa0)) (tg4_5 oa0) dX4_quietDayInMind_15 lm_X4_226 kw_ac_1 kw_ac_2 kw_ac_3 (Nat.le_of_ble_eq_true rfl) hs (fun h1 hs => ?_)
  refine g_aload_n C 0 dX4_quietDayInMind_18 rfl rfl ?_
  refine gf4_2 C oa0 lf_X4_19 dX4_quietDayInMind_19 ?_
  obtain ⟨q2, hcq2, hs⟩ := bnd hs
  refine g_cVN (As := []) (rest := []) C (w_X3_passDay l E _ _ _ (tg4_2 oa0) hcq2) mw_X3_passDay lm_X4_132 (tg4_2 oa0) rfl (ce3 E _ ((tg4_2 oa0)).2) rfl (by decide) rfl (Nat.le_of_ble_eq_true rfl) dX4_quietDayInMind_22 rfl ?_
  refine g_pop C dX4_quietDayInMind_25 rfl ?_
  refine g_iconst C dX4_quietDayInMind_26 cc_i_0 ?_
  refine g_istore_n (lv' := [(1, .int (0 : Int32)), (0, .ref (ad E a0))]) C dX4_quietDayInMind_27 rfl (by decide) rfl ?_
  refine g_sub [1, 0] rfl ?_
  exact wb_X4_quietDayInMind_28 C 1000 q2.2 a0 (0 : Int32) oa0 hs hR
set_option maxHeartbeats 4000000 in
set_option maxRecDepth 100000 in
theorem wb_X4_rest_35 {l : Launch} {E : Ep} {X : Fx} {res : Int32 × Hp} (C : CX E X RX4 cX4_rest 3 6) (k15 : Hp → Nat → Int32 → Int32 → Option (Int32 × Hp)) (hk15 : ∀ (h : Hp) (a0 : Nat) (x1 : Int32) (x2 : Int32), OKr a0 4 → k15 h a0 x1 x2 = some res → RT E X (some .int) (some (.int res.1)) res.2 → GG l E X h 15 [(0, .ref (ad E a0)), (1, .int x1), (2, .int x2)] []) (h : Hp) (a0 : Nat) (x2 : Int32) (s0 : Int32) (oa0 : OKr a0 4) (hs : b_X4_rest_35 k15 h a0 x2 s0 = some res) (hR : RT E X (some .int) (some (.int res.1)) res.2) : GG l E X h 35 [(0, .ref (ad E a0)), (2, .int x2)] [.int s0] := by
  refine g_istore_n (lv' := [(1, .int s0), (0, .ref (ad E a0)), (2, .int x2)]) C dX4_rest_35 rfl (by decide) rfl ?_
  refine g_iload_n C 0 dX4_rest_36 rfl rfl ?_
  refine g_iconst C dX4_rest_37 cc_i_2 ?_
  refine g_icmp_ne (tgt := 45) C dX4_rest_38 (by decide) hs (fun hs => ?_) (fun hs => ?_)
  · refine g_iload_n C 2 dX4_rest_41 rfl rfl ?_
    refine g_iconst C dX4_rest_42 cc_i_2 ?_
    refine g_isub C dX4_rest_43 ?_
    have e9 := Option.some.inj hs
    subst e9
    exact g_iret C hR dX4_rest_44
  · refine g_iinc (lv' := [(2, .int (x2 + (1 : Int32))), (1, .int s0), (0, .ref (ad E a0))]) (j := 2) C dX4_rest_45 rfl (cc_n_1 _) (by decide) rfl ?_
    refine g_goto (tgt := 15) C dX4_rest_48 (by decide) ?_
    refine g_sub [2, 1, 0] rfl ?_
    exact hk15 h a0 s0 (x2 + (1 : Int32)) oa0 hs hR
set_option maxHeartbeats 4000000 in
set_option maxRecDepth 100000 in
theorem wb_X4_rest_15 {l : Launch} {E : Ep} {X : Fx} {res : Int32 × Hp} (C : CX E X RX4 cX4_rest 3 6) : ∀ (n : Nat) (h : Hp) (a0 : Nat) (x1 : Int32) (x2 : Int32) (oa0 : OKr a0 4), b_X4_rest_15  n h a0 x1 x2 = some res → RT E X (some .int) (some (.int res.1)) res.2 → GG l E X h 15 [(0, .ref (ad E a0)), (1, .int x1), (2, .int x2)] [] := by
  intro n
  induction n with
  | zero =>
    intro h a0 x1 x2 oa0
    intro hs
    exact absurd hs (by intro e; cases e)
  | succ n ih =>
    intro h a0 x1 x2 oa0 hs hR
    have hk15 := ih
    have hs : f_X4_rest_15  (b_X4_rest_15  n) h a0 x1 x2 = some res := hs
    generalize b_X4_rest_15  n = k15 at hs hk15
    refine g_iload_n C 2 dX4_rest_15 rfl rfl ?_
    refine g_bipush C dX4_rest_16 cc_b_60 ?_
    refine g_icmp_gt (tgt := 51) C dX4_rest_18 (by decide) hs (fun hs => ?_) (fun hs => ?_)
    · refine g_bipush C dX4_rest_51 cc_b_m9 ?_
      have e9 := Option.some.inj hs
      subst e9
      exact g_iret C hR dX4_rest_53
    · refine g_aload_n C 0 dX4_rest_21 rfl rfl ?_
      obtain ⟨q1, hcq1, hs⟩ := bnd hs
      refine g_cV (As := []) (rest := []) C (w_X4_quietDayInMind l E _ _ _ oa0 hcq1) mw_X4_quietDayInMind lm_X4_156 oa0 rfl (ce4 E _ (oa0).2) rfl (by decide) rfl (Nat.le_of_ble_eq_true rfl) dX4_rest_22 rfl ?_
      refine g_if_eq (tgt := 34) C dX4_rest_25 (by decide) hs (fun hs => ?_) (fun hs => ?_)
      · refine g_iconst C dX4_rest_34 cc_i_0 ?_
        refine g_sub [0, 2] rfl ?_
        exact wb_X4_rest_35 C k15 hk15 q1.2 a0 x2 (0 : Int32) oa0 hs hR
      · refine g_iload_n C 1 dX4_rest_28 rfl rfl ?_
        refine g_iconst C dX4_rest_29 cc_i_1 ?_
        refine g_iadd C dX4_rest_30 ?_
        refine g_goto (tgt := 35) C dX4_rest_31 (by decide) ?_
        refine g_sub [0, 2] rfl ?_
        exact wb_X4_rest_35 C k15 hk15 q1.2 a0 x2 (x1 + (1 : Int32)) oa0 hs hR
set_option maxHeartbeats 4000000 in
set_option maxRecDepth 100000 in
theorem w_X4_rest (l : Launch) (E : Ep) (h : Hp) (a0 : Nat) (res : Int32 × Hp) (oa0 : OKr a0 4) (hs : sh_X4_rest h a0 = some res) : MG l E yX4_rest cX4_rest 3 (some .int) 6 [.ref (ad E a0)] h (some (.int res.1)) res.2 := by
  refine MG.of (by decide) (Nat.le_of_ble_eq_true rfl) ?_
  intro X C hR
  have C : CX E X RX4 cX4_rest 3 6 := C
  show GG l E X h 0 [(0, .ref (ad E a0))] []
  refine g_aload_n C 0 dX4_rest_0 rfl rfl ?_
  refine gf4_2 C oa0 lf_X4_19 dX4_rest_1 ?_
  refine g_aload_n C 0 dX4_rest_4 rfl rfl ?_
  refine gf4_0 C oa0 lf_X4_10 dX4_rest_5 ?_
  obtain ⟨h1, hch1, hs⟩ := bnd hs
  refine g_cVN (As := [.ref (ad E (rf a0 0))]) (rest := []) C (w_X3_become l E _ _ _ _ (tg4_2 oa0) (tg4_0 oa0) hch1) mw_X3_become lm_X4_149 (tg4_2 oa0) rfl (ce3 E _ ((tg4_2 oa0)).2) rfl (by decide) rfl (Nat.le_of_ble_eq_true rfl) dX4_rest_8 rfl ?_
  refine g_iconst C dX4_rest_11 cc_i_0 ?_
  refine g_istore_n (lv' := [(1, .int (0 : Int32)), (0, .ref (ad E a0))]) C dX4_rest_12 rfl (by decide) rfl ?_
  refine g_iconst C dX4_rest_13 cc_i_1 ?_
  refine g_istore_n (lv' := [(2, .int (1 : Int32)), (1, .int (0 : Int32)), (0, .ref (ad E a0))]) C dX4_rest_14 rfl (by decide) rfl ?_
  refine g_sub [2, 1, 0] rfl ?_
  exact wb_X4_rest_15 C 1000 h1 a0 (0 : Int32) (1 : Int32) oa0 hs hR
set_option maxHeartbeats 4000000 in
set_option maxRecDepth 100000 in
theorem wb_X2_look_78 {l : Launch} {E : Ep} {X : Fx} {res : Hp} (C : CX E X RX2 cX2_look 3 1) (h : Hp) (hs : b_X2_look_78  h  = some res) (hR : RT E X none none res) : GG l E X h 78 [] [] := by
  have e9 := Option.some.inj hs
  subst e9
  exact g_vret C hR dX2_look_78
set_option maxHeartbeats 4000000 in
set_option maxRecDepth 100000 in
theorem wb_X2_look_73 {l : Launch} {E : Ep} {X : Fx} {res : Hp} (C : CX E X RX2 cX2_look 3 1) (h : Hp) (a0 : Nat) (x1 : Int32) (oa0 : OKr a0 2) (hs : b_X2_look_73  h a0 x1 = some res) (hR : RT E X none none res) : GG l E X h 73 [(0, .ref (ad E a0)), (1, .int x1)] [] := by
  refine g_aload_n C 0 dX2_look_73 rfl rfl ?_
  refine g_iload_n C 1 dX2_look_74 rfl rfl ?_
  refine pf2_7 C oa0 lf_X2_44 dX2_look_75 ?_
  refine g_sub [] rfl ?_
  exact wb_X2_look_78 C (wI h a0 7 x1) hs hR
set_option maxHeartbeats 4000000 in
set_option maxRecDepth 100000 in
theorem wb_X2_look_48 {l : Launch} {E : Ep} {X : Fx} {res : Hp} (C : CX E X RX2 cX2_look 3 1) (h : Hp) (a0 : Nat) (x1 : Int32) (x2 : Int32) (oa0 : OKr a0 2) (hs : b_X2_look_48  h a0 x1 x2 = some res) (hR : RT E X none none res) : GG l E X h 48 [(0, .ref (ad E a0)), (1, .int x1), (2, .int x2)] [] := by
  refine g_iload_n C 2 dX2_look_48 rfl rfl ?_
  refine g_aload_n C 0 dX2_look_49 rfl rfl ?_
  refine gf2_5 C oa0 lf_X2_38 dX2_look_50 ?_
  refine g_icmp_lt (tgt := 78) C dX2_look_53 (by decide) hs (fun hs => ?_) (fun hs => ?_)
  · refine g_sub [] rfl ?_
    exact wb_X2_look_78 C h hs hR
  · refine g_aload_n C 0 dX2_look_56 rfl rfl ?_
    refine gf2_7 C oa0 lf_X2_44 dX2_look_57 ?_
    refine g_bipush C dX2_look_60 cc_b_m9 ?_
    refine g_icmp_eq (tgt := 73) C dX2_look_62 (by decide) hs (fun hs => ?_) (fun hs => ?_)
    · refine g_sub [0, 1] rfl ?_
      exact wb_X2_look_73 C h a0 x1 oa0 hs hR
    · refine g_iload_n C 1 dX2_look_65 rfl rfl ?_
      refine g_aload_n C 0 dX2_look_66 rfl rfl ?_
      refine gf2_7 C oa0 lf_X2_44 dX2_look_67 ?_
      refine g_icmp_ge (tgt := 78) C dX2_look_70 (by decide) hs (fun hs => ?_) (fun hs => ?_)
      · refine g_sub [] rfl ?_
        exact wb_X2_look_78 C h hs hR
      · refine g_sub [0, 1] rfl ?_
        exact wb_X2_look_73 C h a0 x1 oa0 hs hR
set_option maxHeartbeats 4000000 in
set_option maxRecDepth 100000 in
theorem w_X2_look (l : Launch) (E : Ep) (h : Hp) (a0 : Nat) (x1 : Int32) (res : Hp) (oa0 : OKr a0 2) (hs : sh_X2_look h a0 x1 = some res) : MG l E yX2_look cX2_look 3 none 1 [.ref (ad E a0), .int x1] h none res := by
  refine MG.of (by decide) (Nat.le_of_ble_eq_true rfl) ?_
  intro X C hR
  have C : CX E X RX2 cX2_look 3 1 := C
  show GG l E X h 0 [(0, .ref (ad E a0)), (1, .int x1)] []
  refine g_aload_n C 0 dX2_look_0 rfl rfl ?_
  refine gf2_0 C oa0 lf_X2_11 dX2_look_1 ?_
  refine g_aload_n C 0 dX2_look_4 rfl rfl ?_
  refine gf2_4 C oa0 lf_X2_35 dX2_look_5 ?_
  refine g_aald C (tg2_0 oa0) dX2_look_8 hs (fun v1 ov1 hs => ?_)
  refine gf3_3N C ov1 lf_X2_59 dX2_look_9 ?_
  refine g_aload_n C 0 dX2_look_12 rfl rfl ?_
  refine gf2_3 C oa0 lf_X2_25 dX2_look_13 ?_
  refine g_iald C (tg3_3 ov1) dX2_look_16 hs (fun v2 hs => ?_)
  refine g_istore_n (lv' := [(2, .int v2), (0, .ref (ad E a0)), (1, .int x1)]) C dX2_look_17 rfl (by decide) rfl ?_
  refine g_iload_n C 0 dX2_look_18 rfl rfl ?_
  refine g_aload_n C 1 dX2_look_19 rfl rfl ?_
  refine gf2_6 C oa0 lf_X2_41 dX2_look_20 ?_
  refine g_icmp_le (tgt := 48) C dX2_look_23 (by decide) hs (fun hs => ?_) (fun hs => ?_)
  · refine g_sub [1, 2, 0] rfl ?_
    exact wb_X2_look_48 C h a0 x1 v2 oa0 hs hR
  · refine g_aload_n C 1 dX2_look_26 rfl rfl ?_
    refine g_iload_n C 0 dX2_look_27 rfl rfl ?_
    refine pf2_6 C oa0 lf_X2_41 dX2_look_28 ?_
    refine g_aload_n C 1 dX2_look_31 rfl rfl ?_
    refine gf2_1 C oa0 lf_X2_17 dX2_look_32 ?_
    refine g_iconst C dX2_look_35 cc_i_0 ?_
    refine g_aload_n C 1 dX2_look_36 rfl rfl ?_
    refine gf2_2 C oa0 lf_X2_21 dX2_look_37 ?_
    refine g_iconst C dX2_look_40 cc_i_0 ?_
    refine g_aload_n C 1 dX2_look_41 rfl rfl ?_
    refine gf2_4 C oa0 lf_X2_35 dX2_look_42 ?_
    refine g_acI C (by decide) (tg2_1 oa0) (tg2_2 oa0) dX2_look_45 lm_X2_66 kw_ac_1 kw_ac_2 kw_ac_3 (Nat.le_of_ble_eq_true rfl) hs (fun h3 hs => ?_)
    refine g_sub [1, 2, 0] rfl ?_
    exact wb_X2_look_48 C h3 a0 x1 v2 oa0 hs hR
set_option maxHeartbeats 4000000 in
set_option maxRecDepth 100000 in
theorem wb_X3_passDayOfOne_60 {l : Launch} {E : Ep} {X : Fx} {res : Hp} (C : CX E X RX3 cX3_passDayOfOne 4 4) (k2 : Hp → Nat → Int32 → Int32 → Int32 → Option (Hp)) (hk2 : ∀ (h : Hp) (a0 : Nat) (x1 : Int32) (x2 : Int32) (x3 : Int32), OKr a0 3 → k2 h a0 x1 x2 x3 = some res → RT E X none none res → GG l E X h 2 [(0, .ref (ad E a0)), (1, .int x1), (2, .int x2), (3, .int x3)] []) (h : Hp) (a0 : Nat) (x1 : Int32) (x2 : Int32) (x3 : Int32) (oa0 : OKr a0 3) (hs : b_X3_passDayOfOne_60 k2 h a0 x1 x2 x3 = some res) (hR : RT E X none none res) : GG l E X h 60 [(0, .ref (ad E a0)), (1, .int x1), (2, .int x2), (3, .int x3)] [] := by
  refine g_iinc (lv' := [(3, .int (x3 + (1 : Int32))), (0, .ref (ad E a0)), (1, .int x1), (2, .int x2)]) (j := 3) C dX3_passDayOfOne_60 rfl (cc_n_1 _) (by decide) rfl ?_
  refine g_goto (tgt := 2) C dX3_passDayOfOne_63 (by decide) ?_
  refine g_sub [1, 2, 3, 0] rfl ?_
  exact hk2 h a0 x1 x2 (x3 + (1 : Int32)) oa0 hs hR
set_option maxHeartbeats 4000000 in
set_option maxRecDepth 100000 in
theorem wb_X3_passDayOfOne_38 {l : Launch} {E : Ep} {X : Fx} {res : Hp} (C : CX E X RX3 cX3_passDayOfOne 4 4) (k2 : Hp → Nat → Int32 → Int32 → Int32 → Option (Hp)) (hk2 : ∀ (h : Hp) (a0 : Nat) (x1 : Int32) (x2 : Int32) (x3 : Int32), OKr a0 3 → k2 h a0 x1 x2 x3 = some res → RT E X none none res → GG l E X h 2 [(0, .ref (ad E a0)), (1, .int x1), (2, .int x2), (3, .int x3)] []) (h : Hp) (a0 : Nat) (x1 : Int32) (x2 : Int32) (x3 : Int32) (b0 : Nat) (s1 : Int32) (s2 : Int32) (oa0 : OKr a0 3) (ob0 : OKr b0 3) (hs : b_X3_passDayOfOne_38 k2 h a0 x1 x2 x3 b0 s1 s2 = some res) (hR : RT E X none none res) : GG l E X h 38 [(0, .ref (ad E a0)), (1, .int x1), (2, .int x2), (3, .int x3)] [.int s2, .int s1, .ref (ad E b0)] := by
  refine g_iload_n C 2 dX3_passDayOfOne_38 rfl rfl ?_
  obtain ⟨h1, hch1, hs⟩ := bnd hs
  refine g_cV (As := [.int s1, .int s2, .int x2]) (rest := []) C (w_X3_handIfAny l E _ _ _ _ _ _ ob0 hch1) mw_X3_handIfAny lm_X3_133 ob0 rfl (ce3 E _ (ob0).2) rfl (by decide) rfl (Nat.le_of_ble_eq_true rfl) dX3_passDayOfOne_39 rfl ?_
  refine g_goto (tgt := 60) C dX3_passDayOfOne_42 (by decide) ?_
  exact wb_X3_passDayOfOne_60 C k2 hk2 h1 a0 x1 x2 x3 oa0 hs hR
set_option maxHeartbeats 4000000 in
set_option maxRecDepth 100000 in
theorem wb_X3_passDayOfOne_2 {l : Launch} {E : Ep} {X : Fx} {res : Hp} (C : CX E X RX3 cX3_passDayOfOne 4 4) : ∀ (n : Nat) (h : Hp) (a0 : Nat) (x1 : Int32) (x2 : Int32) (x3 : Int32) (oa0 : OKr a0 3), b_X3_passDayOfOne_2  n h a0 x1 x2 x3 = some res → RT E X none none res → GG l E X h 2 [(0, .ref (ad E a0)), (1, .int x1), (2, .int x2), (3, .int x3)] [] := by
  intro n
  induction n with
  | zero =>
    intro h a0 x1 x2 x3 oa0
    intro hs
    exact absurd hs (by intro e; cases e)
  | succ n ih =>
    intro h a0 x1 x2 x3 oa0 hs hR
    have hk2 := ih
    have hs : f_X3_passDayOfOne_2  (b_X3_passDayOfOne_2  n) h a0 x1 x2 x3 = some res := hs
    generalize b_X3_passDayOfOne_2  n = k2 at hs hk2
    refine g_iload_n C 3 dX3_passDayOfOne_2 rfl rfl ?_
    refine g_aload_n C 0 dX3_passDayOfOne_3 rfl rfl ?_
    refine gf3_7 C oa0 lf_X3_47 dX3_passDayOfOne_4 ?_
    refine g_icmp_ge (tgt := 66) C dX3_passDayOfOne_7 (by decide) hs (fun hs => ?_) (fun hs => ?_)
    · refine g_aload_n C 0 dX3_passDayOfOne_66 rfl rfl ?_
      obtain ⟨q1, hcq1, hs⟩ := bnd hs
      refine g_cV (As := []) (rest := []) C (w_X3_endDay l E _ _ _ oa0 hcq1) mw_X3_endDay lm_X3_136 oa0 rfl (ce3 E _ (oa0).2) rfl (by decide) rfl (Nat.le_of_ble_eq_true rfl) dX3_passDayOfOne_67 rfl ?_
      refine g_pop C dX3_passDayOfOne_70 rfl ?_
      have e9 := Option.some.inj hs
      subst e9
      exact g_vret C hR dX3_passDayOfOne_71
    · refine g_iload_n C 3 dX3_passDayOfOne_10 rfl rfl ?_
      refine g_iload_n C 1 dX3_passDayOfOne_11 rfl rfl ?_
      refine g_icmp_ne (tgt := 45) C dX3_passDayOfOne_12 (by decide) hs (fun hs => ?_) (fun hs => ?_)
      · refine g_aload_n C 0 dX3_passDayOfOne_15 rfl rfl ?_
        refine g_iload_n C 3 dX3_passDayOfOne_16 rfl rfl ?_
        refine g_aload_n C 0 dX3_passDayOfOne_17 rfl rfl ?_
        refine gf3_2 C oa0 lf_X3_18 dX3_passDayOfOne_18 ?_
        refine g_iload_n C 3 dX3_passDayOfOne_21 rfl rfl ?_
        refine g_iald C (tg3_2 oa0) dX3_passDayOfOne_22 hs (fun v2 hs => ?_)
        refine g_iload_n C 3 dX3_passDayOfOne_23 rfl rfl ?_
        refine g_icmp_ne (tgt := 32) C dX3_passDayOfOne_24 (by decide) hs (fun hs => ?_) (fun hs => ?_)
        · refine g_bipush C dX3_passDayOfOne_27 cc_b_9 ?_
          refine g_goto (tgt := 38) C dX3_passDayOfOne_29 (by decide) ?_
          exact wb_X3_passDayOfOne_38 C k2 hk2 h a0 x1 x2 x3 a0 x3 (9 : Int32) oa0 oa0 hs hR
        · refine g_aload_n C 0 dX3_passDayOfOne_32 rfl rfl ?_
          refine gf3_2 C oa0 lf_X3_18 dX3_passDayOfOne_33 ?_
          refine g_iload_n C 3 dX3_passDayOfOne_36 rfl rfl ?_
          refine g_iald C (tg3_2 oa0) dX3_passDayOfOne_37 hs (fun v3 hs => ?_)
          exact wb_X3_passDayOfOne_38 C k2 hk2 h a0 x1 x2 x3 a0 x3 v3 oa0 oa0 hs hR
      · refine g_aload_n C 0 dX3_passDayOfOne_45 rfl rfl ?_
        refine g_iload_n C 3 dX3_passDayOfOne_46 rfl rfl ?_
        refine g_aload_n C 0 dX3_passDayOfOne_47 rfl rfl ?_
        refine g_iload_n C 3 dX3_passDayOfOne_48 rfl rfl ?_
        obtain ⟨v4, hcv4, hs⟩ := bnd hs
        refine g_cV (As := [.int x3]) (rest := [.int x3, .ref (ad E a0)]) C (w_X3_takerByKind l E _ _ _ _ oa0 hcv4) mw_X3_takerByKind lm_X3_112 oa0 rfl (ce3 E _ (oa0).2) rfl (by decide) rfl (Nat.le_of_ble_eq_true rfl) dX3_passDayOfOne_49 rfl ?_
        refine g_aload_n C 0 dX3_passDayOfOne_52 rfl rfl ?_
        refine g_iload_n C 3 dX3_passDayOfOne_53 rfl rfl ?_
        obtain ⟨v5, hcv5, hs⟩ := bnd hs
        refine g_cV (As := [.int x3]) (rest := [.int v4, .int x3, .ref (ad E a0)]) C (w_X3_amountByKind l E _ _ _ _ oa0 hcv5) mw_X3_amountByKind lm_X3_115 oa0 rfl (ce3 E _ (oa0).2) rfl (by decide) rfl (Nat.le_of_ble_eq_true rfl) dX3_passDayOfOne_54 rfl ?_
        obtain ⟨h6, hch6, hs⟩ := bnd hs
        refine g_cV (As := [.int x3, .int v4, .int v5]) (rest := []) C (w_X3_handIfAny l E _ _ _ _ _ _ oa0 hch6) mw_X3_handIfAny lm_X3_133 oa0 rfl (ce3 E _ (oa0).2) rfl (by decide) rfl (Nat.le_of_ble_eq_true rfl) dX3_passDayOfOne_57 rfl ?_
        exact wb_X3_passDayOfOne_60 C k2 hk2 h6 a0 x1 x2 x3 oa0 hs hR
set_option maxHeartbeats 4000000 in
set_option maxRecDepth 100000 in
theorem w_X3_passDayOfOne (l : Launch) (E : Ep) (h : Hp) (a0 : Nat) (x1 : Int32) (x2 : Int32) (res : Hp) (oa0 : OKr a0 3) (hs : sh_X3_passDayOfOne h a0 x1 x2 = some res) : MG l E yX3_passDayOfOne cX3_passDayOfOne 4 none 4 [.ref (ad E a0), .int x1, .int x2] h none res := by
  refine MG.of (by decide) (Nat.le_of_ble_eq_true rfl) ?_
  intro X C hR
  have C : CX E X RX3 cX3_passDayOfOne 4 4 := C
  show GG l E X h 0 [(0, .ref (ad E a0)), (1, .int x1), (2, .int x2)] []
  refine g_iconst C dX3_passDayOfOne_0 cc_i_0 ?_
  refine g_istore_n (lv' := [(3, .int (0 : Int32)), (0, .ref (ad E a0)), (1, .int x1), (2, .int x2)]) C dX3_passDayOfOne_1 rfl (by decide) rfl ?_
  refine g_sub [1, 2, 3, 0] rfl ?_
  exact wb_X3_passDayOfOne_2 C 1000 h a0 x1 x2 (0 : Int32) oa0 hs hR
set_option maxHeartbeats 4000000 in
set_option maxRecDepth 100000 in
theorem wb_X2_explore_109 {l : Launch} {E : Ep} {X : Fx} {nf : Nat} {res : Hp} (C : CX E X RX2 cX2_explore 8 (5 + (nf + 1))) (self : Hp → Nat → Int32 → Int32 → Option (Hp)) (hself : ∀ (h : Hp) (z0 : Nat) (z1 : Int32) (z2 : Int32) (res : Hp), OKr z0 2 → self h z0 z1 z2 = some res → MG l E yX2_explore cX2_explore 8 none (5 + nf) [.ref (ad E z0), .int z1, .int z2] h none res) (k35 : Hp → Nat → Int32 → Int32 → Nat → Int32 → Int32 → Option (Hp)) (hk35 : ∀ (h : Hp) (a0 : Nat) (x1 : Int32) (x2 : Int32) (a3 : Nat) (x4 : Int32) (x5 : Int32), OKr a0 2 → OKr a3 3 → k35 h a0 x1 x2 a3 x4 x5 = some res → RT E X none none res → GG l E X h 35 [(0, .ref (ad E a0)), (1, .int x1), (2, .int x2), (3, .ref (ad E a3)), (4, .int x4), (5, .int x5)] []) (h : Hp) (a0 : Nat) (x1 : Int32) (x2 : Int32) (a3 : Nat) (x4 : Int32) (x5 : Int32) (oa0 : OKr a0 2) (oa3 : OKr a3 3) (hs : b_X2_explore_109 self k35 h a0 x1 x2 a3 x4 x5 = some res) (hR : RT E X none none res) : GG l E X h 109 [(0, .ref (ad E a0)), (1, .int x1), (2, .int x2), (3, .ref (ad E a3)), (4, .int x4), (5, .int x5)] [] := by
  refine g_iinc (lv' := [(5, .int (x5 + (1 : Int32))), (0, .ref (ad E a0)), (1, .int x1), (2, .int x2), (3, .ref (ad E a3)), (4, .int x4)]) (j := 5) C dX2_explore_109 rfl (cc_n_1 _) (by decide) rfl ?_
  refine g_goto (tgt := 35) C dX2_explore_112 (by decide) ?_
  refine g_sub [1, 2, 3, 4, 5, 0] rfl ?_
  exact hk35 h a0 x1 x2 a3 x4 (x5 + (1 : Int32)) oa0 oa3 hs hR
set_option maxHeartbeats 4000000 in
set_option maxRecDepth 100000 in
theorem wb_X2_explore_63 {l : Launch} {E : Ep} {X : Fx} {nf : Nat} {res : Hp} (C : CX E X RX2 cX2_explore 8 (5 + (nf + 1))) (self : Hp → Nat → Int32 → Int32 → Option (Hp)) (hself : ∀ (h : Hp) (z0 : Nat) (z1 : Int32) (z2 : Int32) (res : Hp), OKr z0 2 → self h z0 z1 z2 = some res → MG l E yX2_explore cX2_explore 8 none (5 + nf) [.ref (ad E z0), .int z1, .int z2] h none res) (k35 : Hp → Nat → Int32 → Int32 → Nat → Int32 → Int32 → Option (Hp)) (hk35 : ∀ (h : Hp) (a0 : Nat) (x1 : Int32) (x2 : Int32) (a3 : Nat) (x4 : Int32) (x5 : Int32), OKr a0 2 → OKr a3 3 → k35 h a0 x1 x2 a3 x4 x5 = some res → RT E X none none res → GG l E X h 35 [(0, .ref (ad E a0)), (1, .int x1), (2, .int x2), (3, .ref (ad E a3)), (4, .int x4), (5, .int x5)] []) (h : Hp) (a0 : Nat) (x1 : Int32) (x2 : Int32) (a3 : Nat) (x4 : Int32) (x5 : Int32) (x6 : Int32) (oa0 : OKr a0 2) (oa3 : OKr a3 3) (hs : b_X2_explore_63 self k35 h a0 x1 x2 a3 x4 x5 x6 = some res) (hR : RT E X none none res) : GG l E X h 63 [(0, .ref (ad E a0)), (1, .int x1), (2, .int x2), (3, .ref (ad E a3)), (4, .int x4), (5, .int x5), (6, .int x6)] [] := by
  refine g_aload_n C 0 dX2_explore_63 rfl rfl ?_
  refine gf2_1 C oa0 lf_X2_17 dX2_explore_64 ?_
  refine g_iload_n C 1 dX2_explore_67 rfl rfl ?_
  refine g_iload C 5 dX2_explore_68 rfl ?_
  refine g_iast C (tg2_1 oa0) dX2_explore_70 hs (fun h1 hs => ?_)
  refine g_aload_n C 0 dX2_explore_71 rfl rfl ?_
  refine gf2_0 C oa0 lf_X2_11 dX2_explore_72 ?_
  refine g_iload_n C 1 dX2_explore_75 rfl rfl ?_
  refine g_iconst C dX2_explore_76 cc_i_1 ?_
  refine g_iadd C dX2_explore_77 ?_
  refine g_aald C (tg2_0 oa0) dX2_explore_78 hs (fun v2 ov2 hs => ?_)
  refine g_astore (lv' := [(7, .ref (ad E v2)), (0, .ref (ad E a0)), (1, .int x1), (2, .int x2), (3, .ref (ad E a3)), (4, .int x4), (5, .int x5), (6, .int x6)]) C dX2_explore_79 (by decide) rfl ?_
  refine g_aload C 0 dX2_explore_81 rfl ?_
  refine g_aload_n C 4 dX2_explore_83 rfl rfl ?_
  obtain ⟨h3, hch3, hs⟩ := bnd hs
  refine g_cVN (As := [.ref (ad E a3)]) (rest := []) C (w_X3_become l E _ _ _ _ ov2 oa3 hch3) mw_X3_become lm_X2_47 ov2 rfl (ce3 E _ (ov2).2) rfl (by omega) rfl (Nat.le_of_ble_eq_true rfl) dX2_explore_84 rfl ?_
  refine g_aload C 0 dX2_explore_87 rfl ?_
  refine g_aload_n C 1 dX2_explore_89 rfl rfl ?_
  refine gf2_3 C oa0 lf_X2_25 dX2_explore_90 ?_
  refine g_iload C 7 dX2_explore_93 rfl ?_
  obtain ⟨h4, hch4, hs⟩ := bnd hs
  refine g_cVN (As := [.int (h3.1 a0 3), .int x6]) (rest := []) C (w_X3_passDayOfOne l E _ _ _ _ _ ov2 hch4) mw_X3_passDayOfOne lm_X2_62 ov2 rfl (ce3 E _ (ov2).2) rfl (by omega) rfl (Nat.le_of_ble_eq_true rfl) dX2_explore_95 rfl ?_
  refine g_aload_n C 1 dX2_explore_98 rfl rfl ?_
  refine g_iload_n C 2 dX2_explore_99 rfl rfl ?_
  refine g_iconst C dX2_explore_100 cc_i_1 ?_
  refine g_iadd C dX2_explore_101 ?_
  refine g_iload_n C 3 dX2_explore_102 rfl rfl ?_
  refine g_iload C 7 dX2_explore_103 rfl ?_
  refine g_iadd C dX2_explore_105 ?_
  obtain ⟨h5, hch5, hs⟩ := bnd hs
  refine g_cS (As := [.ref (ad E a0), .int (x1 + (1 : Int32)), .int (x2 + x6)]) (rest := []) C (hself _ _ _ _ _ oa0 hch5) mw_X2_explore lm_X2_51 rfl (by omega) rfl (Nat.le_of_ble_eq_true rfl) dX2_explore_106 rfl ?_
  refine g_sub [1, 2, 3, 4, 5, 6] rfl ?_
  exact wb_X2_explore_109 C self hself k35 hk35 h5 a0 x1 x2 a3 x4 x5 oa0 oa3 hs hR
set_option maxHeartbeats 4000000 in
set_option maxRecDepth 100000 in
theorem wb_X2_explore_35 {l : Launch} {E : Ep} {X : Fx} {nf : Nat} {res : Hp} (C : CX E X RX2 cX2_explore 8 (5 + (nf + 1))) (self : Hp → Nat → Int32 → Int32 → Option (Hp)) (hself : ∀ (h : Hp) (z0 : Nat) (z1 : Int32) (z2 : Int32) (res : Hp), OKr z0 2 → self h z0 z1 z2 = some res → MG l E yX2_explore cX2_explore 8 none (5 + nf) [.ref (ad E z0), .int z1, .int z2] h none res) : ∀ (n : Nat) (h : Hp) (a0 : Nat) (x1 : Int32) (x2 : Int32) (a3 : Nat) (x4 : Int32) (x5 : Int32) (oa0 : OKr a0 2) (oa3 : OKr a3 3), b_X2_explore_35 self n h a0 x1 x2 a3 x4 x5 = some res → RT E X none none res → GG l E X h 35 [(0, .ref (ad E a0)), (1, .int x1), (2, .int x2), (3, .ref (ad E a3)), (4, .int x4), (5, .int x5)] [] := by
  intro n
  induction n with
  | zero =>
    intro h a0 x1 x2 a3 x4 x5 oa0 oa3
    intro hs
    exact absurd hs (by intro e; cases e)
  | succ n ih =>
    intro h a0 x1 x2 a3 x4 x5 oa0 oa3 hs hR
    have hk35 := ih
    have hs : f_X2_explore_35 self (b_X2_explore_35 self n) h a0 x1 x2 a3 x4 x5 = some res := hs
    generalize b_X2_explore_35 self n = k35 at hs hk35
    refine g_iload C 5 dX2_explore_35 rfl ?_
    refine g_iconst C dX2_explore_37 cc_i_2 ?_
    refine g_icmp_gt (tgt := 115) C dX2_explore_38 (by decide) hs (fun hs => ?_) (fun hs => ?_)
    · have e9 := Option.some.inj hs
      subst e9
      exact g_vret C hR dX2_explore_115
    · refine g_iload C 4 dX2_explore_41 rfl ?_
      refine g_iload C 5 dX2_explore_43 rfl ?_
      refine g_imul C dX2_explore_45 ?_
      refine g_iconst C dX2_explore_46 cc_i_2 ?_
      refine g_idivC C dX2_explore_47 (by decide) ?_
      refine g_istore (lv' := [(6, .int ((x4 * x5) / (2 : Int32))), (0, .ref (ad E a0)), (1, .int x1), (2, .int x2), (3, .ref (ad E a3)), (4, .int x4), (5, .int x5)]) C dX2_explore_48 (by decide) rfl ?_
      refine g_iload C 6 dX2_explore_50 rfl ?_
      refine g_if_le (tgt := 63) C dX2_explore_52 (by decide) hs (fun hs => ?_) (fun hs => ?_)
      · refine g_sub [1, 2, 3, 4, 5, 6, 0] rfl ?_
        exact wb_X2_explore_63 C self hself k35 hk35 h a0 x1 x2 a3 x4 x5 ((x4 * x5) / (2 : Int32)) oa0 oa3 hs hR
      · refine g_iload C 0 dX2_explore_55 rfl ?_
        refine g_if_ne (tgt := 63) C dX2_explore_57 (by decide) hs (fun hs => ?_) (fun hs => ?_)
        · refine g_goto (tgt := 109) C dX2_explore_60 (by decide) ?_
          refine g_sub [1, 2, 3, 4, 5, 6] rfl ?_
          exact wb_X2_explore_109 C self hself k35 hk35 h a0 x1 x2 a3 x4 x5 oa0 oa3 hs hR
        · refine g_sub [1, 2, 3, 4, 5, 6, 0] rfl ?_
          exact wb_X2_explore_63 C self hself k35 hk35 h a0 x1 x2 a3 x4 x5 ((x4 * x5) / (2 : Int32)) oa0 oa3 hs hR
set_option maxHeartbeats 4000000 in
set_option maxRecDepth 100000 in
theorem w_X2_explore (l : Launch) (E : Ep) : ∀ (nf : Nat) (h : Hp) (a0 : Nat) (x1 : Int32) (x2 : Int32) (res : Hp) (oa0 : OKr a0 2), sh_X2_explore nf h a0 x1 x2 = some res → MG l E yX2_explore cX2_explore 8 none (5 + nf) [.ref (ad E a0), .int x1, .int x2] h none res := by
  intro nf
  induction nf with
  | zero =>
    intro h a0 x1 x2 res oa0 hs
    cases hs
  | succ nf ih =>
    intro h a0 x1 x2 res oa0 hs
    have hself := ih
    have hs : g_X2_explore (sh_X2_explore nf) h a0 x1 x2 = some res := hs
    generalize sh_X2_explore nf = self at hself hs
    refine MG.of (by decide) (Nat.le_of_ble_eq_true rfl) ?_
    intro X C hR
    have C : CX E X RX2 cX2_explore 8 (5 + (nf + 1)) := C
    show GG l E X h 0 [(0, .ref (ad E a0)), (1, .int x1), (2, .int x2)] []
    refine g_iload_n C 1 dX2_explore_0 rfl rfl ?_
    refine g_aload_n C 0 dX2_explore_1 rfl rfl ?_
    refine gf2_4 C oa0 lf_X2_35 dX2_explore_2 ?_
    refine g_icmp_lt (tgt := 14) C dX2_explore_5 (by decide) hs (fun hs => ?_) (fun hs => ?_)
    · refine g_aload_n C 0 dX2_explore_14 rfl rfl ?_
      refine gf2_0 C oa0 lf_X2_11 dX2_explore_15 ?_
      refine g_iload_n C 1 dX2_explore_18 rfl rfl ?_
      refine g_aald C (tg2_0 oa0) dX2_explore_19 hs (fun v1 ov1 hs => ?_)
      refine g_astore_n (lv' := [(3, .ref (ad E v1)), (0, .ref (ad E a0)), (1, .int x1), (2, .int x2)]) C dX2_explore_20 rfl (by decide) rfl ?_
      refine g_aload_n C 0 dX2_explore_21 rfl rfl ?_
      refine gf3_3N C ov1 lf_X2_59 dX2_explore_22 ?_
      refine g_aload_n C 1 dX2_explore_25 rfl rfl ?_
      refine gf2_3 C oa0 lf_X2_25 dX2_explore_26 ?_
      refine g_iald C (tg3_3 ov1) dX2_explore_29 hs (fun v2 hs => ?_)
      refine g_istore (lv' := [(4, .int v2), (3, .ref (ad E v1)), (0, .ref (ad E a0)), (1, .int x1), (2, .int x2)]) C dX2_explore_30 (by decide) rfl ?_
      refine g_iconst C dX2_explore_32 cc_i_0 ?_
      refine g_istore (lv' := [(5, .int (0 : Int32)), (4, .int v2), (3, .ref (ad E v1)), (0, .ref (ad E a0)), (1, .int x1), (2, .int x2)]) C dX2_explore_33 (by decide) rfl ?_
      refine g_sub [3, 4, 5, 2, 1, 0] rfl ?_
      exact wb_X2_explore_35 C self hself 1000 h a0 x1 x2 v1 v2 (0 : Int32) oa0 ov1 hs hR
    · refine g_aload_n C 0 dX2_explore_8 rfl rfl ?_
      refine g_iload_n C 2 dX2_explore_9 rfl rfl ?_
      obtain ⟨h3, hch3, hs⟩ := bnd hs
      refine g_cV (As := [.int x2]) (rest := []) C (w_X2_look l E _ _ _ _ oa0 hch3) mw_X2_look lm_X2_55 oa0 rfl (ce2 E _ (oa0).2) rfl (by omega) rfl (Nat.le_of_ble_eq_true rfl) dX2_explore_10 rfl ?_
      have e9 := Option.some.inj hs
      subst e9
      exact g_vret C hR dX2_explore_13
set_option maxHeartbeats 4000000 in
set_option maxRecDepth 100000 in
theorem w_X2_run (l : Launch) (E : Ep) (h : Hp) (a0 : Nat) (a1 : Nat) (x2 : Int32) (x3 : Int32) (x4 : Int32) (res : Hp) (oa0 : OKr a0 2) (oa1 : OKr a1 3) (hs : sh_X2_run h a0 a1 x2 x3 x4 = some res) : MG l E yX2_run cX2_run 5 none 14 [.ref (ad E a0), .ref (ad E a1), .int x2, .int x3, .int x4] h none res := by
  refine MG.of (by decide) (Nat.le_of_ble_eq_true rfl) ?_
  intro X C hR
  have C : CX E X RX2 cX2_run 5 14 := C
  show GG l E X h 0 [(0, .ref (ad E a0)), (1, .ref (ad E a1)), (2, .int x2), (3, .int x3), (4, .int x4)] []
  refine g_aload_n C 0 dX2_run_0 rfl rfl ?_
  refine g_iload_n C 2 dX2_run_1 rfl rfl ?_
  refine pf2_3 C oa0 lf_X2_25 dX2_run_2 ?_
  refine g_aload_n C 0 dX2_run_5 rfl rfl ?_
  refine g_iload_n C 3 dX2_run_6 rfl rfl ?_
  refine g_bipush C dX2_run_7 cc_b_6 ?_
  refine g_mmin C (by decide) dX2_run_9 lm_X2_29 kw_mmin_1 kw_math kw_mmin_2 (Nat.le_of_ble_eq_true rfl) ?_
  refine pf2_4 C oa0 lf_X2_35 dX2_run_12 ?_
  refine g_aload_n C 0 dX2_run_15 rfl rfl ?_
  refine g_iload C 4 dX2_run_16 rfl ?_
  refine pf2_5 C oa0 lf_X2_38 dX2_run_18 ?_
  refine g_aload_n C 0 dX2_run_21 rfl rfl ?_
  refine g_bipush C dX2_run_22 cc_b_m9 ?_
  refine pf2_6 C oa0 lf_X2_41 dX2_run_24 ?_
  refine g_aload_n C 0 dX2_run_27 rfl rfl ?_
  refine g_bipush C dX2_run_28 cc_b_m9 ?_
  refine pf2_7 C oa0 lf_X2_44 dX2_run_30 ?_
  refine g_aload_n C 0 dX2_run_33 rfl rfl ?_
  refine gf2_0 C oa0 lf_X2_11 dX2_run_34 ?_
  refine g_iconst C dX2_run_37 cc_i_0 ?_
  refine g_aald C (tg2_0 oa0) dX2_run_38 hs (fun v1 ov1 hs => ?_)
  refine g_aload_n C 1 dX2_run_39 rfl rfl ?_
  obtain ⟨h2, hch2, hs⟩ := bnd hs
  refine g_cVN (As := [.ref (ad E a1)]) (rest := []) C (w_X3_become l E _ _ _ _ ov1 oa1 hch2) mw_X3_become lm_X2_47 ov1 rfl (ce3 E _ (ov1).2) rfl (by decide) rfl (Nat.le_of_ble_eq_true rfl) dX2_run_40 rfl ?_
  refine g_aload_n C 0 dX2_run_43 rfl rfl ?_
  refine g_iconst C dX2_run_44 cc_i_0 ?_
  refine g_iconst C dX2_run_45 cc_i_0 ?_
  obtain ⟨h3, hch3, hs⟩ := bnd hs
  refine g_cS (As := [.ref (ad E a0), .int (0 : Int32), .int (0 : Int32)]) (rest := []) C (w_X2_explore l E 8 _ _ _ _ _ oa0 hch3) mw_X2_explore lm_X2_51 rfl (by decide) rfl (Nat.le_of_ble_eq_true rfl) dX2_run_46 rfl ?_
  have e9 := Option.some.inj hs
  subst e9
  exact g_vret C hR dX2_run_49
set_option maxHeartbeats 4000000 in
set_option maxRecDepth 100000 in
theorem w_X4_most (l : Launch) (E : Ep) (h : Hp) (a0 : Nat) (x1 : Int32) (x2 : Int32) (res : Int32 × Hp) (oa0 : OKr a0 4) (hs : sh_X4_most h a0 x1 x2 = some res) : MG l E yX4_most cX4_most 4 (some .int) 15 [.ref (ad E a0), .int x1, .int x2] h (some (.int res.1)) res.2 := by
  refine MG.of (by decide) (Nat.le_of_ble_eq_true rfl) ?_
  intro X C hR
  have C : CX E X RX4 cX4_most 4 15 := C
  show GG l E X h 0 [(0, .ref (ad E a0)), (1, .int x1), (2, .int x2)] []
  refine g_aload_n C 0 dX4_most_0 rfl rfl ?_
  refine g_iload_n C 1 dX4_most_1 rfl rfl ?_
  refine g_iload_n C 2 dX4_most_2 rfl rfl ?_
  refine g_iconst C dX4_most_3 cc_i_1 ?_
  refine g_bipush C dX4_most_4 cc_b_6 ?_
  obtain ⟨v1, hcv1, hs⟩ := bnd hs
  refine g_cV (As := [.int x1, .int x2, .int (1 : Int32), .int (6 : Int32)]) (rest := []) C (w_X4_ofOneRefusal l E _ _ _ _ _ _ _ oa0 hcv1) mw_X4_ofOneRefusal lm_X4_138 oa0 rfl (ce4 E _ (oa0).2) rfl (by decide) rfl (Nat.le_of_ble_eq_true rfl) dX4_most_6 rfl ?_
  refine g_istore_n (lv' := [(3, .int v1), (0, .ref (ad E a0)), (1, .int x1), (2, .int x2)]) C dX4_most_9 rfl (by decide) rfl ?_
  refine g_iload_n C 0 dX4_most_10 rfl rfl ?_
  refine g_if_eq (tgt := 20) C dX4_most_11 (by decide) hs (fun hs => ?_) (fun hs => ?_)
  · refine g_aload_n C 1 dX4_most_20 rfl rfl ?_
    refine gf4_3 C oa0 lf_X4_25 dX4_most_21 ?_
    refine g_aload_n C 1 dX4_most_24 rfl rfl ?_
    refine gf4_0 C oa0 lf_X4_10 dX4_most_25 ?_
    refine g_iload_n C 2 dX4_most_28 rfl rfl ?_
    refine g_iload_n C 3 dX4_most_29 rfl rfl ?_
    refine g_iconst C dX4_most_30 cc_i_0 ?_
    obtain ⟨h2, hch2, hs⟩ := bnd hs
    refine g_cVN (As := [.ref (ad E (rf a0 0)), .int x1, .int x2, .int (0 : Int32)]) (rest := []) C (w_X2_run l E _ _ _ _ _ _ _ (tg4_3 oa0) (tg4_0 oa0) hch2) mw_X2_run lm_X4_159 (tg4_3 oa0) rfl (ce2 E _ ((tg4_3 oa0)).2) rfl (by decide) rfl (Nat.le_of_ble_eq_true rfl) dX4_most_31 rfl ?_
    refine g_aload_n C 1 dX4_most_34 rfl rfl ?_
    refine gf4_3 C oa0 lf_X4_25 dX4_most_35 ?_
    refine gf2_6N C (tg4_3 oa0) lf_X4_163 dX4_most_38 ?_
    have e9 := Option.some.inj hs
    subst e9
    exact g_iret C hR dX4_most_41
  · refine g_aload_n C 1 dX4_most_14 rfl rfl ?_
    refine g_iload_n C 0 dX4_most_15 rfl rfl ?_
    obtain ⟨q3, hcq3, hs⟩ := bnd hs
    refine g_cV (As := [.int v1]) (rest := []) C (w_X4_refuse l E _ _ _ _ oa0 hcq3) mw_X4_refuse lm_X4_46 oa0 rfl (ce4 E _ (oa0).2) rfl (by decide) rfl (Nat.le_of_ble_eq_true rfl) dX4_most_16 rfl ?_
    have e9 := Option.some.inj hs
    subst e9
    exact g_iret C hR dX4_most_19
set_option maxHeartbeats 4000000 in
set_option maxRecDepth 100000 in
theorem wb_X4_choice_25 {l : Launch} {E : Ep} {X : Fx} {res : Int32 × Hp} (C : CX E X RX4 cX4_choice 5 15) (h : Hp) (a0 : Nat) (x1 : Int32) (x2 : Int32) (x3 : Int32) (x4 : Int32) (oa0 : OKr a0 4) (hs : b_X4_choice_25  h a0 x1 x2 x3 x4 = some res) (hR : RT E X (some .int) (some (.int res.1)) res.2) : GG l E X h 25 [(0, .ref (ad E a0)), (1, .int x1), (2, .int x2), (3, .int x3), (4, .int x4)] [] := by
  refine g_iload C 4 dX4_choice_25 rfl ?_
  refine g_if_eq (tgt := 37) C dX4_choice_27 (by decide) hs (fun hs => ?_) (fun hs => ?_)
  · refine g_iload_n C 3 dX4_choice_37 rfl rfl ?_
    refine g_iload_n C 2 dX4_choice_38 rfl rfl ?_
    refine g_icmp_lt (tgt := 45) C dX4_choice_39 (by decide) hs (fun hs => ?_) (fun hs => ?_)
    · refine g_aload_n C 0 dX4_choice_45 rfl rfl ?_
      refine gf4_3 C oa0 lf_X4_25 dX4_choice_46 ?_
      refine g_aload_n C 0 dX4_choice_49 rfl rfl ?_
      refine gf4_0 C oa0 lf_X4_10 dX4_choice_50 ?_
      refine g_iload_n C 1 dX4_choice_53 rfl rfl ?_
      refine g_iload_n C 2 dX4_choice_54 rfl rfl ?_
      refine g_iconst C dX4_choice_55 cc_i_0 ?_
      obtain ⟨h1, hch1, hs⟩ := bnd hs
      refine g_cVN (As := [.ref (ad E (rf a0 0)), .int x1, .int x2, .int (0 : Int32)]) (rest := []) C (w_X2_run l E _ _ _ _ _ _ _ (tg4_3 oa0) (tg4_0 oa0) hch1) mw_X2_run lm_X4_159 (tg4_3 oa0) rfl (ce2 E _ ((tg4_3 oa0)).2) rfl (by decide) rfl (Nat.le_of_ble_eq_true rfl) dX4_choice_56 rfl ?_
      refine g_aload_n C 0 dX4_choice_59 rfl rfl ?_
      refine gf4_3 C oa0 lf_X4_25 dX4_choice_60 ?_
      refine gf2_2N C (tg4_3 oa0) lf_X4_166 dX4_choice_63 ?_
      refine g_iload_n C 3 dX4_choice_66 rfl rfl ?_
      refine g_iald C (tg2_2 (tg4_3 oa0)) dX4_choice_67 hs (fun v2 hs => ?_)
      have e9 := Option.some.inj hs
      subst e9
      exact g_iret C hR dX4_choice_68
    · refine g_bipush C dX4_choice_42 cc_b_m9 ?_
      have e9 := Option.some.inj hs
      subst e9
      exact g_iret C hR dX4_choice_44
  · refine g_aload_n C 0 dX4_choice_30 rfl rfl ?_
    refine g_iload C 4 dX4_choice_31 rfl ?_
    obtain ⟨q3, hcq3, hs⟩ := bnd hs
    refine g_cV (As := [.int x4]) (rest := []) C (w_X4_refuse l E _ _ _ _ oa0 hcq3) mw_X4_refuse lm_X4_46 oa0 rfl (ce4 E _ (oa0).2) rfl (by decide) rfl (Nat.le_of_ble_eq_true rfl) dX4_choice_33 rfl ?_
    have e9 := Option.some.inj hs
    subst e9
    exact g_iret C hR dX4_choice_36
set_option maxHeartbeats 4000000 in
set_option maxRecDepth 100000 in
theorem w_X4_choice (l : Launch) (E : Ep) (h : Hp) (a0 : Nat) (x1 : Int32) (x2 : Int32) (x3 : Int32) (res : Int32 × Hp) (oa0 : OKr a0 4) (hs : sh_X4_choice h a0 x1 x2 x3 = some res) : MG l E yX4_choice cX4_choice 5 (some .int) 15 [.ref (ad E a0), .int x1, .int x2, .int x3] h (some (.int res.1)) res.2 := by
  refine MG.of (by decide) (Nat.le_of_ble_eq_true rfl) ?_
  intro X C hR
  have C : CX E X RX4 cX4_choice 5 15 := C
  show GG l E X h 0 [(0, .ref (ad E a0)), (1, .int x1), (2, .int x2), (3, .int x3)] []
  refine g_aload_n C 0 dX4_choice_0 rfl rfl ?_
  refine g_iload_n C 1 dX4_choice_1 rfl rfl ?_
  refine g_iload_n C 2 dX4_choice_2 rfl rfl ?_
  refine g_iconst C dX4_choice_3 cc_i_1 ?_
  refine g_bipush C dX4_choice_4 cc_b_6 ?_
  obtain ⟨v1, hcv1, hs⟩ := bnd hs
  refine g_cV (As := [.int x1, .int x2, .int (1 : Int32), .int (6 : Int32)]) (rest := []) C (w_X4_ofOneRefusal l E _ _ _ _ _ _ _ oa0 hcv1) mw_X4_ofOneRefusal lm_X4_138 oa0 rfl (ce4 E _ (oa0).2) rfl (by decide) rfl (Nat.le_of_ble_eq_true rfl) dX4_choice_6 rfl ?_
  refine g_istore (lv' := [(4, .int v1), (0, .ref (ad E a0)), (1, .int x1), (2, .int x2), (3, .int x3)]) C dX4_choice_9 (by decide) rfl ?_
  refine g_iload C 0 dX4_choice_11 rfl ?_
  refine g_iconst C dX4_choice_13 cc_i_m1 ?_
  refine g_icmp_eq (tgt := 25) C dX4_choice_14 (by decide) hs (fun hs => ?_) (fun hs => ?_)
  · refine g_sub [1, 2, 3, 4, 0] rfl ?_
    exact wb_X4_choice_25 C h a0 x1 x2 x3 v1 oa0 hs hR
  · refine g_iload_n C 4 dX4_choice_17 rfl rfl ?_
    refine g_if_ge (tgt := 25) C dX4_choice_18 (by decide) hs (fun hs => ?_) (fun hs => ?_)
    · refine g_sub [1, 2, 3, 4, 0] rfl ?_
      exact wb_X4_choice_25 C h a0 x1 x2 x3 v1 oa0 hs hR
    · refine g_bipush C dX4_choice_21 cc_b_m4 ?_
      refine g_istore (lv' := [(4, .int (-4 : Int32)), (0, .ref (ad E a0)), (1, .int x1), (2, .int x2), (3, .int x3)]) C dX4_choice_23 (by decide) rfl ?_
      refine g_sub [1, 2, 3, 4, 0] rfl ?_
      exact wb_X4_choice_25 C h a0 x1 x2 x3 (-4 : Int32) oa0 hs hR
set_option maxHeartbeats 4000000 in
set_option maxRecDepth 100000 in
theorem w_X4_gap (l : Launch) (E : Ep) (h : Hp) (a0 : Nat) (x1 : Int32) (x2 : Int32) (res : Int32 × Hp) (oa0 : OKr a0 4) (hs : sh_X4_gap h a0 x1 x2 = some res) : MG l E yX4_gap cX4_gap 4 (some .int) 15 [.ref (ad E a0), .int x1, .int x2] h (some (.int res.1)) res.2 := by
  refine MG.of (by decide) (Nat.le_of_ble_eq_true rfl) ?_
  intro X C hR
  have C : CX E X RX4 cX4_gap 4 15 := C
  show GG l E X h 0 [(0, .ref (ad E a0)), (1, .int x1), (2, .int x2)] []
  refine g_aload_n C 0 dX4_gap_0 rfl rfl ?_
  refine g_iload_n C 1 dX4_gap_1 rfl rfl ?_
  refine g_iload_n C 2 dX4_gap_2 rfl rfl ?_
  refine g_iconst C dX4_gap_3 cc_i_1 ?_
  refine g_bipush C dX4_gap_4 cc_b_6 ?_
  obtain ⟨v1, hcv1, hs⟩ := bnd hs
  refine g_cV (As := [.int x1, .int x2, .int (1 : Int32), .int (6 : Int32)]) (rest := []) C (w_X4_ofOneRefusal l E _ _ _ _ _ _ _ oa0 hcv1) mw_X4_ofOneRefusal lm_X4_138 oa0 rfl (ce4 E _ (oa0).2) rfl (by decide) rfl (Nat.le_of_ble_eq_true rfl) dX4_gap_6 rfl ?_
  refine g_istore_n (lv' := [(3, .int v1), (0, .ref (ad E a0)), (1, .int x1), (2, .int x2)]) C dX4_gap_9 rfl (by decide) rfl ?_
  refine g_iload_n C 0 dX4_gap_10 rfl rfl ?_
  refine g_if_eq (tgt := 23) C dX4_gap_11 (by decide) hs (fun hs => ?_) (fun hs => ?_)
  · refine g_aload_n C 1 dX4_gap_23 rfl rfl ?_
    refine gf4_3 C oa0 lf_X4_25 dX4_gap_24 ?_
    refine g_aload_n C 1 dX4_gap_27 rfl rfl ?_
    refine gf4_0 C oa0 lf_X4_10 dX4_gap_28 ?_
    refine g_iload_n C 2 dX4_gap_31 rfl rfl ?_
    refine g_iload_n C 3 dX4_gap_32 rfl rfl ?_
    refine g_iconst C dX4_gap_33 cc_i_0 ?_
    obtain ⟨h2, hch2, hs⟩ := bnd hs
    refine g_cVN (As := [.ref (ad E (rf a0 0)), .int x1, .int x2, .int (0 : Int32)]) (rest := []) C (w_X2_run l E _ _ _ _ _ _ _ (tg4_3 oa0) (tg4_0 oa0) hch2) mw_X2_run lm_X4_159 (tg4_3 oa0) rfl (ce2 E _ ((tg4_3 oa0)).2) rfl (by decide) rfl (Nat.le_of_ble_eq_true rfl) dX4_gap_34 rfl ?_
    refine g_aload_n C 1 dX4_gap_37 rfl rfl ?_
    refine g_iload_n C 3 dX4_gap_38 rfl rfl ?_
    obtain ⟨h3, hch3, hs⟩ := bnd hs
    refine g_cV (As := [.int x2]) (rest := []) C (w_X4_think l E _ _ _ _ oa0 hch3) mw_X4_think lm_X4_142 oa0 rfl (ce4 E _ (oa0).2) rfl (by decide) rfl (Nat.le_of_ble_eq_true rfl) dX4_gap_39 rfl ?_
    refine g_aload_n C 1 dX4_gap_42 rfl rfl ?_
    refine gf4_3 C oa0 lf_X4_25 dX4_gap_43 ?_
    refine gf2_6N C (tg4_3 oa0) lf_X4_163 dX4_gap_46 ?_
    refine g_aload_n C 1 dX4_gap_49 rfl rfl ?_
    refine gf4_2 C oa0 lf_X4_19 dX4_gap_50 ?_
    refine gf3_3N C (tg4_2 oa0) lf_X4_77 dX4_gap_53 ?_
    refine g_iload_n C 2 dX4_gap_56 rfl rfl ?_
    refine g_iald C (tg3_3 (tg4_2 oa0)) dX4_gap_57 hs (fun v4 hs => ?_)
    refine g_isub C dX4_gap_58 ?_
    have e9 := Option.some.inj hs
    subst e9
    exact g_iret C hR dX4_gap_59
  · refine g_ldc C dX4_gap_14 kk_X4_169 ?_
    refine g_aload_n C 1 dX4_gap_16 rfl rfl ?_
    refine g_iload_n C 0 dX4_gap_17 rfl rfl ?_
    obtain ⟨q5, hcq5, hs⟩ := bnd hs
    refine g_cV (As := [.int v1]) (rest := [.int (1000000000 : Int32)]) C (w_X4_refuse l E _ _ _ _ oa0 hcq5) mw_X4_refuse lm_X4_46 oa0 rfl (ce4 E _ (oa0).2) rfl (by decide) rfl (Nat.le_of_ble_eq_true rfl) dX4_gap_18 rfl ?_
    refine g_isub C dX4_gap_21 ?_
    have e9 := Option.some.inj hs
    subst e9
    exact g_iret C hR dX4_gap_22
set_option maxHeartbeats 4000000 in
set_option maxRecDepth 100000 in
theorem wb_X4_ofOneTwiceRefusal_25 {l : Launch} {E : Ep} {X : Fx} {res : Int32} (C : CX E X RX4 cX4_ofOneTwiceRefusal 4 1) (h : Hp) (hs : b_X4_ofOneTwiceRefusal_25  h  = some res) (hR : RT E X (some .int) (some (.int res)) h) : GG l E X h 25 [] [] := by
  refine g_bipush C dX4_ofOneTwiceRefusal_25 cc_b_m4 ?_
  have e9 := Option.some.inj hs
  subst e9
  exact g_iret C hR dX4_ofOneTwiceRefusal_27
set_option maxHeartbeats 4000000 in
set_option maxRecDepth 100000 in
theorem wb_X4_ofOneTwiceRefusal_37 {l : Launch} {E : Ep} {X : Fx} {res : Int32} (C : CX E X RX4 cX4_ofOneTwiceRefusal 4 1) (h : Hp) (s0 : Int32) (hs : b_X4_ofOneTwiceRefusal_37  h s0 = some res) (hR : RT E X (some .int) (some (.int res)) h) : GG l E X h 37 [] [.int s0] := by
  have e9 := Option.some.inj hs
  subst e9
  exact g_iret C hR dX4_ofOneTwiceRefusal_37
set_option maxHeartbeats 4000000 in
set_option maxRecDepth 100000 in
theorem w_X4_ofOneTwiceRefusal (l : Launch) (E : Ep) (h : Hp) (a0 : Nat) (x1 : Int32) (x2 : Int32) (x3 : Int32) (res : Int32) (oa0 : OKr a0 4) (hs : sh_X4_ofOneTwiceRefusal h a0 x1 x2 x3 = some res) : MG l E yX4_ofOneTwiceRefusal cX4_ofOneTwiceRefusal 4 (some .int) 1 [.ref (ad E a0), .int x1, .int x2, .int x3] h (some (.int res)) h := by
  refine MG.of (by decide) (Nat.le_of_ble_eq_true rfl) ?_
  intro X C hR
  have C : CX E X RX4 cX4_ofOneTwiceRefusal 4 1 := C
  show GG l E X h 0 [(0, .ref (ad E a0)), (1, .int x1), (2, .int x2), (3, .int x3)] []
  refine g_aload_n C 0 dX4_ofOneTwiceRefusal_0 rfl rfl ?_
  refine gf4_0 C oa0 lf_X4_10 dX4_ofOneTwiceRefusal_1 ?_
  refine g_iload_n C 1 dX4_ofOneTwiceRefusal_4 rfl rfl ?_
  obtain ⟨v1, hcv1, hs⟩ := bnd hs
  refine g_cVN (As := [.int x1]) (rest := []) C (w_X3_exists l E _ _ _ _ (tg4_0 oa0) hcv1) mw_X3_exists lm_X4_64 (tg4_0 oa0) rfl (ce3 E _ ((tg4_0 oa0)).2) rfl (by decide) rfl (Nat.le_of_ble_eq_true rfl) dX4_ofOneTwiceRefusal_5 rfl ?_
  refine g_if_ne (tgt := 13) C dX4_ofOneTwiceRefusal_8 (by decide) hs (fun hs => ?_) (fun hs => ?_)
  · refine g_iconst C dX4_ofOneTwiceRefusal_11 cc_i_m1 ?_
    have e9 := Option.some.inj hs
    subst e9
    exact g_iret C hR dX4_ofOneTwiceRefusal_12
  · refine g_iload_n C 2 dX4_ofOneTwiceRefusal_13 rfl rfl ?_
    refine g_bipush C dX4_ofOneTwiceRefusal_14 cc_b_m4 ?_
    refine g_icmp_eq (tgt := 25) C dX4_ofOneTwiceRefusal_16 (by decide) hs (fun hs => ?_) (fun hs => ?_)
    · refine g_sub [] rfl ?_
      exact wb_X4_ofOneTwiceRefusal_25 C h hs hR
    · refine g_iload_n C 3 dX4_ofOneTwiceRefusal_19 rfl rfl ?_
      refine g_bipush C dX4_ofOneTwiceRefusal_20 cc_b_m4 ?_
      refine g_icmp_ne (tgt := 28) C dX4_ofOneTwiceRefusal_22 (by decide) hs (fun hs => ?_) (fun hs => ?_)
      · refine g_sub [] rfl ?_
        exact wb_X4_ofOneTwiceRefusal_25 C h hs hR
      · refine g_iload_n C 2 dX4_ofOneTwiceRefusal_28 rfl rfl ?_
        refine g_if_eq (tgt := 36) C dX4_ofOneTwiceRefusal_29 (by decide) hs (fun hs => ?_) (fun hs => ?_)
        · refine g_iload_n C 3 dX4_ofOneTwiceRefusal_36 rfl rfl ?_
          refine g_sub [] rfl ?_
          exact wb_X4_ofOneTwiceRefusal_37 C h x3 hs hR
        · refine g_iload_n C 2 dX4_ofOneTwiceRefusal_32 rfl rfl ?_
          refine g_goto (tgt := 37) C dX4_ofOneTwiceRefusal_33 (by decide) ?_
          refine g_sub [] rfl ?_
          exact wb_X4_ofOneTwiceRefusal_37 C h x2 hs hR
set_option maxHeartbeats 4000000 in
set_option maxRecDepth 100000 in
theorem w_X4_feast (l : Launch) (E : Ep) (h : Hp) (a0 : Nat) (x1 : Int32) (x2 : Int32) (x3 : Int32) (res : Int32 × Hp) (oa0 : OKr a0 4) (hs : sh_X4_feast h a0 x1 x2 x3 = some res) : MG l E yX4_feast cX4_feast 5 (some .int) 15 [.ref (ad E a0), .int x1, .int x2, .int x3] h (some (.int res.1)) res.2 := by
  refine MG.of (by decide) (Nat.le_of_ble_eq_true rfl) ?_
  intro X C hR
  have C : CX E X RX4 cX4_feast 5 15 := C
  show GG l E X h 0 [(0, .ref (ad E a0)), (1, .int x1), (2, .int x2), (3, .int x3)] []
  refine g_aload_n C 0 dX4_feast_0 rfl rfl ?_
  refine g_iload_n C 1 dX4_feast_1 rfl rfl ?_
  refine g_iload_n C 2 dX4_feast_2 rfl rfl ?_
  refine g_iconst C dX4_feast_3 cc_i_1 ?_
  refine g_bipush C dX4_feast_4 cc_b_6 ?_
  obtain ⟨v1, hcv1, hs⟩ := bnd hs
  refine g_cS (As := [.int x2, .int (1 : Int32), .int (6 : Int32)]) (rest := [.int x1, .ref (ad E a0)]) C (w_X4_outside l E _ _ _ _ _ hcv1) mw_X4_outside lm_X4_111 rfl (by decide) rfl (Nat.le_of_ble_eq_true rfl) dX4_feast_6 rfl ?_
  refine g_iload_n C 3 dX4_feast_9 rfl rfl ?_
  refine g_iconst C dX4_feast_10 cc_i_0 ?_
  refine g_sipush C dX4_feast_11 cc_s_9999 ?_
  obtain ⟨v2, hcv2, hs⟩ := bnd hs
  refine g_cS (As := [.int x3, .int (0 : Int32), .int (9999 : Int32)]) (rest := [.int v1, .int x1, .ref (ad E a0)]) C (w_X4_outside l E _ _ _ _ _ hcv2) mw_X4_outside lm_X4_111 rfl (by decide) rfl (Nat.le_of_ble_eq_true rfl) dX4_feast_14 rfl ?_
  obtain ⟨v3, hcv3, hs⟩ := bnd hs
  refine g_cV (As := [.int x1, .int v1, .int v2]) (rest := []) C (w_X4_ofOneTwiceRefusal l E _ _ _ _ _ _ oa0 hcv3) mw_X4_ofOneTwiceRefusal lm_X4_170 oa0 rfl (ce4 E _ (oa0).2) rfl (by decide) rfl (Nat.le_of_ble_eq_true rfl) dX4_feast_17 rfl ?_
  refine g_istore (lv' := [(4, .int v3), (0, .ref (ad E a0)), (1, .int x1), (2, .int x2), (3, .int x3)]) C dX4_feast_20 (by decide) rfl ?_
  refine g_iload C 0 dX4_feast_22 rfl ?_
  refine g_if_eq (tgt := 34) C dX4_feast_24 (by decide) hs (fun hs => ?_) (fun hs => ?_)
  · refine g_aload_n C 1 dX4_feast_34 rfl rfl ?_
    refine gf4_3 C oa0 lf_X4_25 dX4_feast_35 ?_
    refine g_aload_n C 1 dX4_feast_38 rfl rfl ?_
    refine gf4_0 C oa0 lf_X4_10 dX4_feast_39 ?_
    refine g_iload_n C 2 dX4_feast_42 rfl rfl ?_
    refine g_iload_n C 3 dX4_feast_43 rfl rfl ?_
    refine g_iload_n C 4 dX4_feast_44 rfl rfl ?_
    obtain ⟨h4, hch4, hs⟩ := bnd hs
    refine g_cVN (As := [.ref (ad E (rf a0 0)), .int x1, .int x2, .int x3]) (rest := []) C (w_X2_run l E _ _ _ _ _ _ _ (tg4_3 oa0) (tg4_0 oa0) hch4) mw_X2_run lm_X4_159 (tg4_3 oa0) rfl (ce2 E _ ((tg4_3 oa0)).2) rfl (by decide) rfl (Nat.le_of_ble_eq_true rfl) dX4_feast_45 rfl ?_
    refine g_aload_n C 1 dX4_feast_48 rfl rfl ?_
    refine gf4_3 C oa0 lf_X4_25 dX4_feast_49 ?_
    refine gf2_7N C (tg4_3 oa0) lf_X4_173 dX4_feast_52 ?_
    have e9 := Option.some.inj hs
    subst e9
    exact g_iret C hR dX4_feast_55
  · refine g_aload_n C 1 dX4_feast_27 rfl rfl ?_
    refine g_iload C 0 dX4_feast_28 rfl ?_
    obtain ⟨q5, hcq5, hs⟩ := bnd hs
    refine g_cV (As := [.int v3]) (rest := []) C (w_X4_refuse l E _ _ _ _ oa0 hcq5) mw_X4_refuse lm_X4_46 oa0 rfl (ce4 E _ (oa0).2) rfl (by decide) rfl (Nat.le_of_ble_eq_true rfl) dX4_feast_30 rfl ?_
    have e9 := Option.some.inj hs
    subst e9
    exact g_iret C hR dX4_feast_33
set_option maxHeartbeats 4000000 in
set_option maxRecDepth 100000 in
theorem wb_X3_isSomebodysTaker_56 {l : Launch} {E : Ep} {X : Fx} {res : Int32} (C : CX E X RX3 cX3_isSomebodysTaker 4 1) (k2 : Hp → Nat → Int32 → Int32 → Option (Int32)) (hk2 : ∀ (h : Hp) (a0 : Nat) (x1 : Int32) (x2 : Int32), OKr a0 3 → k2 h a0 x1 x2 = some res → RT E X (some .boolean) (some (.int res)) h → GG l E X h 2 [(0, .ref (ad E a0)), (1, .int x1), (2, .int x2)] []) (h : Hp) (a0 : Nat) (x1 : Int32) (x2 : Int32) (oa0 : OKr a0 3) (hs : b_X3_isSomebodysTaker_56 k2 h a0 x1 x2 = some res) (hR : RT E X (some .boolean) (some (.int res)) h) : GG l E X h 56 [(0, .ref (ad E a0)), (1, .int x1), (2, .int x2)] [] := by
  refine g_iinc (lv' := [(2, .int (x2 + (1 : Int32))), (0, .ref (ad E a0)), (1, .int x1)]) (j := 2) C dX3_isSomebodysTaker_56 rfl (cc_n_1 _) (by decide) rfl ?_
  refine g_goto (tgt := 2) C dX3_isSomebodysTaker_59 (by decide) ?_
  refine g_sub [1, 2, 0] rfl ?_
  exact hk2 h a0 x1 (x2 + (1 : Int32)) oa0 hs hR
set_option maxHeartbeats 4000000 in
set_option maxRecDepth 100000 in
theorem wb_X3_isSomebodysTaker_34 {l : Launch} {E : Ep} {X : Fx} {res : Int32} (C : CX E X RX3 cX3_isSomebodysTaker 4 1) (k2 : Hp → Nat → Int32 → Int32 → Option (Int32)) (hk2 : ∀ (h : Hp) (a0 : Nat) (x1 : Int32) (x2 : Int32), OKr a0 3 → k2 h a0 x1 x2 = some res → RT E X (some .boolean) (some (.int res)) h → GG l E X h 2 [(0, .ref (ad E a0)), (1, .int x1), (2, .int x2)] []) (h : Hp) (a0 : Nat) (x1 : Int32) (x2 : Int32) (s0 : Int32) (oa0 : OKr a0 3) (hs : b_X3_isSomebodysTaker_34 k2 h a0 x1 x2 s0 = some res) (hR : RT E X (some .boolean) (some (.int res)) h) : GG l E X h 34 [(0, .ref (ad E a0)), (1, .int x1), (2, .int x2)] [.int s0] := by
  refine g_istore_n (lv' := [(3, .int s0), (0, .ref (ad E a0)), (1, .int x1), (2, .int x2)]) C dX3_isSomebodysTaker_34 rfl (by decide) rfl ?_
  refine g_iload_n C 3 dX3_isSomebodysTaker_35 rfl rfl ?_
  refine g_iload_n C 2 dX3_isSomebodysTaker_36 rfl rfl ?_
  refine g_icmp_eq (tgt := 56) C dX3_isSomebodysTaker_37 (by decide) hs (fun hs => ?_) (fun hs => ?_)
  · refine g_sub [1, 2, 3] rfl ?_
    exact wb_X3_isSomebodysTaker_56 C k2 hk2 h a0 x1 x2 oa0 hs hR
  · refine g_aload_n C 1 dX3_isSomebodysTaker_40 rfl rfl ?_
    refine gf3_3 C oa0 lf_X3_21 dX3_isSomebodysTaker_41 ?_
    refine g_iload_n C 3 dX3_isSomebodysTaker_44 rfl rfl ?_
    refine g_iald C (tg3_3 oa0) dX3_isSomebodysTaker_45 hs (fun v1 hs => ?_)
    refine g_if_le (tgt := 56) C dX3_isSomebodysTaker_46 (by decide) hs (fun hs => ?_) (fun hs => ?_)
    · refine g_sub [1, 2, 3] rfl ?_
      exact wb_X3_isSomebodysTaker_56 C k2 hk2 h a0 x1 x2 oa0 hs hR
    · refine g_iload_n C 0 dX3_isSomebodysTaker_49 rfl rfl ?_
      refine g_iload_n C 2 dX3_isSomebodysTaker_50 rfl rfl ?_
      refine g_icmp_ne (tgt := 56) C dX3_isSomebodysTaker_51 (by decide) hs (fun hs => ?_) (fun hs => ?_)
      · refine g_iconst C dX3_isSomebodysTaker_54 cc_i_1 ?_
        have e9 := Option.some.inj hs
        subst e9
        exact g_zret C (Or.inr rfl) hR dX3_isSomebodysTaker_55
      · refine g_sub [1, 2, 3] rfl ?_
        exact wb_X3_isSomebodysTaker_56 C k2 hk2 h a0 x1 x2 oa0 hs hR
set_option maxHeartbeats 4000000 in
set_option maxRecDepth 100000 in
theorem wb_X3_isSomebodysTaker_2 {l : Launch} {E : Ep} {X : Fx} {res : Int32} (C : CX E X RX3 cX3_isSomebodysTaker 4 1) : ∀ (n : Nat) (h : Hp) (a0 : Nat) (x1 : Int32) (x2 : Int32) (oa0 : OKr a0 3), b_X3_isSomebodysTaker_2  n h a0 x1 x2 = some res → RT E X (some .boolean) (some (.int res)) h → GG l E X h 2 [(0, .ref (ad E a0)), (1, .int x1), (2, .int x2)] [] := by
  intro n
  induction n with
  | zero =>
    intro h a0 x1 x2 oa0
    intro hs
    exact absurd hs (by intro e; cases e)
  | succ n ih =>
    intro h a0 x1 x2 oa0 hs hR
    have hk2 := ih
    have hs : f_X3_isSomebodysTaker_2  (b_X3_isSomebodysTaker_2  n) h a0 x1 x2 = some res := hs
    generalize b_X3_isSomebodysTaker_2  n = k2 at hs hk2
    refine g_iload_n C 2 dX3_isSomebodysTaker_2 rfl rfl ?_
    refine g_aload_n C 0 dX3_isSomebodysTaker_3 rfl rfl ?_
    refine gf3_7 C oa0 lf_X3_47 dX3_isSomebodysTaker_4 ?_
    refine g_icmp_ge (tgt := 62) C dX3_isSomebodysTaker_7 (by decide) hs (fun hs => ?_) (fun hs => ?_)
    · refine g_iconst C dX3_isSomebodysTaker_62 cc_i_0 ?_
      have e9 := Option.some.inj hs
      subst e9
      exact g_zret C (Or.inl rfl) hR dX3_isSomebodysTaker_63
    · refine g_aload_n C 0 dX3_isSomebodysTaker_10 rfl rfl ?_
      refine gf3_0 C oa0 lf_X3_9 dX3_isSomebodysTaker_11 ?_
      refine g_iload_n C 2 dX3_isSomebodysTaker_14 rfl rfl ?_
      refine g_iald C (tg3_0 oa0) dX3_isSomebodysTaker_15 hs (fun v1 hs => ?_)
      refine g_iconst C dX3_isSomebodysTaker_16 cc_i_4 ?_
      refine g_icmp_ne (tgt := 28) C dX3_isSomebodysTaker_17 (by decide) hs (fun hs => ?_) (fun hs => ?_)
      · refine g_aload_n C 0 dX3_isSomebodysTaker_20 rfl rfl ?_
        refine g_iload_n C 2 dX3_isSomebodysTaker_21 rfl rfl ?_
        obtain ⟨v2, hcv2, hs⟩ := bnd hs
        refine g_cV (As := [.int x2]) (rest := []) C (w_X3_nextOne l E _ _ _ _ oa0 hcv2) mw_X3_nextOne lm_X3_109 oa0 rfl (ce3 E _ (oa0).2) rfl (by decide) rfl (Nat.le_of_ble_eq_true rfl) dX3_isSomebodysTaker_22 rfl ?_
        refine g_goto (tgt := 34) C dX3_isSomebodysTaker_25 (by decide) ?_
        exact wb_X3_isSomebodysTaker_34 C k2 hk2 h a0 x1 x2 v2 oa0 hs hR
      · refine g_aload_n C 0 dX3_isSomebodysTaker_28 rfl rfl ?_
        refine gf3_2 C oa0 lf_X3_18 dX3_isSomebodysTaker_29 ?_
        refine g_iload_n C 2 dX3_isSomebodysTaker_32 rfl rfl ?_
        refine g_iald C (tg3_2 oa0) dX3_isSomebodysTaker_33 hs (fun v3 hs => ?_)
        exact wb_X3_isSomebodysTaker_34 C k2 hk2 h a0 x1 x2 v3 oa0 hs hR
set_option maxHeartbeats 4000000 in
set_option maxRecDepth 100000 in
theorem w_X3_isSomebodysTaker (l : Launch) (E : Ep) (h : Hp) (a0 : Nat) (x1 : Int32) (res : Int32) (oa0 : OKr a0 3) (hs : sh_X3_isSomebodysTaker h a0 x1 = some res) : MG l E yX3_isSomebodysTaker cX3_isSomebodysTaker 4 (some .boolean) 1 [.ref (ad E a0), .int x1] h (some (.int res)) h := by
  refine MG.of (by decide) (Nat.le_of_ble_eq_true rfl) ?_
  intro X C hR
  have C : CX E X RX3 cX3_isSomebodysTaker 4 1 := C
  show GG l E X h 0 [(0, .ref (ad E a0)), (1, .int x1)] []
  refine g_iconst C dX3_isSomebodysTaker_0 cc_i_0 ?_
  refine g_istore_n (lv' := [(2, .int (0 : Int32)), (0, .ref (ad E a0)), (1, .int x1)]) C dX3_isSomebodysTaker_1 rfl (by decide) rfl ?_
  refine g_sub [1, 2, 0] rfl ?_
  exact wb_X3_isSomebodysTaker_2 C 1000 h a0 x1 (0 : Int32) oa0 hs hR
set_option maxHeartbeats 4000000 in
set_option maxRecDepth 100000 in
theorem wb_X3_whoCannotBegin_62 {l : Launch} {E : Ep} {X : Fx} {res : Int32} (C : CX E X RX3 cX3_whoCannotBegin 4 3) (k4 : Hp → Nat → Int32 → Int32 → Option (Int32)) (hk4 : ∀ (h : Hp) (a0 : Nat) (x1 : Int32) (x2 : Int32), OKr a0 3 → k4 h a0 x1 x2 = some res → RT E X (some .int) (some (.int res)) h → GG l E X h 4 [(0, .ref (ad E a0)), (1, .int x1), (2, .int x2)] []) (h : Hp) (a0 : Nat) (x1 : Int32) (x2 : Int32) (oa0 : OKr a0 3) (hs : b_X3_whoCannotBegin_62 k4 h a0 x1 x2 = some res) (hR : RT E X (some .int) (some (.int res)) h) : GG l E X h 62 [(0, .ref (ad E a0)), (1, .int x1), (2, .int x2)] [] := by
  refine g_iinc (lv' := [(2, .int (x2 + (1 : Int32))), (0, .ref (ad E a0)), (1, .int x1)]) (j := 2) C dX3_whoCannotBegin_62 rfl (cc_n_1 _) (by decide) rfl ?_
  refine g_goto (tgt := 4) C dX3_whoCannotBegin_65 (by decide) ?_
  refine g_sub [1, 2, 0] rfl ?_
  exact hk4 h a0 x1 (x2 + (1 : Int32)) oa0 hs hR
set_option maxHeartbeats 4000000 in
set_option maxRecDepth 100000 in
theorem wb_X3_whoCannotBegin_34 {l : Launch} {E : Ep} {X : Fx} {res : Int32} (C : CX E X RX3 cX3_whoCannotBegin 4 3) (k4 : Hp → Nat → Int32 → Int32 → Option (Int32)) (hk4 : ∀ (h : Hp) (a0 : Nat) (x1 : Int32) (x2 : Int32), OKr a0 3 → k4 h a0 x1 x2 = some res → RT E X (some .int) (some (.int res)) h → GG l E X h 4 [(0, .ref (ad E a0)), (1, .int x1), (2, .int x2)] []) (h : Hp) (a0 : Nat) (x1 : Int32) (x2 : Int32) (s0 : Int32) (oa0 : OKr a0 3) (hs : b_X3_whoCannotBegin_34 k4 h a0 x1 x2 s0 = some res) (hR : RT E X (some .int) (some (.int res)) h) : GG l E X h 34 [(0, .ref (ad E a0)), (1, .int x1), (2, .int x2)] [.int s0] := by
  refine g_istore_n (lv' := [(3, .int s0), (0, .ref (ad E a0)), (1, .int x1), (2, .int x2)]) C dX3_whoCannotBegin_34 rfl (by decide) rfl ?_
  refine g_aload_n C 1 dX3_whoCannotBegin_35 rfl rfl ?_
  refine gf3_3 C oa0 lf_X3_21 dX3_whoCannotBegin_36 ?_
  refine g_iload_n C 3 dX3_whoCannotBegin_39 rfl rfl ?_
  refine g_iald C (tg3_3 oa0) dX3_whoCannotBegin_40 hs (fun v1 hs => ?_)
  refine g_if_ne (tgt := 62) C dX3_whoCannotBegin_41 (by decide) hs (fun hs => ?_) (fun hs => ?_)
  · refine g_iload_n C 0 dX3_whoCannotBegin_44 rfl rfl ?_
    refine g_if_eq (tgt := 62) C dX3_whoCannotBegin_45 (by decide) hs (fun hs => ?_) (fun hs => ?_)
    · refine g_sub [1, 2, 3] rfl ?_
      exact wb_X3_whoCannotBegin_62 C k4 hk4 h a0 x1 x2 oa0 hs hR
    · refine g_aload_n C 1 dX3_whoCannotBegin_48 rfl rfl ?_
      refine g_iload_n C 3 dX3_whoCannotBegin_49 rfl rfl ?_
      obtain ⟨v2, hcv2, hs⟩ := bnd hs
      refine g_cV (As := [.int x2]) (rest := []) C (w_X3_isSomebodysTaker l E _ _ _ _ oa0 hcv2) mw_X3_isSomebodysTaker lm_X3_149 oa0 rfl (ce3 E _ (oa0).2) rfl (by decide) rfl (Nat.le_of_ble_eq_true rfl) dX3_whoCannotBegin_50 rfl ?_
      refine g_if_ne (tgt := 62) C dX3_whoCannotBegin_53 (by decide) hs (fun hs => ?_) (fun hs => ?_)
      · refine g_iload_n C 2 dX3_whoCannotBegin_56 rfl rfl ?_
        refine g_iconst C dX3_whoCannotBegin_57 cc_i_1 ?_
        refine g_iload_n C 3 dX3_whoCannotBegin_58 rfl rfl ?_
        refine g_ishl C dX3_whoCannotBegin_59 ?_
        refine g_ior C dX3_whoCannotBegin_60 ?_
        refine g_istore_n (lv' := [(1, .int (x1 ||| ((1 : Int32) <<< (x2 &&& 31)))), (3, .int s0), (0, .ref (ad E a0)), (2, .int x2)]) C dX3_whoCannotBegin_61 rfl (by decide) rfl ?_
        refine g_sub [2, 0, 3] rfl ?_
        exact wb_X3_whoCannotBegin_62 C k4 hk4 h a0 (x1 ||| ((1 : Int32) <<< (x2 &&& 31))) x2 oa0 hs hR
      · refine g_sub [1, 2, 3] rfl ?_
        exact wb_X3_whoCannotBegin_62 C k4 hk4 h a0 x1 x2 oa0 hs hR
  · refine g_sub [1, 2, 3] rfl ?_
    exact wb_X3_whoCannotBegin_62 C k4 hk4 h a0 x1 x2 oa0 hs hR
set_option maxHeartbeats 4000000 in
set_option maxRecDepth 100000 in
theorem wb_X3_whoCannotBegin_29 {l : Launch} {E : Ep} {X : Fx} {res : Int32} (C : CX E X RX3 cX3_whoCannotBegin 4 3) (k4 : Hp → Nat → Int32 → Int32 → Option (Int32)) (hk4 : ∀ (h : Hp) (a0 : Nat) (x1 : Int32) (x2 : Int32), OKr a0 3 → k4 h a0 x1 x2 = some res → RT E X (some .int) (some (.int res)) h → GG l E X h 4 [(0, .ref (ad E a0)), (1, .int x1), (2, .int x2)] []) (h : Hp) (a0 : Nat) (x1 : Int32) (x2 : Int32) (oa0 : OKr a0 3) (hs : b_X3_whoCannotBegin_29 k4 h a0 x1 x2 = some res) (hR : RT E X (some .int) (some (.int res)) h) : GG l E X h 29 [(0, .ref (ad E a0)), (1, .int x1), (2, .int x2)] [] := by
  refine g_iconst C dX3_whoCannotBegin_29 cc_i_1 ?_
  refine g_goto (tgt := 34) C dX3_whoCannotBegin_30 (by decide) ?_
  exact wb_X3_whoCannotBegin_34 C k4 hk4 h a0 x1 x2 (1 : Int32) oa0 hs hR
set_option maxHeartbeats 4000000 in
set_option maxRecDepth 100000 in
theorem wb_X3_whoCannotBegin_4 {l : Launch} {E : Ep} {X : Fx} {res : Int32} (C : CX E X RX3 cX3_whoCannotBegin 4 3) : ∀ (n : Nat) (h : Hp) (a0 : Nat) (x1 : Int32) (x2 : Int32) (oa0 : OKr a0 3), b_X3_whoCannotBegin_4  n h a0 x1 x2 = some res → RT E X (some .int) (some (.int res)) h → GG l E X h 4 [(0, .ref (ad E a0)), (1, .int x1), (2, .int x2)] [] := by
  intro n
  induction n with
  | zero =>
    intro h a0 x1 x2 oa0
    intro hs
    exact absurd hs (by intro e; cases e)
  | succ n ih =>
    intro h a0 x1 x2 oa0 hs hR
    have hk4 := ih
    have hs : f_X3_whoCannotBegin_4  (b_X3_whoCannotBegin_4  n) h a0 x1 x2 = some res := hs
    generalize b_X3_whoCannotBegin_4  n = k4 at hs hk4
    refine g_iload_n C 2 dX3_whoCannotBegin_4 rfl rfl ?_
    refine g_aload_n C 0 dX3_whoCannotBegin_5 rfl rfl ?_
    refine gf3_7 C oa0 lf_X3_47 dX3_whoCannotBegin_6 ?_
    refine g_icmp_ge (tgt := 68) C dX3_whoCannotBegin_9 (by decide) hs (fun hs => ?_) (fun hs => ?_)
    · refine g_iload_n C 1 dX3_whoCannotBegin_68 rfl rfl ?_
      have e9 := Option.some.inj hs
      subst e9
      exact g_iret C hR dX3_whoCannotBegin_69
    · refine g_aload_n C 0 dX3_whoCannotBegin_12 rfl rfl ?_
      refine gf3_4 C oa0 lf_X3_24 dX3_whoCannotBegin_13 ?_
      refine g_iload_n C 2 dX3_whoCannotBegin_16 rfl rfl ?_
      refine g_iald C (tg3_4 oa0) dX3_whoCannotBegin_17 hs (fun v1 hs => ?_)
      refine g_if_eq (tgt := 29) C dX3_whoCannotBegin_18 (by decide) hs (fun hs => ?_) (fun hs => ?_)
      · exact wb_X3_whoCannotBegin_29 C k4 hk4 h a0 x1 x2 oa0 hs hR
      · refine g_aload_n C 0 dX3_whoCannotBegin_21 rfl rfl ?_
        refine g_iload_n C 2 dX3_whoCannotBegin_22 rfl rfl ?_
        obtain ⟨v2, hcv2, hs⟩ := bnd hs
        refine g_cV (As := [.int x2]) (rest := []) C (w_X3_leave l E _ _ _ _ oa0 hcv2) mw_X3_leave lm_X3_139 oa0 rfl (ce3 E _ (oa0).2) rfl (by decide) rfl (Nat.le_of_ble_eq_true rfl) dX3_whoCannotBegin_23 rfl ?_
        refine g_if_ne (tgt := 33) C dX3_whoCannotBegin_26 (by decide) hs (fun hs => ?_) (fun hs => ?_)
        · exact wb_X3_whoCannotBegin_29 C k4 hk4 h a0 x1 x2 oa0 hs hR
        · refine g_iconst C dX3_whoCannotBegin_33 cc_i_0 ?_
          exact wb_X3_whoCannotBegin_34 C k4 hk4 h a0 x1 x2 (0 : Int32) oa0 hs hR
set_option maxHeartbeats 4000000 in
set_option maxRecDepth 100000 in
theorem w_X3_whoCannotBegin (l : Launch) (E : Ep) (h : Hp) (a0 : Nat) (res : Int32) (oa0 : OKr a0 3) (hs : sh_X3_whoCannotBegin h a0 = some res) : MG l E yX3_whoCannotBegin cX3_whoCannotBegin 4 (some .int) 3 [.ref (ad E a0)] h (some (.int res)) h := by
  refine MG.of (by decide) (Nat.le_of_ble_eq_true rfl) ?_
  intro X C hR
  have C : CX E X RX3 cX3_whoCannotBegin 4 3 := C
  show GG l E X h 0 [(0, .ref (ad E a0))] []
  refine g_iconst C dX3_whoCannotBegin_0 cc_i_0 ?_
  refine g_istore_n (lv' := [(1, .int (0 : Int32)), (0, .ref (ad E a0))]) C dX3_whoCannotBegin_1 rfl (by decide) rfl ?_
  refine g_iconst C dX3_whoCannotBegin_2 cc_i_0 ?_
  refine g_istore_n (lv' := [(2, .int (0 : Int32)), (1, .int (0 : Int32)), (0, .ref (ad E a0))]) C dX3_whoCannotBegin_3 rfl (by decide) rfl ?_
  refine g_sub [2, 1, 0] rfl ?_
  exact wb_X3_whoCannotBegin_4 C 1000 h a0 (0 : Int32) (0 : Int32) oa0 hs hR
set_option maxHeartbeats 4000000 in
set_option maxRecDepth 100000 in
theorem w_X4_begins (l : Launch) (E : Ep) (h : Hp) (a0 : Nat) (res : Int32) (oa0 : OKr a0 4) (hs : sh_X4_begins h a0 = some res) : MG l E yX4_begins cX4_begins 1 (some .int) 4 [.ref (ad E a0)] h (some (.int res)) h := by
  refine MG.of (by decide) (Nat.le_of_ble_eq_true rfl) ?_
  intro X C hR
  have C : CX E X RX4 cX4_begins 1 4 := C
  show GG l E X h 0 [(0, .ref (ad E a0))] []
  refine g_aload_n C 0 dX4_begins_0 rfl rfl ?_
  refine gf4_0 C oa0 lf_X4_10 dX4_begins_1 ?_
  obtain ⟨v1, hcv1, hs⟩ := bnd hs
  refine g_cVN (As := []) (rest := []) C (w_X3_whoCannotBegin l E _ _ _ (tg4_0 oa0) hcv1) mw_X3_whoCannotBegin lm_X4_176 (tg4_0 oa0) rfl (ce3 E _ ((tg4_0 oa0)).2) rfl (by decide) rfl (Nat.le_of_ble_eq_true rfl) dX4_begins_4 rfl ?_
  have e9 := Option.some.inj hs
  subst e9
  exact g_iret C hR dX4_begins_7
set_option maxHeartbeats 4000000 in
set_option maxRecDepth 100000 in
theorem w_J6_bitCount_0f7a4 (l : Launch) (E : Ep) (h : Hp) (x0 : Int32) (res : Int32) (hs : sh_J6_bitCount_0f7a4 h x0 = some res) : MG l E yJ6_bitCount_0f7a4 cJ6_bitCount_0f7a4 1 (some .int) 0 [.int x0] h (some (.int res)) h := by
  refine MG.of (by decide) (Nat.le_of_ble_eq_true rfl) ?_
  intro X C hR
  have C : CX E X RJ6 cJ6_bitCount_0f7a4 1 0 := C
  show GG l E X h 0 [(0, .int x0)] []
  refine g_iload_n C 0 dJ6_bitCount_0f7a4_0 rfl rfl ?_
  refine g_iload_n C 0 dJ6_bitCount_0f7a4_1 rfl rfl ?_
  refine g_iconst C dJ6_bitCount_0f7a4_2 cc_i_1 ?_
  refine g_iushr C dJ6_bitCount_0f7a4_3 ?_
  refine g_ldcw C dJ6_bitCount_0f7a4_4 kk_J6_265 ?_
  refine g_iand C dJ6_bitCount_0f7a4_7 ?_
  refine g_isub C dJ6_bitCount_0f7a4_8 ?_
  refine g_istore_n (lv' := [(0, .int (x0 - ((ush x0 (1 : Int32)) &&& (1431655765 : Int32))))]) C dJ6_bitCount_0f7a4_9 rfl (by decide) rfl ?_
  refine g_iload_n C 0 dJ6_bitCount_0f7a4_10 rfl rfl ?_
  refine g_ldcw C dJ6_bitCount_0f7a4_11 kk_J6_266 ?_
  refine g_iand C dJ6_bitCount_0f7a4_14 ?_
  refine g_iload_n C 0 dJ6_bitCount_0f7a4_15 rfl rfl ?_
  refine g_iconst C dJ6_bitCount_0f7a4_16 cc_i_2 ?_
  refine g_iushr C dJ6_bitCount_0f7a4_17 ?_
  refine g_ldcw C dJ6_bitCount_0f7a4_18 kk_J6_266 ?_
  refine g_iand C dJ6_bitCount_0f7a4_21 ?_
  refine g_iadd C dJ6_bitCount_0f7a4_22 ?_
  refine g_istore_n (lv' := [(0, .int (((x0 - ((ush x0 (1 : Int32)) &&& (1431655765 : Int32))) &&& (858993459 : Int32)) + ((ush (x0 - ((ush x0 (1 : Int32)) &&& (1431655765 : Int32))) (2 : Int32)) &&& (858993459 : Int32))))]) C dJ6_bitCount_0f7a4_23 rfl (by decide) rfl ?_
  refine g_iload_n C 0 dJ6_bitCount_0f7a4_24 rfl rfl ?_
  refine g_iload_n C 0 dJ6_bitCount_0f7a4_25 rfl rfl ?_
  refine g_iconst C dJ6_bitCount_0f7a4_26 cc_i_4 ?_
  refine g_iushr C dJ6_bitCount_0f7a4_27 ?_
  refine g_iadd C dJ6_bitCount_0f7a4_28 ?_
  refine g_ldcw C dJ6_bitCount_0f7a4_29 kk_J6_267 ?_
  refine g_iand C dJ6_bitCount_0f7a4_32 ?_
  refine g_istore_n (lv' := [(0, .int (((((x0 - ((ush x0 (1 : Int32)) &&& (1431655765 : Int32))) &&& (858993459 : Int32)) + ((ush (x0 - ((ush x0 (1 : Int32)) &&& (1431655765 : Int32))) (2 : Int32)) &&& (858993459 : Int32))) + (ush (((x0 - ((ush x0 (1 : Int32)) &&& (1431655765 : Int32))) &&& (858993459 : Int32)) + ((ush (x0 - ((ush x0 (1 : Int32)) &&& (1431655765 : Int32))) (2 : Int32)) &&& (858993459 : Int32))) (4 : Int32))) &&& (252645135 : Int32)))]) C dJ6_bitCount_0f7a4_33 rfl (by decide) rfl ?_
  refine g_iload_n C 0 dJ6_bitCount_0f7a4_34 rfl rfl ?_
  refine g_iload_n C 0 dJ6_bitCount_0f7a4_35 rfl rfl ?_
  refine g_bipush C dJ6_bitCount_0f7a4_36 cc_b_8 ?_
  refine g_iushr C dJ6_bitCount_0f7a4_38 ?_
  refine g_iadd C dJ6_bitCount_0f7a4_39 ?_
  refine g_istore_n (lv' := [(0, .int ((((((x0 - ((ush x0 (1 : Int32)) &&& (1431655765 : Int32))) &&& (858993459 : Int32)) + ((ush (x0 - ((ush x0 (1 : Int32)) &&& (1431655765 : Int32))) (2 : Int32)) &&& (858993459 : Int32))) + (ush (((x0 - ((ush x0 (1 : Int32)) &&& (1431655765 : Int32))) &&& (858993459 : Int32)) + ((ush (x0 - ((ush x0 (1 : Int32)) &&& (1431655765 : Int32))) (2 : Int32)) &&& (858993459 : Int32))) (4 : Int32))) &&& (252645135 : Int32)) + (ush (((((x0 - ((ush x0 (1 : Int32)) &&& (1431655765 : Int32))) &&& (858993459 : Int32)) + ((ush (x0 - ((ush x0 (1 : Int32)) &&& (1431655765 : Int32))) (2 : Int32)) &&& (858993459 : Int32))) + (ush (((x0 - ((ush x0 (1 : Int32)) &&& (1431655765 : Int32))) &&& (858993459 : Int32)) + ((ush (x0 - ((ush x0 (1 : Int32)) &&& (1431655765 : Int32))) (2 : Int32)) &&& (858993459 : Int32))) (4 : Int32))) &&& (252645135 : Int32)) (8 : Int32))))]) C dJ6_bitCount_0f7a4_40 rfl (by decide) rfl ?_
  refine g_iload_n C 0 dJ6_bitCount_0f7a4_41 rfl rfl ?_
  refine g_iload_n C 0 dJ6_bitCount_0f7a4_42 rfl rfl ?_
  refine g_bipush C dJ6_bitCount_0f7a4_43 cc_b_16 ?_
  refine g_iushr C dJ6_bitCount_0f7a4_45 ?_
  refine g_iadd C dJ6_bitCount_0f7a4_46 ?_
  refine g_istore_n (lv' := [(0, .int (((((((x0 - ((ush x0 (1 : Int32)) &&& (1431655765 : Int32))) &&& (858993459 : Int32)) + ((ush (x0 - ((ush x0 (1 : Int32)) &&& (1431655765 : Int32))) (2 : Int32)) &&& (858993459 : Int32))) + (ush (((x0 - ((ush x0 (1 : Int32)) &&& (1431655765 : Int32))) &&& (858993459 : Int32)) + ((ush (x0 - ((ush x0 (1 : Int32)) &&& (1431655765 : Int32))) (2 : Int32)) &&& (858993459 : Int32))) (4 : Int32))) &&& (252645135 : Int32)) + (ush (((((x0 - ((ush x0 (1 : Int32)) &&& (1431655765 : Int32))) &&& (858993459 : Int32)) + ((ush (x0 - ((ush x0 (1 : Int32)) &&& (1431655765 : Int32))) (2 : Int32)) &&& (858993459 : Int32))) + (ush (((x0 - ((ush x0 (1 : Int32)) &&& (1431655765 : Int32))) &&& (858993459 : Int32)) + ((ush (x0 - ((ush x0 (1 : Int32)) &&& (1431655765 : Int32))) (2 : Int32)) &&& (858993459 : Int32))) (4 : Int32))) &&& (252645135 : Int32)) (8 : Int32))) + (ush ((((((x0 - ((ush x0 (1 : Int32)) &&& (1431655765 : Int32))) &&& (858993459 : Int32)) + ((ush (x0 - ((ush x0 (1 : Int32)) &&& (1431655765 : Int32))) (2 : Int32)) &&& (858993459 : Int32))) + (ush (((x0 - ((ush x0 (1 : Int32)) &&& (1431655765 : Int32))) &&& (858993459 : Int32)) + ((ush (x0 - ((ush x0 (1 : Int32)) &&& (1431655765 : Int32))) (2 : Int32)) &&& (858993459 : Int32))) (4 : Int32))) &&& (252645135 : Int32)) + (ush (((((x0 - ((ush x0 (1 : Int32)) &&& (1431655765 : Int32))) &&& (858993459 : Int32)) + ((ush (x0 - ((ush x0 (1 : Int32)) &&& (1431655765 : Int32))) (2 : Int32)) &&& (858993459 : Int32))) + (ush (((x0 - ((ush x0 (1 : Int32)) &&& (1431655765 : Int32))) &&& (858993459 : Int32)) + ((ush (x0 - ((ush x0 (1 : Int32)) &&& (1431655765 : Int32))) (2 : Int32)) &&& (858993459 : Int32))) (4 : Int32))) &&& (252645135 : Int32)) (8 : Int32))) (16 : Int32))))]) C dJ6_bitCount_0f7a4_47 rfl (by decide) rfl ?_
  refine g_iload_n C 0 dJ6_bitCount_0f7a4_48 rfl rfl ?_
  refine g_bipush C dJ6_bitCount_0f7a4_49 cc_b_63 ?_
  refine g_iand C dJ6_bitCount_0f7a4_51 ?_
  have e9 := Option.some.inj hs
  subst e9
  exact g_iret C hR dJ6_bitCount_0f7a4_52
set_option maxHeartbeats 4000000 in
set_option maxRecDepth 100000 in
theorem wb_X4_helps_28 {l : Launch} {E : Ep} {X : Fx} {res : Int32} (C : CX E X RX4 cX4_helps 2 4) (h : Hp) (s0 : Int32) (hs : b_X4_helps_28  h s0 = some res) (hR : RT E X (some .int) (some (.int res)) h) : GG l E X h 28 [] [.int s0] := by
  have e9 := Option.some.inj hs
  subst e9
  exact g_iret C hR dX4_helps_28
set_option maxHeartbeats 4000000 in
set_option maxRecDepth 100000 in
theorem w_X4_helps (l : Launch) (E : Ep) (h : Hp) (a0 : Nat) (res : Int32) (oa0 : OKr a0 4) (hs : sh_X4_helps h a0 = some res) : MG l E yX4_helps cX4_helps 2 (some .int) 4 [.ref (ad E a0)] h (some (.int res)) h := by
  refine MG.of (by decide) (Nat.le_of_ble_eq_true rfl) ?_
  intro X C hR
  have C : CX E X RX4 cX4_helps 2 4 := C
  show GG l E X h 0 [(0, .ref (ad E a0))] []
  refine g_aload_n C 0 dX4_helps_0 rfl rfl ?_
  refine gf4_0 C oa0 lf_X4_10 dX4_helps_1 ?_
  obtain ⟨v1, hcv1, hs⟩ := bnd hs
  refine g_cVN (As := []) (rest := []) C (w_X3_whoCannotBegin l E _ _ _ (tg4_0 oa0) hcv1) mw_X3_whoCannotBegin lm_X4_176 (tg4_0 oa0) rfl (ce3 E _ ((tg4_0 oa0)).2) rfl (by decide) rfl (Nat.le_of_ble_eq_true rfl) dX4_helps_4 rfl ?_
  obtain ⟨v2, hcv2, hs⟩ := bnd hs
  refine g_cS (As := [.int v1]) (rest := []) C (w_J6_bitCount_0f7a4 l E _ _ _ hcv2) mw_J6_bitCount_0f7a4 lm_X4_179 rfl (by decide) rfl (Nat.le_of_ble_eq_true rfl) dX4_helps_7 rfl ?_
  refine g_istore_n (lv' := [(1, .int v2), (0, .ref (ad E a0))]) C dX4_helps_10 rfl (by decide) rfl ?_
  refine g_iload_n C 0 dX4_helps_11 rfl rfl ?_
  refine g_if_ne (tgt := 20) C dX4_helps_12 (by decide) hs (fun hs => ?_) (fun hs => ?_)
  · refine g_bipush C dX4_helps_15 cc_b_m9 ?_
    refine g_goto (tgt := 28) C dX4_helps_17 (by decide) ?_
    refine g_sub [] rfl ?_
    exact wb_X4_helps_28 C h (-9 : Int32) hs hR
  · refine g_aload_n C 1 dX4_helps_20 rfl rfl ?_
    refine gf4_0 C oa0 lf_X4_10 dX4_helps_21 ?_
    refine g_iload_n C 0 dX4_helps_24 rfl rfl ?_
    obtain ⟨v3, hcv3, hs⟩ := bnd hs
    refine g_cVN (As := [.int v2]) (rest := []) C (w_X3_richestAbove l E _ _ _ _ (tg4_0 oa0) hcv3) mw_X3_richestAbove lm_X4_153 (tg4_0 oa0) rfl (ce3 E _ ((tg4_0 oa0)).2) rfl (by decide) rfl (Nat.le_of_ble_eq_true rfl) dX4_helps_25 rfl ?_
    refine g_sub [] rfl ?_
    exact wb_X4_helps_28 C h v3 hs hR
set_option maxHeartbeats 4000000 in
set_option maxRecDepth 100000 in
theorem w_X4_hasByLaw (l : Launch) (E : Ep) (h : Hp) (a0 : Nat) (x1 : Int32) (x2 : Int32) (x3 : Int32) (res : Int32 × Hp) (oa0 : OKr a0 4) (hs : sh_X4_hasByLaw h a0 x1 x2 x3 = some res) : MG l E yX4_hasByLaw cX4_hasByLaw 4 (some .int) 6 [.ref (ad E a0), .int x1, .int x2, .int x3] h (some (.int res.1)) res.2 := by
  refine MG.of (by decide) (Nat.le_of_ble_eq_true rfl) ?_
  intro X C hR
  have C : CX E X RX4 cX4_hasByLaw 4 6 := C
  show GG l E X h 0 [(0, .ref (ad E a0)), (1, .int x1), (2, .int x2), (3, .int x3)] []
  refine g_aload_n C 0 dX4_hasByLaw_0 rfl rfl ?_
  refine gf4_2 C oa0 lf_X4_19 dX4_hasByLaw_1 ?_
  refine g_aload_n C 0 dX4_hasByLaw_4 rfl rfl ?_
  refine gf4_0 C oa0 lf_X4_10 dX4_hasByLaw_5 ?_
  obtain ⟨h1, hch1, hs⟩ := bnd hs
  refine g_cVN (As := [.ref (ad E (rf a0 0))]) (rest := []) C (w_X3_become l E _ _ _ _ (tg4_2 oa0) (tg4_0 oa0) hch1) mw_X3_become lm_X4_149 (tg4_2 oa0) rfl (ce3 E _ ((tg4_2 oa0)).2) rfl (by decide) rfl (Nat.le_of_ble_eq_true rfl) dX4_hasByLaw_8 rfl ?_
  refine g_aload_n C 0 dX4_hasByLaw_11 rfl rfl ?_
  refine gf4_2 C oa0 lf_X4_19 dX4_hasByLaw_12 ?_
  refine g_iconst C dX4_hasByLaw_15 cc_i_0 ?_
  refine g_iload_n C 1 dX4_hasByLaw_16 rfl rfl ?_
  obtain ⟨q2, hcq2, hs⟩ := bnd hs
  refine g_cVN (As := [.int (0 : Int32), .int x1]) (rest := []) C (w_X3_changeSetting l E _ _ _ _ _ (tg4_2 oa0) hcq2) mw_X3_changeSetting lm_X4_114 (tg4_2 oa0) rfl (ce3 E _ ((tg4_2 oa0)).2) rfl (by decide) rfl (Nat.le_of_ble_eq_true rfl) dX4_hasByLaw_17 rfl ?_
  refine g_pop C dX4_hasByLaw_20 rfl ?_
  refine g_aload_n C 0 dX4_hasByLaw_21 rfl rfl ?_
  refine gf4_2 C oa0 lf_X4_19 dX4_hasByLaw_22 ?_
  refine g_iload_n C 3 dX4_hasByLaw_25 rfl rfl ?_
  obtain ⟨h3, hch3, hs⟩ := bnd hs
  refine g_cVN (As := [.int x3]) (rest := []) C (w_X3_passDays l E _ _ _ _ (tg4_2 oa0) hch3) mw_X3_passDays lm_X4_187 (tg4_2 oa0) rfl (ce3 E _ ((tg4_2 oa0)).2) rfl (by decide) rfl (Nat.le_of_ble_eq_true rfl) dX4_hasByLaw_26 rfl ?_
  refine g_aload_n C 0 dX4_hasByLaw_29 rfl rfl ?_
  refine gf4_2 C oa0 lf_X4_19 dX4_hasByLaw_30 ?_
  refine gf3_3N C (tg4_2 oa0) lf_X4_77 dX4_hasByLaw_33 ?_
  refine g_iload_n C 2 dX4_hasByLaw_36 rfl rfl ?_
  refine g_iald C (tg3_3 (tg4_2 oa0)) dX4_hasByLaw_37 hs (fun v4 hs => ?_)
  have e9 := Option.some.inj hs
  subst e9
  exact g_iret C hR dX4_hasByLaw_38
set_option maxHeartbeats 4000000 in
set_option maxRecDepth 100000 in
theorem wb_X4_byLaw_9 {l : Launch} {E : Ep} {X : Fx} {res : Int32 × Hp} (C : CX E X RX4 cX4_byLaw 5 7) (h : Hp) (a0 : Nat) (oa0 : OKr a0 4) (hs : b_X4_byLaw_9  h a0 = some res) (hR : RT E X (some .int) (some (.int res.1)) res.2) : GG l E X h 9 [(0, .ref (ad E a0))] [] := by
  refine g_aload_n C 0 dX4_byLaw_9 rfl rfl ?_
  refine g_bipush C dX4_byLaw_10 cc_b_m2 ?_
  obtain ⟨q1, hcq1, hs⟩ := bnd hs
  refine g_cV (As := [.int (-2 : Int32)]) (rest := []) C (w_X4_refuse l E _ _ _ _ oa0 hcq1) mw_X4_refuse lm_X4_46 oa0 rfl (ce4 E _ (oa0).2) rfl (by decide) rfl (Nat.le_of_ble_eq_true rfl) dX4_byLaw_12 rfl ?_
  have e9 := Option.some.inj hs
  subst e9
  exact g_iret C hR dX4_byLaw_15
set_option maxHeartbeats 4000000 in
set_option maxRecDepth 100000 in
theorem w_X4_byLaw (l : Launch) (E : Ep) (h : Hp) (a0 : Nat) (x1 : Int32) (x2 : Int32) (x3 : Int32) (res : Int32 × Hp) (oa0 : OKr a0 4) (hs : sh_X4_byLaw h a0 x1 x2 x3 = some res) : MG l E yX4_byLaw cX4_byLaw 5 (some .int) 7 [.ref (ad E a0), .int x1, .int x2, .int x3] h (some (.int res.1)) res.2 := by
  refine MG.of (by decide) (Nat.le_of_ble_eq_true rfl) ?_
  intro X C hR
  have C : CX E X RX4 cX4_byLaw 5 7 := C
  show GG l E X h 0 [(0, .ref (ad E a0)), (1, .int x1), (2, .int x2), (3, .int x3)] []
  refine g_iload_n C 1 dX4_byLaw_0 rfl rfl ?_
  refine g_if_lt (tgt := 9) C dX4_byLaw_1 (by decide) hs (fun hs => ?_) (fun hs => ?_)
  · refine g_sub [0] rfl ?_
    exact wb_X4_byLaw_9 C h a0 oa0 hs hR
  · refine g_iload_n C 1 dX4_byLaw_4 rfl rfl ?_
    refine g_iconst C dX4_byLaw_5 cc_i_5 ?_
    refine g_icmp_le (tgt := 16) C dX4_byLaw_6 (by decide) hs (fun hs => ?_) (fun hs => ?_)
    · refine g_aload_n C 0 dX4_byLaw_16 rfl rfl ?_
      refine g_iload_n C 2 dX4_byLaw_17 rfl rfl ?_
      refine g_iload_n C 3 dX4_byLaw_18 rfl rfl ?_
      refine g_iconst C dX4_byLaw_19 cc_i_0 ?_
      refine g_bipush C dX4_byLaw_20 cc_b_60 ?_
      obtain ⟨v1, hcv1, hs⟩ := bnd hs
      refine g_cV (As := [.int x2, .int x3, .int (0 : Int32), .int (60 : Int32)]) (rest := []) C (w_X4_ofOneRefusal l E _ _ _ _ _ _ _ oa0 hcv1) mw_X4_ofOneRefusal lm_X4_138 oa0 rfl (ce4 E _ (oa0).2) rfl (by decide) rfl (Nat.le_of_ble_eq_true rfl) dX4_byLaw_22 rfl ?_
      refine g_istore (lv' := [(4, .int v1), (0, .ref (ad E a0)), (1, .int x1), (2, .int x2), (3, .int x3)]) C dX4_byLaw_25 (by decide) rfl ?_
      refine g_iload C 0 dX4_byLaw_27 rfl ?_
      refine g_if_eq (tgt := 39) C dX4_byLaw_29 (by decide) hs (fun hs => ?_) (fun hs => ?_)
      · refine g_aload_n C 1 dX4_byLaw_39 rfl rfl ?_
        refine g_iload_n C 2 dX4_byLaw_40 rfl rfl ?_
        refine g_iload_n C 3 dX4_byLaw_41 rfl rfl ?_
        refine g_iload_n C 4 dX4_byLaw_42 rfl rfl ?_
        obtain ⟨q2, hcq2, hs⟩ := bnd hs
        refine g_cV (As := [.int x1, .int x2, .int x3]) (rest := []) C (w_X4_hasByLaw l E _ _ _ _ _ _ oa0 hcq2) mw_X4_hasByLaw lm_X4_184 oa0 rfl (ce4 E _ (oa0).2) rfl (by decide) rfl (Nat.le_of_ble_eq_true rfl) dX4_byLaw_43 rfl ?_
        have e9 := Option.some.inj hs
        subst e9
        exact g_iret C hR dX4_byLaw_46
      · refine g_aload_n C 1 dX4_byLaw_32 rfl rfl ?_
        refine g_iload C 0 dX4_byLaw_33 rfl ?_
        obtain ⟨q3, hcq3, hs⟩ := bnd hs
        refine g_cV (As := [.int v1]) (rest := []) C (w_X4_refuse l E _ _ _ _ oa0 hcq3) mw_X4_refuse lm_X4_46 oa0 rfl (ce4 E _ (oa0).2) rfl (by decide) rfl (Nat.le_of_ble_eq_true rfl) dX4_byLaw_35 rfl ?_
        have e9 := Option.some.inj hs
        subst e9
        exact g_iret C hR dX4_byLaw_38
    · refine g_sub [0] rfl ?_
      exact wb_X4_byLaw_9 C h a0 oa0 hs hR
set_option maxHeartbeats 4000000 in
set_option maxRecDepth 100000 in
theorem w_X4_byBack (l : Launch) (E : Ep) (h : Hp) (a0 : Nat) (x1 : Int32) (x2 : Int32) (x3 : Int32) (res : Int32 × Hp) (oa0 : OKr a0 4) (hs : sh_X4_byBack h a0 x1 x2 x3 = some res) : MG l E yX4_byBack cX4_byBack 5 (some .int) 6 [.ref (ad E a0), .int x1, .int x2, .int x3] h (some (.int res.1)) res.2 := by
  refine MG.of (by decide) (Nat.le_of_ble_eq_true rfl) ?_
  intro X C hR
  have C : CX E X RX4 cX4_byBack 5 6 := C
  show GG l E X h 0 [(0, .ref (ad E a0)), (1, .int x1), (2, .int x2), (3, .int x3)] []
  refine g_aload_n C 0 dX4_byBack_0 rfl rfl ?_
  refine g_iload_n C 2 dX4_byBack_1 rfl rfl ?_
  refine g_iload_n C 1 dX4_byBack_2 rfl rfl ?_
  refine g_iconst C dX4_byBack_3 cc_i_0 ?_
  refine g_iconst C dX4_byBack_4 cc_i_5 ?_
  obtain ⟨v1, hcv1, hs⟩ := bnd hs
  refine g_cS (As := [.int x1, .int (0 : Int32), .int (5 : Int32)]) (rest := [.int x2, .ref (ad E a0)]) C (w_X4_outside l E _ _ _ _ _ hcv1) mw_X4_outside lm_X4_111 rfl (by decide) rfl (Nat.le_of_ble_eq_true rfl) dX4_byBack_5 rfl ?_
  refine g_iload_n C 3 dX4_byBack_8 rfl rfl ?_
  refine g_iconst C dX4_byBack_9 cc_i_0 ?_
  refine g_bipush C dX4_byBack_10 cc_b_60 ?_
  obtain ⟨v2, hcv2, hs⟩ := bnd hs
  refine g_cS (As := [.int x3, .int (0 : Int32), .int (60 : Int32)]) (rest := [.int v1, .int x2, .ref (ad E a0)]) C (w_X4_outside l E _ _ _ _ _ hcv2) mw_X4_outside lm_X4_111 rfl (by decide) rfl (Nat.le_of_ble_eq_true rfl) dX4_byBack_12 rfl ?_
  obtain ⟨v3, hcv3, hs⟩ := bnd hs
  refine g_cV (As := [.int x2, .int v1, .int v2]) (rest := []) C (w_X4_ofOneTwiceRefusal l E _ _ _ _ _ _ oa0 hcv3) mw_X4_ofOneTwiceRefusal lm_X4_170 oa0 rfl (ce4 E _ (oa0).2) rfl (by decide) rfl (Nat.le_of_ble_eq_true rfl) dX4_byBack_15 rfl ?_
  refine g_istore (lv' := [(4, .int v3), (0, .ref (ad E a0)), (1, .int x1), (2, .int x2), (3, .int x3)]) C dX4_byBack_18 (by decide) rfl ?_
  refine g_iload C 0 dX4_byBack_20 rfl ?_
  refine g_if_eq (tgt := 32) C dX4_byBack_22 (by decide) hs (fun hs => ?_) (fun hs => ?_)
  · refine g_aload_n C 1 dX4_byBack_32 rfl rfl ?_
    refine gf4_2 C oa0 lf_X4_19 dX4_byBack_33 ?_
    refine g_aload_n C 1 dX4_byBack_36 rfl rfl ?_
    refine gf4_0 C oa0 lf_X4_10 dX4_byBack_37 ?_
    obtain ⟨h4, hch4, hs⟩ := bnd hs
    refine g_cVN (As := [.ref (ad E (rf a0 0))]) (rest := []) C (w_X3_become l E _ _ _ _ (tg4_2 oa0) (tg4_0 oa0) hch4) mw_X3_become lm_X4_149 (tg4_2 oa0) rfl (ce3 E _ ((tg4_2 oa0)).2) rfl (by decide) rfl (Nat.le_of_ble_eq_true rfl) dX4_byBack_40 rfl ?_
    refine g_aload_n C 1 dX4_byBack_43 rfl rfl ?_
    refine gf4_2 C oa0 lf_X4_19 dX4_byBack_44 ?_
    refine g_iconst C dX4_byBack_47 cc_i_2 ?_
    refine g_iload_n C 2 dX4_byBack_48 rfl rfl ?_
    obtain ⟨q5, hcq5, hs⟩ := bnd hs
    refine g_cVN (As := [.int (2 : Int32), .int x1]) (rest := []) C (w_X3_changeSetting l E _ _ _ _ _ (tg4_2 oa0) hcq5) mw_X3_changeSetting lm_X4_114 (tg4_2 oa0) rfl (ce3 E _ ((tg4_2 oa0)).2) rfl (by decide) rfl (Nat.le_of_ble_eq_true rfl) dX4_byBack_49 rfl ?_
    refine g_pop C dX4_byBack_52 rfl ?_
    refine g_aload_n C 1 dX4_byBack_53 rfl rfl ?_
    refine gf4_2 C oa0 lf_X4_19 dX4_byBack_54 ?_
    refine g_iload_n C 4 dX4_byBack_57 rfl rfl ?_
    obtain ⟨h6, hch6, hs⟩ := bnd hs
    refine g_cVN (As := [.int x3]) (rest := []) C (w_X3_passDays l E _ _ _ _ (tg4_2 oa0) hch6) mw_X3_passDays lm_X4_187 (tg4_2 oa0) rfl (ce3 E _ ((tg4_2 oa0)).2) rfl (by decide) rfl (Nat.le_of_ble_eq_true rfl) dX4_byBack_58 rfl ?_
    refine g_aload_n C 1 dX4_byBack_61 rfl rfl ?_
    refine gf4_2 C oa0 lf_X4_19 dX4_byBack_62 ?_
    refine gf3_3N C (tg4_2 oa0) lf_X4_77 dX4_byBack_65 ?_
    refine g_iload_n C 3 dX4_byBack_68 rfl rfl ?_
    refine g_iald C (tg3_3 (tg4_2 oa0)) dX4_byBack_69 hs (fun v7 hs => ?_)
    have e9 := Option.some.inj hs
    subst e9
    exact g_iret C hR dX4_byBack_70
  · refine g_aload_n C 1 dX4_byBack_25 rfl rfl ?_
    refine g_iload C 0 dX4_byBack_26 rfl ?_
    obtain ⟨q8, hcq8, hs⟩ := bnd hs
    refine g_cV (As := [.int v3]) (rest := []) C (w_X4_refuse l E _ _ _ _ oa0 hcq8) mw_X4_refuse lm_X4_46 oa0 rfl (ce4 E _ (oa0).2) rfl (by decide) rfl (Nat.le_of_ble_eq_true rfl) dX4_byBack_28 rfl ?_
    have e9 := Option.some.inj hs
    subst e9
    exact g_iret C hR dX4_byBack_31
