set_option maxHeartbeats 4000000 in
set_option maxRecDepth 100000 in
theorem w_X5_most (l : Launch) (E : Ep) (h : Hp) (a0 : Nat) (x1 : Int32) (x2 : Int32) (res : Int32 × Hp) (oa0 : OKr a0 5) (hs : sh_X5_most h a0 x1 x2 = some res) : MG l E yX5_most cX5_most 4 (some .int) 7 [.ref (ad E a0), .int x1, .int x2] h (some (.int res.1)) res.2 := by
  refine MG.of (by decide) (Nat.le_of_ble_eq_true rfl) ?_
  intro X C hR
  have C : CX E X RX5 cX5_most 4 7 := C
  show GG l E X h 0 [(0, .ref (ad E a0)), (1, .int x1), (2, .int x2)] []
  refine g_aload_n C 0 dX5_most_0 rfl rfl ?_
  refine g_iconst C dX5_most_1 cc_i_0 ?_
  refine pf5_13 C oa0 lf_X5_68 dX5_most_2 ?_
  refine g_aload_n C 0 dX5_most_5 rfl rfl ?_
  refine g_iload_n C 1 dX5_most_6 rfl rfl ?_
  refine g_iload_n C 2 dX5_most_7 rfl rfl ?_
  refine g_iconst C dX5_most_8 cc_i_1 ?_
  refine g_bipush C dX5_most_9 cc_b_6 ?_
  obtain ⟨v1, hcv1, hs⟩ := bnd hs
  refine g_cV (As := [.int x1, .int x2, .int (1 : Int32), .int (6 : Int32)]) (rest := []) C (w_X5_wrongOne l E _ _ _ _ _ _ _ oa0 hcv1) mw_X5_wrongOne lm_X5_226 oa0 rfl (ce5 E _ (oa0).2) rfl (by decide) rfl (Nat.le_of_ble_eq_true rfl) dX5_most_11 rfl ?_
  refine g_istore_n (lv' := [(3, .int v1), (0, .ref (ad E a0)), (1, .int x1), (2, .int x2)]) C dX5_most_14 rfl (by decide) rfl ?_
  refine g_iload_n C 0 dX5_most_15 rfl rfl ?_
  refine g_if_ge (tgt := 25) C dX5_most_16 (by decide) hs (fun hs => ?_) (fun hs => ?_)
  · refine g_aload_n C 1 dX5_most_25 rfl rfl ?_
    refine g_iload_n C 2 dX5_most_26 rfl rfl ?_
    refine g_iload_n C 3 dX5_most_27 rfl rfl ?_
    obtain ⟨h2, hch2, hs⟩ := bnd hs
    refine g_cV (As := [.int x1, .int x2]) (rest := []) C (w_X5_findMost l E _ _ _ _ _ oa0 hch2) mw_X5_findMost lm_X5_265 oa0 rfl (ce5 E _ (oa0).2) rfl (by decide) rfl (Nat.le_of_ble_eq_true rfl) dX5_most_28 rfl ?_
    refine g_aload_n C 1 dX5_most_31 rfl rfl ?_
    refine gf5_32 C oa0 lf_X5_259 dX5_most_32 ?_
    have e9 := Option.some.inj hs
    subst e9
    exact g_iret C hR dX5_most_35
  · refine g_aload_n C 1 dX5_most_19 rfl rfl ?_
    refine g_iload_n C 0 dX5_most_20 rfl rfl ?_
    obtain ⟨q3, hcq3, hs⟩ := bnd hs
    refine g_cV (As := [.int v1]) (rest := []) C (w_X5_refuse l E _ _ _ _ oa0 hcq3) mw_X5_refuse lm_X5_152 oa0 rfl (ce5 E _ (oa0).2) rfl (by decide) rfl (Nat.le_of_ble_eq_true rfl) dX5_most_21 rfl ?_
    have e9 := Option.some.inj hs
    subst e9
    exact g_iret C hR dX5_most_24
set_option maxHeartbeats 4000000 in
set_option maxRecDepth 100000 in
theorem wb_X5_choice_88 {l : Launch} {E : Ep} {X : Fx} {res : Int32 × Hp} (C : CX E X RX5 cX5_choice 5 7) (h : Hp) (s0 : Int32) (hs : b_X5_choice_88  h s0 = some res) (hR : RT E X (some .int) (some (.int res.1)) res.2) : GG l E X h 88 [] [.int s0] := by
  have e9 := Option.some.inj hs
  subst e9
  exact g_iret C hR dX5_choice_88
set_option maxHeartbeats 4000000 in
set_option maxRecDepth 100000 in
theorem wb_X5_choice_43 {l : Launch} {E : Ep} {X : Fx} {res : Int32 × Hp} (C : CX E X RX5 cX5_choice 5 7) (h : Hp) (a0 : Nat) (x1 : Int32) (x2 : Int32) (x3 : Int32) (s0 : Int32) (oa0 : OKr a0 5) (hs : b_X5_choice_43  h a0 x1 x2 x3 s0 = some res) (hR : RT E X (some .int) (some (.int res.1)) res.2) : GG l E X h 43 [(0, .ref (ad E a0)), (1, .int x1), (2, .int x2), (3, .int x3)] [.int s0] := by
  refine g_istore (lv' := [(4, .int s0), (0, .ref (ad E a0)), (1, .int x1), (2, .int x2), (3, .int x3)]) C dX5_choice_43 (by decide) rfl ?_
  refine g_iload C 0 dX5_choice_45 rfl ?_
  refine g_if_ge (tgt := 57) C dX5_choice_47 (by decide) hs (fun hs => ?_) (fun hs => ?_)
  · refine g_aload_n C 1 dX5_choice_57 rfl rfl ?_
    refine g_iload_n C 2 dX5_choice_58 rfl rfl ?_
    refine g_iload_n C 3 dX5_choice_59 rfl rfl ?_
    obtain ⟨h1, hch1, hs⟩ := bnd hs
    refine g_cV (As := [.int x1, .int x2]) (rest := []) C (w_X5_findMost l E _ _ _ _ _ oa0 hch1) mw_X5_findMost lm_X5_265 oa0 rfl (ce5 E _ (oa0).2) rfl (by decide) rfl (Nat.le_of_ble_eq_true rfl) dX5_choice_60 rfl ?_
    refine g_iload_n C 4 dX5_choice_63 rfl rfl ?_
    refine g_iload_n C 3 dX5_choice_64 rfl rfl ?_
    refine g_icmp_ge (tgt := 86) C dX5_choice_65 (by decide) hs (fun hs => ?_) (fun hs => ?_)
    · refine g_bipush C dX5_choice_86 cc_b_m9 ?_
      refine g_sub [] rfl ?_
      exact wb_X5_choice_88 C h1 (-9 : Int32) hs hR
    · refine g_aload_n C 1 dX5_choice_68 rfl rfl ?_
      refine gf5_31 C oa0 lf_X5_256 dX5_choice_69 ?_
      refine g_iload_n C 3 dX5_choice_72 rfl rfl ?_
      refine g_iconst C dX5_choice_73 cc_i_1 ?_
      refine g_isub C dX5_choice_74 ?_
      refine g_iload_n C 4 dX5_choice_75 rfl rfl ?_
      refine g_isub C dX5_choice_76 ?_
      obtain ⟨v2, hcv2, hs⟩ := bnd hs
      refine g_cS (As := [.int ((x2 - (1 : Int32)) - x3)]) (rest := [.int (h1.1 a0 31)]) C (w_X5_power l E _ _ _ hcv2) mw_X5_power lm_X5_249 rfl (by decide) rfl (Nat.le_of_ble_eq_true rfl) dX5_choice_77 rfl ?_
      refine g_idiv C dX5_choice_80 hs (fun v3 hs => ?_)
      refine g_iconst C dX5_choice_81 cc_i_3 ?_
      refine g_iremC C dX5_choice_82 (by decide) ?_
      refine g_goto (tgt := 88) C dX5_choice_83 (by decide) ?_
      refine g_sub [] rfl ?_
      exact wb_X5_choice_88 C h1 (v3 - v3 / (3 : Int32) * (3 : Int32)) hs hR
  · refine g_aload_n C 1 dX5_choice_50 rfl rfl ?_
    refine g_iload C 0 dX5_choice_51 rfl ?_
    obtain ⟨q4, hcq4, hs⟩ := bnd hs
    refine g_cV (As := [.int s0]) (rest := []) C (w_X5_refuse l E _ _ _ _ oa0 hcq4) mw_X5_refuse lm_X5_152 oa0 rfl (ce5 E _ (oa0).2) rfl (by decide) rfl (Nat.le_of_ble_eq_true rfl) dX5_choice_53 rfl ?_
    have e9 := Option.some.inj hs
    subst e9
    exact g_iret C hR dX5_choice_56
set_option maxHeartbeats 4000000 in
set_option maxRecDepth 100000 in
theorem wb_X5_choice_26 {l : Launch} {E : Ep} {X : Fx} {res : Int32 × Hp} (C : CX E X RX5 cX5_choice 5 7) (h : Hp) (a0 : Nat) (x1 : Int32) (x2 : Int32) (x3 : Int32) (oa0 : OKr a0 5) (hs : b_X5_choice_26  h a0 x1 x2 x3 = some res) (hR : RT E X (some .int) (some (.int res.1)) res.2) : GG l E X h 26 [(0, .ref (ad E a0)), (1, .int x1), (2, .int x2), (3, .int x3)] [] := by
  refine g_bipush C dX5_choice_26 cc_b_m4 ?_
  refine g_goto (tgt := 43) C dX5_choice_28 (by decide) ?_
  exact wb_X5_choice_43 C h a0 x1 x2 x3 (-4 : Int32) oa0 hs hR
set_option maxHeartbeats 4000000 in
set_option maxRecDepth 100000 in
theorem w_X5_choice (l : Launch) (E : Ep) (h : Hp) (a0 : Nat) (x1 : Int32) (x2 : Int32) (x3 : Int32) (res : Int32 × Hp) (oa0 : OKr a0 5) (hs : sh_X5_choice h a0 x1 x2 x3 = some res) : MG l E yX5_choice cX5_choice 5 (some .int) 7 [.ref (ad E a0), .int x1, .int x2, .int x3] h (some (.int res.1)) res.2 := by
  refine MG.of (by decide) (Nat.le_of_ble_eq_true rfl) ?_
  intro X C hR
  have C : CX E X RX5 cX5_choice 5 7 := C
  show GG l E X h 0 [(0, .ref (ad E a0)), (1, .int x1), (2, .int x2), (3, .int x3)] []
  refine g_aload_n C 0 dX5_choice_0 rfl rfl ?_
  refine g_iconst C dX5_choice_1 cc_i_0 ?_
  refine pf5_13 C oa0 lf_X5_68 dX5_choice_2 ?_
  refine g_aload_n C 0 dX5_choice_5 rfl rfl ?_
  refine g_iload_n C 1 dX5_choice_6 rfl rfl ?_
  obtain ⟨v1, hcv1, hs⟩ := bnd hs
  refine g_cV (As := [.int x1]) (rest := []) C (w_X5_isOne l E _ _ _ _ oa0 hcv1) mw_X5_isOne lm_X5_199 oa0 rfl (ce5 E _ (oa0).2) rfl (by decide) rfl (Nat.le_of_ble_eq_true rfl) dX5_choice_7 rfl ?_
  refine g_if_ne (tgt := 17) C dX5_choice_10 (by decide) hs (fun hs => ?_) (fun hs => ?_)
  · refine g_iconst C dX5_choice_13 cc_i_m1 ?_
    refine g_goto (tgt := 43) C dX5_choice_14 (by decide) ?_
    exact wb_X5_choice_43 C (wI h a0 13 (0 : Int32)) a0 x1 x2 x3 (-1 : Int32) oa0 hs hR
  · refine g_iload_n C 2 dX5_choice_17 rfl rfl ?_
    refine g_iconst C dX5_choice_18 cc_i_1 ?_
    refine g_icmp_lt (tgt := 26) C dX5_choice_19 (by decide) hs (fun hs => ?_) (fun hs => ?_)
    · exact wb_X5_choice_26 C (wI h a0 13 (0 : Int32)) a0 x1 x2 x3 oa0 hs hR
    · refine g_iload_n C 3 dX5_choice_22 rfl rfl ?_
      refine g_if_ge (tgt := 31) C dX5_choice_23 (by decide) hs (fun hs => ?_) (fun hs => ?_)
      · refine g_iload_n C 2 dX5_choice_31 rfl rfl ?_
        refine g_bipush C dX5_choice_32 cc_b_6 ?_
        refine g_icmp_le (tgt := 42) C dX5_choice_34 (by decide) hs (fun hs => ?_) (fun hs => ?_)
        · refine g_iconst C dX5_choice_42 cc_i_0 ?_
          exact wb_X5_choice_43 C (wI h a0 13 (0 : Int32)) a0 x1 x2 x3 (0 : Int32) oa0 hs hR
        · refine g_bipush C dX5_choice_37 cc_b_m6 ?_
          refine g_goto (tgt := 43) C dX5_choice_39 (by decide) ?_
          exact wb_X5_choice_43 C (wI h a0 13 (0 : Int32)) a0 x1 x2 x3 (-6 : Int32) oa0 hs hR
      · exact wb_X5_choice_26 C (wI h a0 13 (0 : Int32)) a0 x1 x2 x3 oa0 hs hR
set_option maxHeartbeats 4000000 in
set_option maxRecDepth 100000 in
theorem w_X5_gap (l : Launch) (E : Ep) (h : Hp) (a0 : Nat) (x1 : Int32) (x2 : Int32) (res : Int32 × Hp) (oa0 : OKr a0 5) (hs : sh_X5_gap h a0 x1 x2 = some res) : MG l E yX5_gap cX5_gap 4 (some .int) 8 [.ref (ad E a0), .int x1, .int x2] h (some (.int res.1)) res.2 := by
  refine MG.of (by decide) (Nat.le_of_ble_eq_true rfl) ?_
  intro X C hR
  have C : CX E X RX5 cX5_gap 4 8 := C
  show GG l E X h 0 [(0, .ref (ad E a0)), (1, .int x1), (2, .int x2)] []
  refine g_aload_n C 0 dX5_gap_0 rfl rfl ?_
  refine g_iconst C dX5_gap_1 cc_i_0 ?_
  refine pf5_13 C oa0 lf_X5_68 dX5_gap_2 ?_
  refine g_aload_n C 0 dX5_gap_5 rfl rfl ?_
  refine g_iload_n C 1 dX5_gap_6 rfl rfl ?_
  refine g_iload_n C 2 dX5_gap_7 rfl rfl ?_
  refine g_iconst C dX5_gap_8 cc_i_1 ?_
  refine g_bipush C dX5_gap_9 cc_b_6 ?_
  obtain ⟨v1, hcv1, hs⟩ := bnd hs
  refine g_cV (As := [.int x1, .int x2, .int (1 : Int32), .int (6 : Int32)]) (rest := []) C (w_X5_wrongOne l E _ _ _ _ _ _ _ oa0 hcv1) mw_X5_wrongOne lm_X5_226 oa0 rfl (ce5 E _ (oa0).2) rfl (by decide) rfl (Nat.le_of_ble_eq_true rfl) dX5_gap_11 rfl ?_
  refine g_istore_n (lv' := [(3, .int v1), (0, .ref (ad E a0)), (1, .int x1), (2, .int x2)]) C dX5_gap_14 rfl (by decide) rfl ?_
  refine g_iload_n C 0 dX5_gap_15 rfl rfl ?_
  refine g_if_ge (tgt := 29) C dX5_gap_16 (by decide) hs (fun hs => ?_) (fun hs => ?_)
  · refine g_aload_n C 1 dX5_gap_29 rfl rfl ?_
    refine g_iload_n C 2 dX5_gap_30 rfl rfl ?_
    refine g_iload_n C 3 dX5_gap_31 rfl rfl ?_
    obtain ⟨h2, hch2, hs⟩ := bnd hs
    refine g_cV (As := [.int x1, .int x2]) (rest := []) C (w_X5_findMost l E _ _ _ _ _ oa0 hch2) mw_X5_findMost lm_X5_265 oa0 rfl (ce5 E _ (oa0).2) rfl (by decide) rfl (Nat.le_of_ble_eq_true rfl) dX5_gap_32 rfl ?_
    refine g_aload_n C 1 dX5_gap_35 rfl rfl ?_
    refine gf5_32 C oa0 lf_X5_259 dX5_gap_36 ?_
    refine g_aload_n C 1 dX5_gap_39 rfl rfl ?_
    refine g_iload_n C 2 dX5_gap_40 rfl rfl ?_
    refine g_iload_n C 3 dX5_gap_41 rfl rfl ?_
    obtain ⟨q3, hcq3, hs⟩ := bnd hs
    refine g_cV (As := [.int x1, .int x2]) (rest := [.int (h2.1 a0 32)]) C (w_X5_hasAfter l E _ _ _ _ _ oa0 hcq3) mw_X5_hasAfter lm_X5_230 oa0 rfl (ce5 E _ (oa0).2) rfl (by decide) rfl (Nat.le_of_ble_eq_true rfl) dX5_gap_42 rfl ?_
    refine g_isub C dX5_gap_45 ?_
    have e9 := Option.some.inj hs
    subst e9
    exact g_iret C hR dX5_gap_46
  · refine g_ldcw C dX5_gap_19 kk_X5_268 ?_
    refine g_aload_n C 1 dX5_gap_22 rfl rfl ?_
    refine g_iload_n C 0 dX5_gap_23 rfl rfl ?_
    obtain ⟨q4, hcq4, hs⟩ := bnd hs
    refine g_cV (As := [.int v1]) (rest := [.int (1000000000 : Int32)]) C (w_X5_refuse l E _ _ _ _ oa0 hcq4) mw_X5_refuse lm_X5_152 oa0 rfl (ce5 E _ (oa0).2) rfl (by decide) rfl (Nat.le_of_ble_eq_true rfl) dX5_gap_24 rfl ?_
    refine g_isub C dX5_gap_27 ?_
    have e9 := Option.some.inj hs
    subst e9
    exact g_iret C hR dX5_gap_28
set_option maxHeartbeats 4000000 in
set_option maxRecDepth 100000 in
theorem wb_X5_feast_127 {l : Launch} {E : Ep} {X : Fx} {res : Int32 × Hp} (C : CX E X RX5 cX5_feast 8 6) (k71 : Hp → Nat → Int32 → Int32 → Int32 → Int32 → Int32 → Option (Int32 × Hp)) (hk71 : ∀ (h : Hp) (a0 : Nat) (x1 : Int32) (x2 : Int32) (x3 : Int32) (x5 : Int32) (x6 : Int32), OKr a0 5 → k71 h a0 x1 x2 x3 x5 x6 = some res → RT E X (some .int) (some (.int res.1)) res.2 → GG l E X h 71 [(0, .ref (ad E a0)), (1, .int x1), (2, .int x2), (3, .int x3), (5, .int x5), (6, .int x6)] []) (h : Hp) (a0 : Nat) (x1 : Int32) (x2 : Int32) (x3 : Int32) (x6 : Int32) (s0 : Int32) (oa0 : OKr a0 5) (hs : b_X5_feast_127 k71 h a0 x1 x2 x3 x6 s0 = some res) (hR : RT E X (some .int) (some (.int res.1)) res.2) : GG l E X h 127 [(0, .ref (ad E a0)), (1, .int x1), (2, .int x2), (3, .int x3), (6, .int x6)] [.int s0] := by
  refine g_istore (lv' := [(5, .int s0), (0, .ref (ad E a0)), (1, .int x1), (2, .int x2), (3, .int x3), (6, .int x6)]) C dX5_feast_127 (by decide) rfl ?_
  refine g_iinc (lv' := [(6, .int (x6 + (1 : Int32))), (5, .int s0), (0, .ref (ad E a0)), (1, .int x1), (2, .int x2), (3, .int x3)]) (j := 5) C dX5_feast_129 rfl (cc_n_1 _) (by decide) rfl ?_
  refine g_goto (tgt := 71) C dX5_feast_132 (by decide) ?_
  refine g_sub [2, 3, 4, 5, 1, 0] rfl ?_
  exact hk71 h a0 x1 x2 x3 s0 (x6 + (1 : Int32)) oa0 hs hR
set_option maxHeartbeats 4000000 in
set_option maxRecDepth 100000 in
theorem wb_X5_feast_118 {l : Launch} {E : Ep} {X : Fx} {res : Int32 × Hp} (C : CX E X RX5 cX5_feast 8 6) (k71 : Hp → Nat → Int32 → Int32 → Int32 → Int32 → Int32 → Option (Int32 × Hp)) (hk71 : ∀ (h : Hp) (a0 : Nat) (x1 : Int32) (x2 : Int32) (x3 : Int32) (x5 : Int32) (x6 : Int32), OKr a0 5 → k71 h a0 x1 x2 x3 x5 x6 = some res → RT E X (some .int) (some (.int res.1)) res.2 → GG l E X h 71 [(0, .ref (ad E a0)), (1, .int x1), (2, .int x2), (3, .int x3), (5, .int x5), (6, .int x6)] []) (h : Hp) (a0 : Nat) (x1 : Int32) (x2 : Int32) (x3 : Int32) (x6 : Int32) (oa0 : OKr a0 5) (hs : b_X5_feast_118 k71 h a0 x1 x2 x3 x6 = some res) (hR : RT E X (some .int) (some (.int res.1)) res.2) : GG l E X h 118 [(0, .ref (ad E a0)), (1, .int x1), (2, .int x2), (3, .int x3), (6, .int x6)] [] := by
  refine g_aload_n C 0 dX5_feast_118 rfl rfl ?_
  refine gf5_30 C oa0 lf_X5_246 dX5_feast_119 ?_
  refine g_goto (tgt := 127) C dX5_feast_122 (by decide) ?_
  exact wb_X5_feast_127 C k71 hk71 h a0 x1 x2 x3 x6 (h.1 a0 30) oa0 hs hR
set_option maxHeartbeats 4000000 in
set_option maxRecDepth 100000 in
theorem wb_X5_feast_125 {l : Launch} {E : Ep} {X : Fx} {res : Int32 × Hp} (C : CX E X RX5 cX5_feast 8 6) (k71 : Hp → Nat → Int32 → Int32 → Int32 → Int32 → Int32 → Option (Int32 × Hp)) (hk71 : ∀ (h : Hp) (a0 : Nat) (x1 : Int32) (x2 : Int32) (x3 : Int32) (x5 : Int32) (x6 : Int32), OKr a0 5 → k71 h a0 x1 x2 x3 x5 x6 = some res → RT E X (some .int) (some (.int res.1)) res.2 → GG l E X h 71 [(0, .ref (ad E a0)), (1, .int x1), (2, .int x2), (3, .int x3), (5, .int x5), (6, .int x6)] []) (h : Hp) (a0 : Nat) (x1 : Int32) (x2 : Int32) (x3 : Int32) (x5 : Int32) (x6 : Int32) (oa0 : OKr a0 5) (hs : b_X5_feast_125 k71 h a0 x1 x2 x3 x5 x6 = some res) (hR : RT E X (some .int) (some (.int res.1)) res.2) : GG l E X h 125 [(0, .ref (ad E a0)), (1, .int x1), (2, .int x2), (3, .int x3), (5, .int x5), (6, .int x6)] [] := by
  refine g_iload C 4 dX5_feast_125 rfl ?_
  refine g_sub [0, 1, 2, 3, 5] rfl ?_
  exact wb_X5_feast_127 C k71 hk71 h a0 x1 x2 x3 x6 x5 oa0 hs hR
set_option maxHeartbeats 4000000 in
set_option maxRecDepth 100000 in
theorem wb_X5_feast_97 {l : Launch} {E : Ep} {X : Fx} {res : Int32 × Hp} (C : CX E X RX5 cX5_feast 8 6) (k71 : Hp → Nat → Int32 → Int32 → Int32 → Int32 → Int32 → Option (Int32 × Hp)) (hk71 : ∀ (h : Hp) (a0 : Nat) (x1 : Int32) (x2 : Int32) (x3 : Int32) (x5 : Int32) (x6 : Int32), OKr a0 5 → k71 h a0 x1 x2 x3 x5 x6 = some res → RT E X (some .int) (some (.int res.1)) res.2 → GG l E X h 71 [(0, .ref (ad E a0)), (1, .int x1), (2, .int x2), (3, .int x3), (5, .int x5), (6, .int x6)] []) (h : Hp) (a0 : Nat) (x1 : Int32) (x2 : Int32) (x3 : Int32) (x5 : Int32) (x6 : Int32) (s0 : Int32) (oa0 : OKr a0 5) (hs : b_X5_feast_97 k71 h a0 x1 x2 x3 x5 x6 s0 = some res) (hR : RT E X (some .int) (some (.int res.1)) res.2) : GG l E X h 97 [(0, .ref (ad E a0)), (1, .int x1), (2, .int x2), (3, .int x3), (5, .int x5), (6, .int x6)] [.int s0] := by
  refine g_istore (lv' := [(7, .int s0), (0, .ref (ad E a0)), (1, .int x1), (2, .int x2), (3, .int x3), (5, .int x5), (6, .int x6)]) C dX5_feast_97 (by decide) rfl ?_
  refine g_iload C 0 dX5_feast_99 rfl ?_
  refine g_if_eq (tgt := 125) C dX5_feast_101 (by decide) hs (fun hs => ?_) (fun hs => ?_)
  · refine g_sub [1, 2, 3, 4, 5, 6] rfl ?_
    exact wb_X5_feast_125 C k71 hk71 h a0 x1 x2 x3 x5 x6 oa0 hs hR
  · refine g_iload C 5 dX5_feast_104 rfl ?_
    refine g_if_lt (tgt := 118) C dX5_feast_106 (by decide) hs (fun hs => ?_) (fun hs => ?_)
    · refine g_sub [1, 2, 3, 4, 6] rfl ?_
      exact wb_X5_feast_118 C k71 hk71 h a0 x1 x2 x3 x6 oa0 hs hR
    · refine g_aload_n C 1 dX5_feast_109 rfl rfl ?_
      refine gf5_30 C oa0 lf_X5_246 dX5_feast_110 ?_
      refine g_iload C 5 dX5_feast_113 rfl ?_
      refine g_icmp_ge (tgt := 125) C dX5_feast_115 (by decide) hs (fun hs => ?_) (fun hs => ?_)
      · refine g_sub [1, 2, 3, 4, 5, 6] rfl ?_
        exact wb_X5_feast_125 C k71 hk71 h a0 x1 x2 x3 x5 x6 oa0 hs hR
      · refine g_sub [1, 2, 3, 4, 6] rfl ?_
        exact wb_X5_feast_118 C k71 hk71 h a0 x1 x2 x3 x6 oa0 hs hR
set_option maxHeartbeats 4000000 in
set_option maxRecDepth 100000 in
theorem wb_X5_feast_71 {l : Launch} {E : Ep} {X : Fx} {res : Int32 × Hp} (C : CX E X RX5 cX5_feast 8 6) : ∀ (n : Nat) (h : Hp) (a0 : Nat) (x1 : Int32) (x2 : Int32) (x3 : Int32) (x5 : Int32) (x6 : Int32) (oa0 : OKr a0 5), b_X5_feast_71  n h a0 x1 x2 x3 x5 x6 = some res → RT E X (some .int) (some (.int res.1)) res.2 → GG l E X h 71 [(0, .ref (ad E a0)), (1, .int x1), (2, .int x2), (3, .int x3), (5, .int x5), (6, .int x6)] [] := by
  intro n
  induction n with
  | zero =>
    intro h a0 x1 x2 x3 x5 x6 oa0
    intro hs
    exact absurd hs (by intro e; cases e)
  | succ n ih =>
    intro h a0 x1 x2 x3 x5 x6 oa0 hs hR
    have hk71 := ih
    have hs : f_X5_feast_71  (b_X5_feast_71  n) h a0 x1 x2 x3 x5 x6 = some res := hs
    generalize b_X5_feast_71  n = k71 at hs hk71
    refine g_iload C 5 dX5_feast_71 rfl ?_
    refine g_iload_n C 2 dX5_feast_73 rfl rfl ?_
    obtain ⟨v1, hcv1, hs⟩ := bnd hs
    refine g_cS (As := [.int x2]) (rest := [.int x6]) C (w_X5_power l E _ _ _ hcv1) mw_X5_power lm_X5_249 rfl (by decide) rfl (Nat.le_of_ble_eq_true rfl) dX5_feast_74 rfl ?_
    refine g_icmp_ge (tgt := 135) C dX5_feast_77 (by decide) hs (fun hs => ?_) (fun hs => ?_)
    · refine g_iload C 4 dX5_feast_135 rfl ?_
      have e9 := Option.some.inj hs
      subst e9
      exact g_iret C hR dX5_feast_137
    · refine g_aload_n C 0 dX5_feast_80 rfl rfl ?_
      refine g_iload_n C 1 dX5_feast_81 rfl rfl ?_
      refine g_iload_n C 2 dX5_feast_82 rfl rfl ?_
      refine g_iload C 5 dX5_feast_83 rfl ?_
      obtain ⟨q2, hcq2, hs⟩ := bnd hs
      refine g_cV (As := [.int x1, .int x2, .int x6]) (rest := []) C (w_X5_byRow l E _ _ _ _ _ _ oa0 hcq2) mw_X5_byRow lm_X5_262 oa0 rfl (ce5 E _ (oa0).2) rfl (by decide) rfl (Nat.le_of_ble_eq_true rfl) dX5_feast_85 rfl ?_
      refine g_iload_n C 3 dX5_feast_88 rfl rfl ?_
      refine g_icmp_lt (tgt := 96) C dX5_feast_89 (by decide) hs (fun hs => ?_) (fun hs => ?_)
      · refine g_iconst C dX5_feast_96 cc_i_0 ?_
        exact wb_X5_feast_97 C k71 hk71 q2.2 a0 x1 x2 x3 x5 x6 (0 : Int32) oa0 hs hR
      · refine g_iconst C dX5_feast_92 cc_i_1 ?_
        refine g_goto (tgt := 97) C dX5_feast_93 (by decide) ?_
        exact wb_X5_feast_97 C k71 hk71 q2.2 a0 x1 x2 x3 x5 x6 (1 : Int32) oa0 hs hR
set_option maxHeartbeats 4000000 in
set_option maxRecDepth 100000 in
theorem wb_X5_feast_50 {l : Launch} {E : Ep} {X : Fx} {res : Int32 × Hp} (C : CX E X RX5 cX5_feast 8 6) (h : Hp) (a0 : Nat) (x1 : Int32) (x2 : Int32) (x3 : Int32) (s0 : Int32) (oa0 : OKr a0 5) (hs : b_X5_feast_50  h a0 x1 x2 x3 s0 = some res) (hR : RT E X (some .int) (some (.int res.1)) res.2) : GG l E X h 50 [(0, .ref (ad E a0)), (1, .int x1), (2, .int x2), (3, .int x3)] [.int s0] := by
  refine g_istore (lv' := [(4, .int s0), (0, .ref (ad E a0)), (1, .int x1), (2, .int x2), (3, .int x3)]) C dX5_feast_50 (by decide) rfl ?_
  refine g_iload C 0 dX5_feast_52 rfl ?_
  refine g_if_ge (tgt := 64) C dX5_feast_54 (by decide) hs (fun hs => ?_) (fun hs => ?_)
  · refine g_bipush C dX5_feast_64 cc_b_m9 ?_
    refine g_istore (lv' := [(5, .int (-9 : Int32)), (4, .int s0), (0, .ref (ad E a0)), (1, .int x1), (2, .int x2), (3, .int x3)]) C dX5_feast_66 (by decide) rfl ?_
    refine g_iconst C dX5_feast_68 cc_i_0 ?_
    refine g_istore (lv' := [(6, .int (0 : Int32)), (5, .int (-9 : Int32)), (4, .int s0), (0, .ref (ad E a0)), (1, .int x1), (2, .int x2), (3, .int x3)]) C dX5_feast_69 (by decide) rfl ?_
    refine g_sub [3, 4, 5, 6, 1, 0] rfl ?_
    exact wb_X5_feast_71 C 1000 h a0 x1 x2 x3 (-9 : Int32) (0 : Int32) oa0 hs hR
  · refine g_aload_n C 1 dX5_feast_57 rfl rfl ?_
    refine g_iload C 0 dX5_feast_58 rfl ?_
    obtain ⟨q1, hcq1, hs⟩ := bnd hs
    refine g_cV (As := [.int s0]) (rest := []) C (w_X5_refuse l E _ _ _ _ oa0 hcq1) mw_X5_refuse lm_X5_152 oa0 rfl (ce5 E _ (oa0).2) rfl (by decide) rfl (Nat.le_of_ble_eq_true rfl) dX5_feast_60 rfl ?_
    have e9 := Option.some.inj hs
    subst e9
    exact g_iret C hR dX5_feast_63
set_option maxHeartbeats 4000000 in
set_option maxRecDepth 100000 in
theorem wb_X5_feast_26 {l : Launch} {E : Ep} {X : Fx} {res : Int32 × Hp} (C : CX E X RX5 cX5_feast 8 6) (h : Hp) (a0 : Nat) (x1 : Int32) (x2 : Int32) (x3 : Int32) (oa0 : OKr a0 5) (hs : b_X5_feast_26  h a0 x1 x2 x3 = some res) (hR : RT E X (some .int) (some (.int res.1)) res.2) : GG l E X h 26 [(0, .ref (ad E a0)), (1, .int x1), (2, .int x2), (3, .int x3)] [] := by
  refine g_bipush C dX5_feast_26 cc_b_m4 ?_
  refine g_goto (tgt := 50) C dX5_feast_28 (by decide) ?_
  exact wb_X5_feast_50 C h a0 x1 x2 x3 (-4 : Int32) oa0 hs hR
set_option maxHeartbeats 4000000 in
set_option maxRecDepth 100000 in
theorem wb_X5_feast_44 {l : Launch} {E : Ep} {X : Fx} {res : Int32 × Hp} (C : CX E X RX5 cX5_feast 8 6) (h : Hp) (a0 : Nat) (x1 : Int32) (x2 : Int32) (x3 : Int32) (oa0 : OKr a0 5) (hs : b_X5_feast_44  h a0 x1 x2 x3 = some res) (hR : RT E X (some .int) (some (.int res.1)) res.2) : GG l E X h 44 [(0, .ref (ad E a0)), (1, .int x1), (2, .int x2), (3, .int x3)] [] := by
  refine g_bipush C dX5_feast_44 cc_b_m6 ?_
  refine g_goto (tgt := 50) C dX5_feast_46 (by decide) ?_
  exact wb_X5_feast_50 C h a0 x1 x2 x3 (-6 : Int32) oa0 hs hR
set_option maxHeartbeats 4000000 in
set_option maxRecDepth 100000 in
theorem w_X5_feast (l : Launch) (E : Ep) (h : Hp) (a0 : Nat) (x1 : Int32) (x2 : Int32) (x3 : Int32) (res : Int32 × Hp) (oa0 : OKr a0 5) (hs : sh_X5_feast h a0 x1 x2 x3 = some res) : MG l E yX5_feast cX5_feast 8 (some .int) 6 [.ref (ad E a0), .int x1, .int x2, .int x3] h (some (.int res.1)) res.2 := by
  refine MG.of (by decide) (Nat.le_of_ble_eq_true rfl) ?_
  intro X C hR
  have C : CX E X RX5 cX5_feast 8 6 := C
  show GG l E X h 0 [(0, .ref (ad E a0)), (1, .int x1), (2, .int x2), (3, .int x3)] []
  refine g_aload_n C 0 dX5_feast_0 rfl rfl ?_
  refine g_iconst C dX5_feast_1 cc_i_0 ?_
  refine pf5_13 C oa0 lf_X5_68 dX5_feast_2 ?_
  refine g_aload_n C 0 dX5_feast_5 rfl rfl ?_
  refine g_iload_n C 1 dX5_feast_6 rfl rfl ?_
  obtain ⟨v1, hcv1, hs⟩ := bnd hs
  refine g_cV (As := [.int x1]) (rest := []) C (w_X5_isOne l E _ _ _ _ oa0 hcv1) mw_X5_isOne lm_X5_199 oa0 rfl (ce5 E _ (oa0).2) rfl (by decide) rfl (Nat.le_of_ble_eq_true rfl) dX5_feast_7 rfl ?_
  refine g_if_ne (tgt := 17) C dX5_feast_10 (by decide) hs (fun hs => ?_) (fun hs => ?_)
  · refine g_iconst C dX5_feast_13 cc_i_m1 ?_
    refine g_goto (tgt := 50) C dX5_feast_14 (by decide) ?_
    exact wb_X5_feast_50 C (wI h a0 13 (0 : Int32)) a0 x1 x2 x3 (-1 : Int32) oa0 hs hR
  · refine g_iload_n C 2 dX5_feast_17 rfl rfl ?_
    refine g_iconst C dX5_feast_18 cc_i_1 ?_
    refine g_icmp_lt (tgt := 26) C dX5_feast_19 (by decide) hs (fun hs => ?_) (fun hs => ?_)
    · exact wb_X5_feast_26 C (wI h a0 13 (0 : Int32)) a0 x1 x2 x3 oa0 hs hR
    · refine g_iload_n C 3 dX5_feast_22 rfl rfl ?_
      refine g_if_ge (tgt := 31) C dX5_feast_23 (by decide) hs (fun hs => ?_) (fun hs => ?_)
      · refine g_iload_n C 2 dX5_feast_31 rfl rfl ?_
        refine g_bipush C dX5_feast_32 cc_b_6 ?_
        refine g_icmp_gt (tgt := 44) C dX5_feast_34 (by decide) hs (fun hs => ?_) (fun hs => ?_)
        · exact wb_X5_feast_44 C (wI h a0 13 (0 : Int32)) a0 x1 x2 x3 oa0 hs hR
        · refine g_iload_n C 3 dX5_feast_37 rfl rfl ?_
          refine g_sipush C dX5_feast_38 cc_s_9999 ?_
          refine g_icmp_le (tgt := 49) C dX5_feast_41 (by decide) hs (fun hs => ?_) (fun hs => ?_)
          · refine g_iconst C dX5_feast_49 cc_i_0 ?_
            exact wb_X5_feast_50 C (wI h a0 13 (0 : Int32)) a0 x1 x2 x3 (0 : Int32) oa0 hs hR
          · exact wb_X5_feast_44 C (wI h a0 13 (0 : Int32)) a0 x1 x2 x3 oa0 hs hR
      · exact wb_X5_feast_26 C (wI h a0 13 (0 : Int32)) a0 x1 x2 x3 oa0 hs hR
set_option maxHeartbeats 4000000 in
set_option maxRecDepth 100000 in
theorem wb_X5_isAimedAt_70 {l : Launch} {E : Ep} {X : Fx} {res : Int32} (C : CX E X RX5 cX5_isAimedAt 5 0) (k4 : Hp → Nat → Int32 → Int32 → Int32 → Option (Int32)) (hk4 : ∀ (h : Hp) (a0 : Nat) (x1 : Int32) (x2 : Int32) (x3 : Int32), OKr a0 5 → k4 h a0 x1 x2 x3 = some res → RT E X (some .boolean) (some (.int res)) h → GG l E X h 4 [(0, .ref (ad E a0)), (1, .int x1), (2, .int x2), (3, .int x3)] []) (h : Hp) (a0 : Nat) (x1 : Int32) (x3 : Int32) (s0 : Int32) (oa0 : OKr a0 5) (hs : b_X5_isAimedAt_70 k4 h a0 x1 x3 s0 = some res) (hR : RT E X (some .boolean) (some (.int res)) h) : GG l E X h 70 [(0, .ref (ad E a0)), (1, .int x1), (3, .int x3)] [.int s0] := by
  refine g_istore_n (lv' := [(2, .int s0), (0, .ref (ad E a0)), (1, .int x1), (3, .int x3)]) C dX5_isAimedAt_70 rfl (by decide) rfl ?_
  refine g_iinc (lv' := [(3, .int (x3 + (1 : Int32))), (2, .int s0), (0, .ref (ad E a0)), (1, .int x1)]) (j := 3) C dX5_isAimedAt_71 rfl (cc_n_1 _) (by decide) rfl ?_
  refine g_goto (tgt := 4) C dX5_isAimedAt_74 (by decide) ?_
  refine g_sub [2, 3, 1, 0] rfl ?_
  exact hk4 h a0 x1 s0 (x3 + (1 : Int32)) oa0 hs hR
set_option maxHeartbeats 4000000 in
set_option maxRecDepth 100000 in
theorem wb_X5_isAimedAt_65 {l : Launch} {E : Ep} {X : Fx} {res : Int32} (C : CX E X RX5 cX5_isAimedAt 5 0) (k4 : Hp → Nat → Int32 → Int32 → Int32 → Option (Int32)) (hk4 : ∀ (h : Hp) (a0 : Nat) (x1 : Int32) (x2 : Int32) (x3 : Int32), OKr a0 5 → k4 h a0 x1 x2 x3 = some res → RT E X (some .boolean) (some (.int res)) h → GG l E X h 4 [(0, .ref (ad E a0)), (1, .int x1), (2, .int x2), (3, .int x3)] []) (h : Hp) (a0 : Nat) (x1 : Int32) (x3 : Int32) (oa0 : OKr a0 5) (hs : b_X5_isAimedAt_65 k4 h a0 x1 x3 = some res) (hR : RT E X (some .boolean) (some (.int res)) h) : GG l E X h 65 [(0, .ref (ad E a0)), (1, .int x1), (3, .int x3)] [] := by
  refine g_iconst C dX5_isAimedAt_65 cc_i_1 ?_
  refine g_goto (tgt := 70) C dX5_isAimedAt_66 (by decide) ?_
  exact wb_X5_isAimedAt_70 C k4 hk4 h a0 x1 x3 (1 : Int32) oa0 hs hR
set_option maxHeartbeats 4000000 in
set_option maxRecDepth 100000 in
theorem wb_X5_isAimedAt_69 {l : Launch} {E : Ep} {X : Fx} {res : Int32} (C : CX E X RX5 cX5_isAimedAt 5 0) (k4 : Hp → Nat → Int32 → Int32 → Int32 → Option (Int32)) (hk4 : ∀ (h : Hp) (a0 : Nat) (x1 : Int32) (x2 : Int32) (x3 : Int32), OKr a0 5 → k4 h a0 x1 x2 x3 = some res → RT E X (some .boolean) (some (.int res)) h → GG l E X h 4 [(0, .ref (ad E a0)), (1, .int x1), (2, .int x2), (3, .int x3)] []) (h : Hp) (a0 : Nat) (x1 : Int32) (x3 : Int32) (oa0 : OKr a0 5) (hs : b_X5_isAimedAt_69 k4 h a0 x1 x3 = some res) (hR : RT E X (some .boolean) (some (.int res)) h) : GG l E X h 69 [(0, .ref (ad E a0)), (1, .int x1), (3, .int x3)] [] := by
  refine g_iconst C dX5_isAimedAt_69 cc_i_0 ?_
  exact wb_X5_isAimedAt_70 C k4 hk4 h a0 x1 x3 (0 : Int32) oa0 hs hR
set_option maxHeartbeats 4000000 in
set_option maxRecDepth 100000 in
theorem wb_X5_isAimedAt_39 {l : Launch} {E : Ep} {X : Fx} {res : Int32} (C : CX E X RX5 cX5_isAimedAt 5 0) (k4 : Hp → Nat → Int32 → Int32 → Int32 → Option (Int32)) (hk4 : ∀ (h : Hp) (a0 : Nat) (x1 : Int32) (x2 : Int32) (x3 : Int32), OKr a0 5 → k4 h a0 x1 x2 x3 = some res → RT E X (some .boolean) (some (.int res)) h → GG l E X h 4 [(0, .ref (ad E a0)), (1, .int x1), (2, .int x2), (3, .int x3)] []) (h : Hp) (a0 : Nat) (x1 : Int32) (x2 : Int32) (x3 : Int32) (s0 : Int32) (oa0 : OKr a0 5) (hs : b_X5_isAimedAt_39 k4 h a0 x1 x2 x3 s0 = some res) (hR : RT E X (some .boolean) (some (.int res)) h) : GG l E X h 39 [(0, .ref (ad E a0)), (1, .int x1), (2, .int x2), (3, .int x3)] [.int s0] := by
  refine g_istore (lv' := [(4, .int s0), (0, .ref (ad E a0)), (1, .int x1), (2, .int x2), (3, .int x3)]) C dX5_isAimedAt_39 (by decide) rfl ?_
  refine g_iload_n C 3 dX5_isAimedAt_41 rfl rfl ?_
  refine g_if_ne (tgt := 65) C dX5_isAimedAt_42 (by decide) hs (fun hs => ?_) (fun hs => ?_)
  · refine g_iload_n C 4 dX5_isAimedAt_45 rfl rfl ?_
    refine g_iload_n C 2 dX5_isAimedAt_46 rfl rfl ?_
    refine g_icmp_eq (tgt := 69) C dX5_isAimedAt_47 (by decide) hs (fun hs => ?_) (fun hs => ?_)
    · refine g_sub [1, 2, 4] rfl ?_
      exact wb_X5_isAimedAt_69 C k4 hk4 h a0 x1 x3 oa0 hs hR
    · refine g_aload_n C 1 dX5_isAimedAt_50 rfl rfl ?_
      refine gf5_10 C oa0 lf_X5_29 dX5_isAimedAt_51 ?_
      refine g_iload_n C 4 dX5_isAimedAt_54 rfl rfl ?_
      refine g_iald C (tg5_10 oa0) dX5_isAimedAt_55 hs (fun v1 hs => ?_)
      refine g_if_le (tgt := 69) C dX5_isAimedAt_56 (by decide) hs (fun hs => ?_) (fun hs => ?_)
      · refine g_sub [1, 2, 4] rfl ?_
        exact wb_X5_isAimedAt_69 C k4 hk4 h a0 x1 x3 oa0 hs hR
      · refine g_iload C 0 dX5_isAimedAt_59 rfl ?_
        refine g_iload_n C 2 dX5_isAimedAt_61 rfl rfl ?_
        refine g_icmp_ne (tgt := 69) C dX5_isAimedAt_62 (by decide) hs (fun hs => ?_) (fun hs => ?_)
        · refine g_sub [1, 2, 4] rfl ?_
          exact wb_X5_isAimedAt_65 C k4 hk4 h a0 x1 x3 oa0 hs hR
        · refine g_sub [1, 2, 4] rfl ?_
          exact wb_X5_isAimedAt_69 C k4 hk4 h a0 x1 x3 oa0 hs hR
  · refine g_sub [1, 2, 4] rfl ?_
    exact wb_X5_isAimedAt_65 C k4 hk4 h a0 x1 x3 oa0 hs hR
set_option maxHeartbeats 4000000 in
set_option maxRecDepth 100000 in
theorem wb_X5_isAimedAt_4 {l : Launch} {E : Ep} {X : Fx} {res : Int32} (C : CX E X RX5 cX5_isAimedAt 5 0) : ∀ (n : Nat) (h : Hp) (a0 : Nat) (x1 : Int32) (x2 : Int32) (x3 : Int32) (oa0 : OKr a0 5), b_X5_isAimedAt_4  n h a0 x1 x2 x3 = some res → RT E X (some .boolean) (some (.int res)) h → GG l E X h 4 [(0, .ref (ad E a0)), (1, .int x1), (2, .int x2), (3, .int x3)] [] := by
  intro n
  induction n with
  | zero =>
    intro h a0 x1 x2 x3 oa0
    intro hs
    exact absurd hs (by intro e; cases e)
  | succ n ih =>
    intro h a0 x1 x2 x3 oa0 hs hR
    have hk4 := ih
    have hs : f_X5_isAimedAt_4  (b_X5_isAimedAt_4  n) h a0 x1 x2 x3 = some res := hs
    generalize b_X5_isAimedAt_4  n = k4 at hs hk4
    refine g_iload_n C 3 dX5_isAimedAt_4 rfl rfl ?_
    refine g_aload_n C 0 dX5_isAimedAt_5 rfl rfl ?_
    refine gf5_0 C oa0 lf_X5_71 dX5_isAimedAt_6 ?_
    refine g_icmp_ge (tgt := 77) C dX5_isAimedAt_9 (by decide) hs (fun hs => ?_) (fun hs => ?_)
    · refine g_iload_n C 2 dX5_isAimedAt_77 rfl rfl ?_
      obtain ⟨v1, hbv1, hs⟩ := bnd hs
      obtain ⟨hzv1, hyv1⟩ := bol_v hbv1
      have e9 := Option.some.inj hs
      subst e9
      refine g_top hyv1 ?_
      exact g_zret C hzv1 hR dX5_isAimedAt_78
    · refine g_aload_n C 0 dX5_isAimedAt_12 rfl rfl ?_
      refine gf5_6 C oa0 lf_X5_16 dX5_isAimedAt_13 ?_
      refine g_iload_n C 3 dX5_isAimedAt_16 rfl rfl ?_
      refine g_iald C (tg5_6 oa0) dX5_isAimedAt_17 hs (fun v2 hs => ?_)
      refine g_iconst C dX5_isAimedAt_18 cc_i_4 ?_
      refine g_icmp_ne (tgt := 33) C dX5_isAimedAt_19 (by decide) hs (fun hs => ?_) (fun hs => ?_)
      · refine g_iload_n C 3 dX5_isAimedAt_22 rfl rfl ?_
        refine g_iconst C dX5_isAimedAt_23 cc_i_1 ?_
        refine g_iadd C dX5_isAimedAt_24 ?_
        refine g_aload_n C 0 dX5_isAimedAt_25 rfl rfl ?_
        refine gf5_0 C oa0 lf_X5_71 dX5_isAimedAt_26 ?_
        refine g_irem C dX5_isAimedAt_29 hs (fun v3 hs => ?_)
        refine g_goto (tgt := 39) C dX5_isAimedAt_30 (by decide) ?_
        exact wb_X5_isAimedAt_39 C k4 hk4 h a0 x1 x2 x3 v3 oa0 hs hR
      · refine g_aload_n C 0 dX5_isAimedAt_33 rfl rfl ?_
        refine gf5_9 C oa0 lf_X5_26 dX5_isAimedAt_34 ?_
        refine g_iload_n C 3 dX5_isAimedAt_37 rfl rfl ?_
        refine g_iald C (tg5_9 oa0) dX5_isAimedAt_38 hs (fun v4 hs => ?_)
        exact wb_X5_isAimedAt_39 C k4 hk4 h a0 x1 x2 x3 v4 oa0 hs hR
set_option maxHeartbeats 4000000 in
set_option maxRecDepth 100000 in
theorem w_X5_isAimedAt (l : Launch) (E : Ep) (h : Hp) (a0 : Nat) (x1 : Int32) (res : Int32) (oa0 : OKr a0 5) (hs : sh_X5_isAimedAt h a0 x1 = some res) : MG l E yX5_isAimedAt cX5_isAimedAt 5 (some .boolean) 0 [.ref (ad E a0), .int x1] h (some (.int res)) h := by
  refine MG.of (by decide) (Nat.le_of_ble_eq_true rfl) ?_
  intro X C hR
  have C : CX E X RX5 cX5_isAimedAt 5 0 := C
  show GG l E X h 0 [(0, .ref (ad E a0)), (1, .int x1)] []
  refine g_iconst C dX5_isAimedAt_0 cc_i_0 ?_
  refine g_istore_n (lv' := [(2, .int (0 : Int32)), (0, .ref (ad E a0)), (1, .int x1)]) C dX5_isAimedAt_1 rfl (by decide) rfl ?_
  refine g_iconst C dX5_isAimedAt_2 cc_i_0 ?_
  refine g_istore_n (lv' := [(3, .int (0 : Int32)), (2, .int (0 : Int32)), (0, .ref (ad E a0)), (1, .int x1)]) C dX5_isAimedAt_3 rfl (by decide) rfl ?_
  refine g_sub [2, 3, 1, 0] rfl ?_
  exact wb_X5_isAimedAt_4 C 1000 h a0 x1 (0 : Int32) (0 : Int32) oa0 hs hR
set_option maxHeartbeats 4000000 in
set_option maxRecDepth 100000 in
theorem wb_X5_stuck_65 {l : Launch} {E : Ep} {X : Fx} {res : Int32} (C : CX E X RX5 cX5_stuck 4 4) (k4 : Hp → Nat → Int32 → Int32 → Option (Int32)) (hk4 : ∀ (h : Hp) (a0 : Nat) (x1 : Int32) (x2 : Int32), OKr a0 5 → k4 h a0 x1 x2 = some res → RT E X (some .int) (some (.int res)) h → GG l E X h 4 [(0, .ref (ad E a0)), (1, .int x1), (2, .int x2)] []) (h : Hp) (a0 : Nat) (x2 : Int32) (s0 : Int32) (oa0 : OKr a0 5) (hs : b_X5_stuck_65 k4 h a0 x2 s0 = some res) (hR : RT E X (some .int) (some (.int res)) h) : GG l E X h 65 [(0, .ref (ad E a0)), (2, .int x2)] [.int s0] := by
  refine g_istore_n (lv' := [(1, .int s0), (0, .ref (ad E a0)), (2, .int x2)]) C dX5_stuck_65 rfl (by decide) rfl ?_
  refine g_iinc (lv' := [(2, .int (x2 + (1 : Int32))), (1, .int s0), (0, .ref (ad E a0))]) (j := 2) C dX5_stuck_66 rfl (cc_n_1 _) (by decide) rfl ?_
  refine g_goto (tgt := 4) C dX5_stuck_69 (by decide) ?_
  refine g_sub [2, 1, 0] rfl ?_
  exact hk4 h a0 s0 (x2 + (1 : Int32)) oa0 hs hR
set_option maxHeartbeats 4000000 in
set_option maxRecDepth 100000 in
theorem wb_X5_stuck_51 {l : Launch} {E : Ep} {X : Fx} {res : Int32} (C : CX E X RX5 cX5_stuck 4 4) (k4 : Hp → Nat → Int32 → Int32 → Option (Int32)) (hk4 : ∀ (h : Hp) (a0 : Nat) (x1 : Int32) (x2 : Int32), OKr a0 5 → k4 h a0 x1 x2 = some res → RT E X (some .int) (some (.int res)) h → GG l E X h 4 [(0, .ref (ad E a0)), (1, .int x1), (2, .int x2)] []) (h : Hp) (a0 : Nat) (x1 : Int32) (x2 : Int32) (s0 : Int32) (oa0 : OKr a0 5) (hs : b_X5_stuck_51 k4 h a0 x1 x2 s0 = some res) (hR : RT E X (some .int) (some (.int res)) h) : GG l E X h 51 [(0, .ref (ad E a0)), (1, .int x1), (2, .int x2)] [.int s0] := by
  refine g_istore_n (lv' := [(3, .int s0), (0, .ref (ad E a0)), (1, .int x1), (2, .int x2)]) C dX5_stuck_51 rfl (by decide) rfl ?_
  refine g_iload_n C 0 dX5_stuck_52 rfl rfl ?_
  refine g_if_eq (tgt := 64) C dX5_stuck_53 (by decide) hs (fun hs => ?_) (fun hs => ?_)
  · refine g_iload_n C 2 dX5_stuck_64 rfl rfl ?_
    refine g_sub [1, 3] rfl ?_
    exact wb_X5_stuck_65 C k4 hk4 h a0 x2 x1 oa0 hs hR
  · refine g_iload_n C 2 dX5_stuck_56 rfl rfl ?_
    refine g_iconst C dX5_stuck_57 cc_i_1 ?_
    refine g_iload_n C 3 dX5_stuck_58 rfl rfl ?_
    refine g_ishl C dX5_stuck_59 ?_
    refine g_ior C dX5_stuck_60 ?_
    refine g_goto (tgt := 65) C dX5_stuck_61 (by decide) ?_
    refine g_sub [1, 3] rfl ?_
    exact wb_X5_stuck_65 C k4 hk4 h a0 x2 (x1 ||| ((1 : Int32) <<< (x2 &&& 31))) oa0 hs hR
set_option maxHeartbeats 4000000 in
set_option maxRecDepth 100000 in
theorem wb_X5_stuck_50 {l : Launch} {E : Ep} {X : Fx} {res : Int32} (C : CX E X RX5 cX5_stuck 4 4) (k4 : Hp → Nat → Int32 → Int32 → Option (Int32)) (hk4 : ∀ (h : Hp) (a0 : Nat) (x1 : Int32) (x2 : Int32), OKr a0 5 → k4 h a0 x1 x2 = some res → RT E X (some .int) (some (.int res)) h → GG l E X h 4 [(0, .ref (ad E a0)), (1, .int x1), (2, .int x2)] []) (h : Hp) (a0 : Nat) (x1 : Int32) (x2 : Int32) (oa0 : OKr a0 5) (hs : b_X5_stuck_50 k4 h a0 x1 x2 = some res) (hR : RT E X (some .int) (some (.int res)) h) : GG l E X h 50 [(0, .ref (ad E a0)), (1, .int x1), (2, .int x2)] [] := by
  refine g_iconst C dX5_stuck_50 cc_i_0 ?_
  exact wb_X5_stuck_51 C k4 hk4 h a0 x1 x2 (0 : Int32) oa0 hs hR
set_option maxHeartbeats 4000000 in
set_option maxRecDepth 100000 in
theorem wb_X5_stuck_38 {l : Launch} {E : Ep} {X : Fx} {res : Int32} (C : CX E X RX5 cX5_stuck 4 4) (k4 : Hp → Nat → Int32 → Int32 → Option (Int32)) (hk4 : ∀ (h : Hp) (a0 : Nat) (x1 : Int32) (x2 : Int32), OKr a0 5 → k4 h a0 x1 x2 = some res → RT E X (some .int) (some (.int res)) h → GG l E X h 4 [(0, .ref (ad E a0)), (1, .int x1), (2, .int x2)] []) (h : Hp) (a0 : Nat) (x1 : Int32) (x2 : Int32) (oa0 : OKr a0 5) (hs : b_X5_stuck_38 k4 h a0 x1 x2 = some res) (hR : RT E X (some .int) (some (.int res)) h) : GG l E X h 38 [(0, .ref (ad E a0)), (1, .int x1), (2, .int x2)] [] := by
  refine g_aload_n C 0 dX5_stuck_38 rfl rfl ?_
  refine g_iload_n C 2 dX5_stuck_39 rfl rfl ?_
  obtain ⟨v1, hcv1, hs⟩ := bnd hs
  refine g_cV (As := [.int x2]) (rest := []) C (w_X5_isAimedAt l E _ _ _ _ oa0 hcv1) mw_X5_isAimedAt lm_X5_269 oa0 rfl (ce5 E _ (oa0).2) rfl (by decide) rfl (Nat.le_of_ble_eq_true rfl) dX5_stuck_40 rfl ?_
  refine g_if_ne (tgt := 50) C dX5_stuck_43 (by decide) hs (fun hs => ?_) (fun hs => ?_)
  · refine g_iconst C dX5_stuck_46 cc_i_1 ?_
    refine g_goto (tgt := 51) C dX5_stuck_47 (by decide) ?_
    exact wb_X5_stuck_51 C k4 hk4 h a0 x1 x2 (1 : Int32) oa0 hs hR
  · exact wb_X5_stuck_50 C k4 hk4 h a0 x1 x2 oa0 hs hR
set_option maxHeartbeats 4000000 in
set_option maxRecDepth 100000 in
theorem wb_X5_stuck_4 {l : Launch} {E : Ep} {X : Fx} {res : Int32} (C : CX E X RX5 cX5_stuck 4 4) : ∀ (n : Nat) (h : Hp) (a0 : Nat) (x1 : Int32) (x2 : Int32) (oa0 : OKr a0 5), b_X5_stuck_4  n h a0 x1 x2 = some res → RT E X (some .int) (some (.int res)) h → GG l E X h 4 [(0, .ref (ad E a0)), (1, .int x1), (2, .int x2)] [] := by
  intro n
  induction n with
  | zero =>
    intro h a0 x1 x2 oa0
    intro hs
    exact absurd hs (by intro e; cases e)
  | succ n ih =>
    intro h a0 x1 x2 oa0 hs hR
    have hk4 := ih
    have hs : f_X5_stuck_4  (b_X5_stuck_4  n) h a0 x1 x2 = some res := hs
    generalize b_X5_stuck_4  n = k4 at hs hk4
    refine g_iload_n C 2 dX5_stuck_4 rfl rfl ?_
    refine g_aload_n C 0 dX5_stuck_5 rfl rfl ?_
    refine gf5_0 C oa0 lf_X5_71 dX5_stuck_6 ?_
    refine g_icmp_ge (tgt := 72) C dX5_stuck_9 (by decide) hs (fun hs => ?_) (fun hs => ?_)
    · refine g_iload_n C 1 dX5_stuck_72 rfl rfl ?_
      have e9 := Option.some.inj hs
      subst e9
      exact g_iret C hR dX5_stuck_73
    · refine g_aload_n C 0 dX5_stuck_12 rfl rfl ?_
      refine gf5_10 C oa0 lf_X5_29 dX5_stuck_13 ?_
      refine g_iload_n C 2 dX5_stuck_16 rfl rfl ?_
      refine g_iald C (tg5_10 oa0) dX5_stuck_17 hs (fun v1 hs => ?_)
      refine g_if_ne (tgt := 50) C dX5_stuck_18 (by decide) hs (fun hs => ?_) (fun hs => ?_)
      · refine g_aload_n C 0 dX5_stuck_21 rfl rfl ?_
        refine gf5_8 C oa0 lf_X5_23 dX5_stuck_22 ?_
        refine g_iload_n C 2 dX5_stuck_25 rfl rfl ?_
        refine g_iald C (tg5_8 oa0) dX5_stuck_26 hs (fun v2 hs => ?_)
        refine g_if_eq (tgt := 38) C dX5_stuck_27 (by decide) hs (fun hs => ?_) (fun hs => ?_)
        · exact wb_X5_stuck_38 C k4 hk4 h a0 x1 x2 oa0 hs hR
        · refine g_aload_n C 0 dX5_stuck_30 rfl rfl ?_
          refine g_iload_n C 2 dX5_stuck_31 rfl rfl ?_
          obtain ⟨v3, hcv3, hs⟩ := bnd hs
          refine g_cV (As := [.int x2]) (rest := []) C (w_X5_leave l E _ _ _ _ oa0 hcv3) mw_X5_leave lm_X5_119 oa0 rfl (ce5 E _ (oa0).2) rfl (by decide) rfl (Nat.le_of_ble_eq_true rfl) dX5_stuck_32 rfl ?_
          refine g_if_ne (tgt := 50) C dX5_stuck_35 (by decide) hs (fun hs => ?_) (fun hs => ?_)
          · exact wb_X5_stuck_38 C k4 hk4 h a0 x1 x2 oa0 hs hR
          · exact wb_X5_stuck_50 C k4 hk4 h a0 x1 x2 oa0 hs hR
      · exact wb_X5_stuck_50 C k4 hk4 h a0 x1 x2 oa0 hs hR
set_option maxHeartbeats 4000000 in
set_option maxRecDepth 100000 in
theorem w_X5_stuck (l : Launch) (E : Ep) (h : Hp) (a0 : Nat) (res : Int32) (oa0 : OKr a0 5) (hs : sh_X5_stuck h a0 = some res) : MG l E yX5_stuck cX5_stuck 4 (some .int) 4 [.ref (ad E a0)] h (some (.int res)) h := by
  refine MG.of (by decide) (Nat.le_of_ble_eq_true rfl) ?_
  intro X C hR
  have C : CX E X RX5 cX5_stuck 4 4 := C
  show GG l E X h 0 [(0, .ref (ad E a0))] []
  refine g_iconst C dX5_stuck_0 cc_i_0 ?_
  refine g_istore_n (lv' := [(1, .int (0 : Int32)), (0, .ref (ad E a0))]) C dX5_stuck_1 rfl (by decide) rfl ?_
  refine g_iconst C dX5_stuck_2 cc_i_0 ?_
  refine g_istore_n (lv' := [(2, .int (0 : Int32)), (1, .int (0 : Int32)), (0, .ref (ad E a0))]) C dX5_stuck_3 rfl (by decide) rfl ?_
  refine g_sub [2, 1, 0] rfl ?_
  exact wb_X5_stuck_4 C 1000 h a0 (0 : Int32) (0 : Int32) oa0 hs hR
set_option maxHeartbeats 4000000 in
set_option maxRecDepth 100000 in
theorem w_X5_begins (l : Launch) (E : Ep) (h : Hp) (a0 : Nat) (res : Int32 × Hp) (oa0 : OKr a0 5) (hs : sh_X5_begins h a0 = some res) : MG l E yX5_begins cX5_begins 1 (some .int) 5 [.ref (ad E a0)] h (some (.int res.1)) res.2 := by
  refine MG.of (by decide) (Nat.le_of_ble_eq_true rfl) ?_
  intro X C hR
  have C : CX E X RX5 cX5_begins 1 5 := C
  show GG l E X h 0 [(0, .ref (ad E a0))] []
  refine g_aload_n C 0 dX5_begins_0 rfl rfl ?_
  refine g_iconst C dX5_begins_1 cc_i_0 ?_
  refine pf5_13 C oa0 lf_X5_68 dX5_begins_2 ?_
  refine g_aload_n C 0 dX5_begins_5 rfl rfl ?_
  obtain ⟨v1, hcv1, hs⟩ := bnd hs
  refine g_cV (As := []) (rest := []) C (w_X5_stuck l E _ _ _ oa0 hcv1) mw_X5_stuck lm_X5_272 oa0 rfl (ce5 E _ (oa0).2) rfl (by decide) rfl (Nat.le_of_ble_eq_true rfl) dX5_begins_6 rfl ?_
  have e9 := Option.some.inj hs
  subst e9
  exact g_iret C hR dX5_begins_9
set_option maxHeartbeats 4000000 in
set_option maxRecDepth 100000 in
theorem wb_X5_helps_63 {l : Launch} {E : Ep} {X : Fx} {res : Int32 × Hp} (C : CX E X RX5 cX5_helps 4 5) (h : Hp) (s0 : Int32) (hs : b_X5_helps_63  h s0 = some res) (hR : RT E X (some .int) (some (.int res.1)) res.2) : GG l E X h 63 [] [.int s0] := by
  have e9 := Option.some.inj hs
  subst e9
  exact g_iret C hR dX5_helps_63
set_option maxHeartbeats 4000000 in
set_option maxRecDepth 100000 in
theorem wb_X5_helps_61 {l : Launch} {E : Ep} {X : Fx} {res : Int32 × Hp} (C : CX E X RX5 cX5_helps 4 5) (h : Hp) (hs : b_X5_helps_61  h  = some res) (hR : RT E X (some .int) (some (.int res.1)) res.2) : GG l E X h 61 [] [] := by
  refine g_bipush C dX5_helps_61 cc_b_m9 ?_
  exact wb_X5_helps_63 C h (-9 : Int32) hs hR
set_option maxHeartbeats 4000000 in
set_option maxRecDepth 100000 in
theorem wb_X5_helps_14 {l : Launch} {E : Ep} {X : Fx} {res : Int32 × Hp} (C : CX E X RX5 cX5_helps 4 5) : ∀ (n : Nat) (h : Hp) (a0 : Nat) (x1 : Int32) (x2 : Int32) (x3 : Int32) (oa0 : OKr a0 5), b_X5_helps_14  n h a0 x1 x2 x3 = some res → RT E X (some .int) (some (.int res.1)) res.2 → GG l E X h 14 [(0, .ref (ad E a0)), (1, .int x1), (2, .int x2), (3, .int x3)] [] := by
  intro n
  induction n with
  | zero =>
    intro h a0 x1 x2 x3 oa0
    intro hs
    exact absurd hs (by intro e; cases e)
  | succ n ih =>
    intro h a0 x1 x2 x3 oa0 hs hR
    have hk14 := ih
    have hs : f_X5_helps_14  (b_X5_helps_14  n) h a0 x1 x2 x3 = some res := hs
    generalize b_X5_helps_14  n = k14 at hs hk14
    refine g_iload_n C 3 dX5_helps_14 rfl rfl ?_
    refine g_bipush C dX5_helps_15 cc_b_6 ?_
    refine g_icmp_ge (tgt := 34) C dX5_helps_17 (by decide) hs (fun hs => ?_) (fun hs => ?_)
    · refine g_aload_n C 0 dX5_helps_34 rfl rfl ?_
      obtain ⟨v1, hcv1, hs⟩ := bnd hs
      refine g_cV (As := []) (rest := []) C (w_X5_richestNow l E _ _ _ oa0 hcv1) mw_X5_richestNow lm_X5_239 oa0 rfl (ce5 E _ (oa0).2) rfl (by decide) rfl (Nat.le_of_ble_eq_true rfl) dX5_helps_35 rfl ?_
      refine g_istore_n (lv' := [(3, .int v1), (0, .ref (ad E a0)), (1, .int x1), (2, .int x2)]) C dX5_helps_38 rfl (by decide) rfl ?_
      refine g_iload_n C 3 dX5_helps_39 rfl rfl ?_
      refine g_if_le (tgt := 61) C dX5_helps_40 (by decide) hs (fun hs => ?_) (fun hs => ?_)
      · refine g_sub [] rfl ?_
        exact wb_X5_helps_61 C h hs hR
      · refine g_iload_n C 0 dX5_helps_43 rfl rfl ?_
        refine g_if_lt (tgt := 61) C dX5_helps_44 (by decide) hs (fun hs => ?_) (fun hs => ?_)
        · refine g_sub [] rfl ?_
          exact wb_X5_helps_61 C h hs hR
        · refine g_aload_n C 1 dX5_helps_47 rfl rfl ?_
          refine gf5_10 C oa0 lf_X5_29 dX5_helps_48 ?_
          refine g_iload_n C 0 dX5_helps_51 rfl rfl ?_
          refine g_iald C (tg5_10 oa0) dX5_helps_52 hs (fun v2 hs => ?_)
          refine g_iload_n C 3 dX5_helps_53 rfl rfl ?_
          refine g_icmp_le (tgt := 61) C dX5_helps_54 (by decide) hs (fun hs => ?_) (fun hs => ?_)
          · refine g_sub [] rfl ?_
            exact wb_X5_helps_61 C h hs hR
          · refine g_iload_n C 0 dX5_helps_57 rfl rfl ?_
            refine g_goto (tgt := 63) C dX5_helps_58 (by decide) ?_
            refine g_sub [] rfl ?_
            exact wb_X5_helps_63 C h v1 hs hR
    · refine g_iload_n C 2 dX5_helps_20 rfl rfl ?_
      refine g_iload_n C 1 dX5_helps_21 rfl rfl ?_
      refine g_iload_n C 3 dX5_helps_22 rfl rfl ?_
      refine g_ishr C dX5_helps_23 ?_
      refine g_iconst C dX5_helps_24 cc_i_1 ?_
      refine g_iand C dX5_helps_25 ?_
      refine g_iadd C dX5_helps_26 ?_
      refine g_istore_n (lv' := [(2, .int (x2 + ((x1 >>> (x3 &&& 31)) &&& (1 : Int32)))), (0, .ref (ad E a0)), (1, .int x1), (3, .int x3)]) C dX5_helps_27 rfl (by decide) rfl ?_
      refine g_iinc (lv' := [(3, .int (x3 + (1 : Int32))), (2, .int (x2 + ((x1 >>> (x3 &&& 31)) &&& (1 : Int32)))), (0, .ref (ad E a0)), (1, .int x1)]) (j := 3) C dX5_helps_28 rfl (cc_n_1 _) (by decide) rfl ?_
      refine g_goto (tgt := 14) C dX5_helps_31 (by decide) ?_
      refine g_sub [2, 3, 1, 0] rfl ?_
      exact hk14 h a0 x1 (x2 + ((x1 >>> (x3 &&& 31)) &&& (1 : Int32))) (x3 + (1 : Int32)) oa0 hs hR
set_option maxHeartbeats 4000000 in
set_option maxRecDepth 100000 in
theorem w_X5_helps (l : Launch) (E : Ep) (h : Hp) (a0 : Nat) (res : Int32 × Hp) (oa0 : OKr a0 5) (hs : sh_X5_helps h a0 = some res) : MG l E yX5_helps cX5_helps 4 (some .int) 5 [.ref (ad E a0)] h (some (.int res.1)) res.2 := by
  refine MG.of (by decide) (Nat.le_of_ble_eq_true rfl) ?_
  intro X C hR
  have C : CX E X RX5 cX5_helps 4 5 := C
  show GG l E X h 0 [(0, .ref (ad E a0))] []
  refine g_aload_n C 0 dX5_helps_0 rfl rfl ?_
  refine g_iconst C dX5_helps_1 cc_i_0 ?_
  refine pf5_13 C oa0 lf_X5_68 dX5_helps_2 ?_
  refine g_aload_n C 0 dX5_helps_5 rfl rfl ?_
  obtain ⟨v1, hcv1, hs⟩ := bnd hs
  refine g_cV (As := []) (rest := []) C (w_X5_stuck l E _ _ _ oa0 hcv1) mw_X5_stuck lm_X5_272 oa0 rfl (ce5 E _ (oa0).2) rfl (by decide) rfl (Nat.le_of_ble_eq_true rfl) dX5_helps_6 rfl ?_
  refine g_istore_n (lv' := [(1, .int v1), (0, .ref (ad E a0))]) C dX5_helps_9 rfl (by decide) rfl ?_
  refine g_iconst C dX5_helps_10 cc_i_0 ?_
  refine g_istore_n (lv' := [(2, .int (0 : Int32)), (1, .int v1), (0, .ref (ad E a0))]) C dX5_helps_11 rfl (by decide) rfl ?_
  refine g_iconst C dX5_helps_12 cc_i_0 ?_
  refine g_istore_n (lv' := [(3, .int (0 : Int32)), (2, .int (0 : Int32)), (1, .int v1), (0, .ref (ad E a0))]) C dX5_helps_13 rfl (by decide) rfl ?_
  refine g_sub [3, 2, 1, 0] rfl ?_
  exact wb_X5_helps_14 C 1000 (wI h a0 13 (0 : Int32)) a0 v1 (0 : Int32) (0 : Int32) oa0 hs hR
set_option maxHeartbeats 4000000 in
set_option maxRecDepth 100000 in
theorem w_X5_hasBy (l : Launch) (E : Ep) (h : Hp) (a0 : Nat) (x1 : Int32) (x2 : Int32) (x3 : Int32) (x4 : Int32) (res : Int32 × Hp) (oa0 : OKr a0 5) (hs : sh_X5_hasBy h a0 x1 x2 x3 x4 = some res) : MG l E yX5_hasBy cX5_hasBy 6 (some .int) 7 [.ref (ad E a0), .int x1, .int x2, .int x3, .int x4] h (some (.int res.1)) res.2 := by
  refine MG.of (by decide) (Nat.le_of_ble_eq_true rfl) ?_
  intro X C hR
  have C : CX E X RX5 cX5_hasBy 6 7 := C
  show GG l E X h 0 [(0, .ref (ad E a0)), (1, .int x1), (2, .int x2), (3, .int x3), (4, .int x4)] []
  refine g_aload_n C 0 dX5_hasBy_0 rfl rfl ?_
  obtain ⟨h1, hch1, hs⟩ := bnd hs
  refine g_cV (As := []) (rest := []) C (w_X5_open l E _ _ _ oa0 hch1) mw_X5_open lm_X5_217 oa0 rfl (ce5 E _ (oa0).2) rfl (by decide) rfl (Nat.le_of_ble_eq_true rfl) dX5_hasBy_1 rfl ?_
  refine g_aload_n C 0 dX5_hasBy_4 rfl rfl ?_
  refine g_iload_n C 3 dX5_hasBy_5 rfl rfl ?_
  refine pf5_2 C oa0 lf_X5_96 dX5_hasBy_6 ?_
  refine g_aload_n C 0 dX5_hasBy_9 rfl rfl ?_
  refine g_iload C 4 dX5_hasBy_10 rfl ?_
  refine pf5_4 C oa0 lf_X5_85 dX5_hasBy_12 ?_
  refine g_aload_n C 0 dX5_hasBy_15 rfl rfl ?_
  refine g_iload_n C 2 dX5_hasBy_16 rfl rfl ?_
  obtain ⟨h2, hch2, hs⟩ := bnd hs
  refine g_cV (As := [.int x2]) (rest := []) C (w_X5_run l E _ _ _ _ oa0 hch2) mw_X5_run lm_X5_220 oa0 rfl (ce5 E _ (oa0).2) rfl (by decide) rfl (Nat.le_of_ble_eq_true rfl) dX5_hasBy_17 rfl ?_
  refine g_aload_n C 0 dX5_hasBy_20 rfl rfl ?_
  refine gf5_10 C oa0 lf_X5_29 dX5_hasBy_21 ?_
  refine g_iload_n C 1 dX5_hasBy_24 rfl rfl ?_
  refine g_iald C (tg5_10 oa0) dX5_hasBy_25 hs (fun v3 hs => ?_)
  refine g_istore (lv' := [(5, .int v3), (0, .ref (ad E a0)), (1, .int x1), (2, .int x2), (3, .int x3), (4, .int x4)]) C dX5_hasBy_26 (by decide) rfl ?_
  refine g_aload_n C 1 dX5_hasBy_28 rfl rfl ?_
  obtain ⟨h4, hch4, hs⟩ := bnd hs
  refine g_cV (As := []) (rest := []) C (w_X5_close l E _ _ _ oa0 hch4) mw_X5_close lm_X5_223 oa0 rfl (ce5 E _ (oa0).2) rfl (by decide) rfl (Nat.le_of_ble_eq_true rfl) dX5_hasBy_29 rfl ?_
  refine g_iload C 0 dX5_hasBy_32 rfl ?_
  have e9 := Option.some.inj hs
  subst e9
  exact g_iret C hR dX5_hasBy_34
set_option maxHeartbeats 4000000 in
set_option maxRecDepth 100000 in
theorem wb_X5_byLaw_58 {l : Launch} {E : Ep} {X : Fx} {res : Int32 × Hp} (C : CX E X RX5 cX5_byLaw 5 8) (h : Hp) (s0 : Int32) (hs : b_X5_byLaw_58  h s0 = some res) (hR : RT E X (some .int) (some (.int res.1)) res.2) : GG l E X h 58 [] [.int s0] := by
  have e9 := Option.some.inj hs
  subst e9
  exact g_iret C hR dX5_byLaw_58
set_option maxHeartbeats 4000000 in
set_option maxRecDepth 100000 in
theorem wb_X5_byLaw_31 {l : Launch} {E : Ep} {X : Fx} {res : Int32 × Hp} (C : CX E X RX5 cX5_byLaw 5 8) (h : Hp) (a0 : Nat) (x1 : Int32) (x2 : Int32) (x3 : Int32) (s0 : Int32) (oa0 : OKr a0 5) (hs : b_X5_byLaw_31  h a0 x1 x2 x3 s0 = some res) (hR : RT E X (some .int) (some (.int res.1)) res.2) : GG l E X h 31 [(0, .ref (ad E a0)), (1, .int x1), (2, .int x2), (3, .int x3)] [.int s0] := by
  refine g_istore (lv' := [(4, .int s0), (0, .ref (ad E a0)), (1, .int x1), (2, .int x2), (3, .int x3)]) C dX5_byLaw_31 (by decide) rfl ?_
  refine g_iload C 0 dX5_byLaw_33 rfl ?_
  refine g_if_ge (tgt := 47) C dX5_byLaw_35 (by decide) hs (fun hs => ?_) (fun hs => ?_)
  · refine g_aload_n C 1 dX5_byLaw_47 rfl rfl ?_
    refine g_iload_n C 3 dX5_byLaw_48 rfl rfl ?_
    refine g_iload_n C 4 dX5_byLaw_49 rfl rfl ?_
    refine g_iload_n C 2 dX5_byLaw_50 rfl rfl ?_
    refine g_aload_n C 1 dX5_byLaw_51 rfl rfl ?_
    refine gf5_4 C oa0 lf_X5_85 dX5_byLaw_52 ?_
    obtain ⟨q1, hcq1, hs⟩ := bnd hs
    refine g_cV (As := [.int x2, .int x3, .int x1, .int (h.1 a0 4)]) (rest := []) C (w_X5_hasBy l E _ _ _ _ _ _ _ oa0 hcq1) mw_X5_hasBy lm_X5_275 oa0 rfl (ce5 E _ (oa0).2) rfl (by decide) rfl (Nat.le_of_ble_eq_true rfl) dX5_byLaw_55 rfl ?_
    refine g_sub [] rfl ?_
    exact wb_X5_byLaw_58 C q1.2 q1.1 hs hR
  · refine g_aload_n C 1 dX5_byLaw_38 rfl rfl ?_
    refine g_iload C 0 dX5_byLaw_39 rfl ?_
    obtain ⟨q2, hcq2, hs⟩ := bnd hs
    refine g_cV (As := [.int s0]) (rest := []) C (w_X5_refuse l E _ _ _ _ oa0 hcq2) mw_X5_refuse lm_X5_152 oa0 rfl (ce5 E _ (oa0).2) rfl (by decide) rfl (Nat.le_of_ble_eq_true rfl) dX5_byLaw_41 rfl ?_
    refine g_goto (tgt := 58) C dX5_byLaw_44 (by decide) ?_
    refine g_sub [] rfl ?_
    exact wb_X5_byLaw_58 C q2.2 q2.1 hs hR
set_option maxHeartbeats 4000000 in
set_option maxRecDepth 100000 in
theorem w_X5_byLaw (l : Launch) (E : Ep) (h : Hp) (a0 : Nat) (x1 : Int32) (x2 : Int32) (x3 : Int32) (res : Int32 × Hp) (oa0 : OKr a0 5) (hs : sh_X5_byLaw h a0 x1 x2 x3 = some res) : MG l E yX5_byLaw cX5_byLaw 5 (some .int) 8 [.ref (ad E a0), .int x1, .int x2, .int x3] h (some (.int res.1)) res.2 := by
  refine MG.of (by decide) (Nat.le_of_ble_eq_true rfl) ?_
  intro X C hR
  have C : CX E X RX5 cX5_byLaw 5 8 := C
  show GG l E X h 0 [(0, .ref (ad E a0)), (1, .int x1), (2, .int x2), (3, .int x3)] []
  refine g_aload_n C 0 dX5_byLaw_0 rfl rfl ?_
  refine g_iconst C dX5_byLaw_1 cc_i_0 ?_
  refine pf5_13 C oa0 lf_X5_68 dX5_byLaw_2 ?_
  refine g_iload_n C 1 dX5_byLaw_5 rfl rfl ?_
  refine g_i2l C dX5_byLaw_6 ?_
  refine g_lconst (v := (0 : Int64)) C dX5_byLaw_7 (by decide) ?_
  refine g_ldc2 C dX5_byLaw_8 kk_X5_184 ?_
  obtain ⟨v1, hcv1, hs⟩ := bnd hs
  refine g_cS (As := [.long (x1).toInt64, .long (0 : Int64), .long (5 : Int64)]) (rest := []) C (w_X5_in l E _ _ _ _ _ hcv1) mw_X5_in lm_X5_74 rfl (by decide) rfl (Nat.le_of_ble_eq_true rfl) dX5_byLaw_11 rfl ?_
  refine g_if_ne (tgt := 22) C dX5_byLaw_14 (by decide) hs (fun hs => ?_) (fun hs => ?_)
  · refine g_bipush C dX5_byLaw_17 cc_b_m2 ?_
    refine g_goto (tgt := 31) C dX5_byLaw_19 (by decide) ?_
    exact wb_X5_byLaw_31 C (wI h a0 13 (0 : Int32)) a0 x1 x2 x3 (-2 : Int32) oa0 hs hR
  · refine g_aload_n C 0 dX5_byLaw_22 rfl rfl ?_
    refine g_iload_n C 2 dX5_byLaw_23 rfl rfl ?_
    refine g_iload_n C 3 dX5_byLaw_24 rfl rfl ?_
    refine g_iconst C dX5_byLaw_25 cc_i_0 ?_
    refine g_bipush C dX5_byLaw_26 cc_b_60 ?_
    obtain ⟨v2, hcv2, hs⟩ := bnd hs
    refine g_cV (As := [.int x2, .int x3, .int (0 : Int32), .int (60 : Int32)]) (rest := []) C (w_X5_wrongOne l E _ _ _ _ _ _ _ oa0 hcv2) mw_X5_wrongOne lm_X5_226 oa0 rfl (ce5 E _ (oa0).2) rfl (by decide) rfl (Nat.le_of_ble_eq_true rfl) dX5_byLaw_28 rfl ?_
    exact wb_X5_byLaw_31 C (wI h a0 13 (0 : Int32)) a0 x1 x2 x3 v2 oa0 hs hR
set_option maxHeartbeats 4000000 in
set_option maxRecDepth 100000 in
theorem wb_X5_byBack_74 {l : Launch} {E : Ep} {X : Fx} {res : Int32 × Hp} (C : CX E X RX5 cX5_byBack 5 8) (h : Hp) (s0 : Int32) (hs : b_X5_byBack_74  h s0 = some res) (hR : RT E X (some .int) (some (.int res.1)) res.2) : GG l E X h 74 [] [.int s0] := by
  have e9 := Option.some.inj hs
  subst e9
  exact g_iret C hR dX5_byBack_74
set_option maxHeartbeats 4000000 in
set_option maxRecDepth 100000 in
theorem wb_X5_byBack_47 {l : Launch} {E : Ep} {X : Fx} {res : Int32 × Hp} (C : CX E X RX5 cX5_byBack 5 8) (h : Hp) (a0 : Nat) (x1 : Int32) (x2 : Int32) (x3 : Int32) (s0 : Int32) (oa0 : OKr a0 5) (hs : b_X5_byBack_47  h a0 x1 x2 x3 s0 = some res) (hR : RT E X (some .int) (some (.int res.1)) res.2) : GG l E X h 47 [(0, .ref (ad E a0)), (1, .int x1), (2, .int x2), (3, .int x3)] [.int s0] := by
  refine g_istore (lv' := [(4, .int s0), (0, .ref (ad E a0)), (1, .int x1), (2, .int x2), (3, .int x3)]) C dX5_byBack_47 (by decide) rfl ?_
  refine g_iload C 0 dX5_byBack_49 rfl ?_
  refine g_if_ge (tgt := 63) C dX5_byBack_51 (by decide) hs (fun hs => ?_) (fun hs => ?_)
  · refine g_aload_n C 1 dX5_byBack_63 rfl rfl ?_
    refine g_iload_n C 3 dX5_byBack_64 rfl rfl ?_
    refine g_iload_n C 4 dX5_byBack_65 rfl rfl ?_
    refine g_aload_n C 1 dX5_byBack_66 rfl rfl ?_
    refine gf5_2 C oa0 lf_X5_96 dX5_byBack_67 ?_
    refine g_iload_n C 2 dX5_byBack_70 rfl rfl ?_
    obtain ⟨q1, hcq1, hs⟩ := bnd hs
    refine g_cV (As := [.int x2, .int x3, .int (h.1 a0 2), .int x1]) (rest := []) C (w_X5_hasBy l E _ _ _ _ _ _ _ oa0 hcq1) mw_X5_hasBy lm_X5_275 oa0 rfl (ce5 E _ (oa0).2) rfl (by decide) rfl (Nat.le_of_ble_eq_true rfl) dX5_byBack_71 rfl ?_
    refine g_sub [] rfl ?_
    exact wb_X5_byBack_74 C q1.2 q1.1 hs hR
  · refine g_aload_n C 1 dX5_byBack_54 rfl rfl ?_
    refine g_iload C 0 dX5_byBack_55 rfl ?_
    obtain ⟨q2, hcq2, hs⟩ := bnd hs
    refine g_cV (As := [.int s0]) (rest := []) C (w_X5_refuse l E _ _ _ _ oa0 hcq2) mw_X5_refuse lm_X5_152 oa0 rfl (ce5 E _ (oa0).2) rfl (by decide) rfl (Nat.le_of_ble_eq_true rfl) dX5_byBack_57 rfl ?_
    refine g_goto (tgt := 74) C dX5_byBack_60 (by decide) ?_
    refine g_sub [] rfl ?_
    exact wb_X5_byBack_74 C q2.2 q2.1 hs hR
set_option maxHeartbeats 4000000 in
set_option maxRecDepth 100000 in
theorem wb_X5_byBack_25 {l : Launch} {E : Ep} {X : Fx} {res : Int32 × Hp} (C : CX E X RX5 cX5_byBack 5 8) (h : Hp) (a0 : Nat) (x1 : Int32) (x2 : Int32) (x3 : Int32) (oa0 : OKr a0 5) (hs : b_X5_byBack_25  h a0 x1 x2 x3 = some res) (hR : RT E X (some .int) (some (.int res.1)) res.2) : GG l E X h 25 [(0, .ref (ad E a0)), (1, .int x1), (2, .int x2), (3, .int x3)] [] := by
  refine g_bipush C dX5_byBack_25 cc_b_m4 ?_
  refine g_goto (tgt := 47) C dX5_byBack_27 (by decide) ?_
  exact wb_X5_byBack_47 C h a0 x1 x2 x3 (-4 : Int32) oa0 hs hR
set_option maxHeartbeats 4000000 in
set_option maxRecDepth 100000 in
theorem wb_X5_byBack_41 {l : Launch} {E : Ep} {X : Fx} {res : Int32 × Hp} (C : CX E X RX5 cX5_byBack 5 8) (h : Hp) (a0 : Nat) (x1 : Int32) (x2 : Int32) (x3 : Int32) (oa0 : OKr a0 5) (hs : b_X5_byBack_41  h a0 x1 x2 x3 = some res) (hR : RT E X (some .int) (some (.int res.1)) res.2) : GG l E X h 41 [(0, .ref (ad E a0)), (1, .int x1), (2, .int x2), (3, .int x3)] [] := by
  refine g_bipush C dX5_byBack_41 cc_b_m6 ?_
  refine g_goto (tgt := 47) C dX5_byBack_43 (by decide) ?_
  exact wb_X5_byBack_47 C h a0 x1 x2 x3 (-6 : Int32) oa0 hs hR
set_option maxHeartbeats 4000000 in
set_option maxRecDepth 100000 in
theorem w_X5_byBack (l : Launch) (E : Ep) (h : Hp) (a0 : Nat) (x1 : Int32) (x2 : Int32) (x3 : Int32) (res : Int32 × Hp) (oa0 : OKr a0 5) (hs : sh_X5_byBack h a0 x1 x2 x3 = some res) : MG l E yX5_byBack cX5_byBack 5 (some .int) 8 [.ref (ad E a0), .int x1, .int x2, .int x3] h (some (.int res.1)) res.2 := by
  refine MG.of (by decide) (Nat.le_of_ble_eq_true rfl) ?_
  intro X C hR
  have C : CX E X RX5 cX5_byBack 5 8 := C
  show GG l E X h 0 [(0, .ref (ad E a0)), (1, .int x1), (2, .int x2), (3, .int x3)] []
  refine g_aload_n C 0 dX5_byBack_0 rfl rfl ?_
  refine g_iconst C dX5_byBack_1 cc_i_0 ?_
  refine pf5_13 C oa0 lf_X5_68 dX5_byBack_2 ?_
  refine g_aload_n C 0 dX5_byBack_5 rfl rfl ?_
  refine g_iload_n C 2 dX5_byBack_6 rfl rfl ?_
  obtain ⟨v1, hcv1, hs⟩ := bnd hs
  refine g_cV (As := [.int x2]) (rest := []) C (w_X5_isOne l E _ _ _ _ oa0 hcv1) mw_X5_isOne lm_X5_199 oa0 rfl (ce5 E _ (oa0).2) rfl (by decide) rfl (Nat.le_of_ble_eq_true rfl) dX5_byBack_7 rfl ?_
  refine g_if_ne (tgt := 17) C dX5_byBack_10 (by decide) hs (fun hs => ?_) (fun hs => ?_)
  · refine g_iconst C dX5_byBack_13 cc_i_m1 ?_
    refine g_goto (tgt := 47) C dX5_byBack_14 (by decide) ?_
    exact wb_X5_byBack_47 C (wI h a0 13 (0 : Int32)) a0 x1 x2 x3 (-1 : Int32) oa0 hs hR
  · refine g_iload_n C 1 dX5_byBack_17 rfl rfl ?_
    refine g_if_lt (tgt := 25) C dX5_byBack_18 (by decide) hs (fun hs => ?_) (fun hs => ?_)
    · exact wb_X5_byBack_25 C (wI h a0 13 (0 : Int32)) a0 x1 x2 x3 oa0 hs hR
    · refine g_iload_n C 3 dX5_byBack_21 rfl rfl ?_
      refine g_if_ge (tgt := 30) C dX5_byBack_22 (by decide) hs (fun hs => ?_) (fun hs => ?_)
      · refine g_iload_n C 1 dX5_byBack_30 rfl rfl ?_
        refine g_iconst C dX5_byBack_31 cc_i_5 ?_
        refine g_icmp_gt (tgt := 41) C dX5_byBack_32 (by decide) hs (fun hs => ?_) (fun hs => ?_)
        · exact wb_X5_byBack_41 C (wI h a0 13 (0 : Int32)) a0 x1 x2 x3 oa0 hs hR
        · refine g_iload_n C 3 dX5_byBack_35 rfl rfl ?_
          refine g_bipush C dX5_byBack_36 cc_b_60 ?_
          refine g_icmp_le (tgt := 46) C dX5_byBack_38 (by decide) hs (fun hs => ?_) (fun hs => ?_)
          · refine g_iconst C dX5_byBack_46 cc_i_0 ?_
            exact wb_X5_byBack_47 C (wI h a0 13 (0 : Int32)) a0 x1 x2 x3 (0 : Int32) oa0 hs hR
          · exact wb_X5_byBack_41 C (wI h a0 13 (0 : Int32)) a0 x1 x2 x3 oa0 hs hR
      · exact wb_X5_byBack_25 C (wI h a0 13 (0 : Int32)) a0 x1 x2 x3 oa0 hs hR
set_option maxHeartbeats 4000000 in
set_option maxRecDepth 100000 in
theorem wb_X5_leastLaw_95 {l : Launch} {E : Ep} {X : Fx} {res : Int32 × Hp} (C : CX E X RX5 cX5_leastLaw 8 8) (k44 : Hp → Nat → Int32 → Int32 → Int32 → Int32 → Int32 → Option (Int32 × Hp)) (hk44 : ∀ (h : Hp) (a0 : Nat) (x1 : Int32) (x2 : Int32) (x4 : Int32) (x5 : Int32) (x6 : Int32), OKr a0 5 → k44 h a0 x1 x2 x4 x5 x6 = some res → RT E X (some .int) (some (.int res.1)) res.2 → GG l E X h 44 [(0, .ref (ad E a0)), (1, .int x1), (2, .int x2), (4, .int x4), (5, .int x5), (6, .int x6)] []) (h : Hp) (a0 : Nat) (x1 : Int32) (x2 : Int32) (x4 : Int32) (x6 : Int32) (s0 : Int32) (oa0 : OKr a0 5) (hs : b_X5_leastLaw_95 k44 h a0 x1 x2 x4 x6 s0 = some res) (hR : RT E X (some .int) (some (.int res.1)) res.2) : GG l E X h 95 [(0, .ref (ad E a0)), (1, .int x1), (2, .int x2), (4, .int x4), (6, .int x6)] [.int s0] := by
  refine g_istore (lv' := [(5, .int s0), (0, .ref (ad E a0)), (1, .int x1), (2, .int x2), (4, .int x4), (6, .int x6)]) C dX5_leastLaw_95 (by decide) rfl ?_
  refine g_iinc (lv' := [(6, .int (x6 + (1 : Int32))), (5, .int s0), (0, .ref (ad E a0)), (1, .int x1), (2, .int x2), (4, .int x4)]) (j := 5) C dX5_leastLaw_97 rfl (cc_n_1 _) (by decide) rfl ?_
  refine g_goto (tgt := 44) C dX5_leastLaw_100 (by decide) ?_
  refine g_sub [2, 3, 4, 5, 1, 0] rfl ?_
  exact hk44 h a0 x1 x2 x4 s0 (x6 + (1 : Int32)) oa0 hs hR
set_option maxHeartbeats 4000000 in
set_option maxRecDepth 100000 in
theorem wb_X5_leastLaw_79 {l : Launch} {E : Ep} {X : Fx} {res : Int32 × Hp} (C : CX E X RX5 cX5_leastLaw 8 8) (k44 : Hp → Nat → Int32 → Int32 → Int32 → Int32 → Int32 → Option (Int32 × Hp)) (hk44 : ∀ (h : Hp) (a0 : Nat) (x1 : Int32) (x2 : Int32) (x4 : Int32) (x5 : Int32) (x6 : Int32), OKr a0 5 → k44 h a0 x1 x2 x4 x5 x6 = some res → RT E X (some .int) (some (.int res.1)) res.2 → GG l E X h 44 [(0, .ref (ad E a0)), (1, .int x1), (2, .int x2), (4, .int x4), (5, .int x5), (6, .int x6)] []) (h : Hp) (a0 : Nat) (x1 : Int32) (x2 : Int32) (x5 : Int32) (x6 : Int32) (x7 : Int32) (s0 : Int32) (oa0 : OKr a0 5) (hs : b_X5_leastLaw_79 k44 h a0 x1 x2 x5 x6 x7 s0 = some res) (hR : RT E X (some .int) (some (.int res.1)) res.2) : GG l E X h 79 [(0, .ref (ad E a0)), (1, .int x1), (2, .int x2), (5, .int x5), (6, .int x6), (7, .int x7)] [.int s0] := by
  refine g_istore (lv' := [(4, .int s0), (0, .ref (ad E a0)), (1, .int x1), (2, .int x2), (5, .int x5), (6, .int x6), (7, .int x7)]) C dX5_leastLaw_79 (by decide) rfl ?_
  refine g_iload C 6 dX5_leastLaw_81 rfl ?_
  refine g_iload C 4 dX5_leastLaw_83 rfl ?_
  refine g_icmp_ge (tgt := 93) C dX5_leastLaw_85 (by decide) hs (fun hs => ?_) (fun hs => ?_)
  · refine g_iload C 4 dX5_leastLaw_93 rfl ?_
    refine g_sub [1, 2, 3, 0, 5] rfl ?_
    exact wb_X5_leastLaw_95 C k44 hk44 h a0 x1 x2 s0 x6 x5 oa0 hs hR
  · refine g_iload C 6 dX5_leastLaw_88 rfl ?_
    refine g_goto (tgt := 95) C dX5_leastLaw_90 (by decide) ?_
    refine g_sub [1, 2, 3, 0, 5] rfl ?_
    exact wb_X5_leastLaw_95 C k44 hk44 h a0 x1 x2 s0 x6 x7 oa0 hs hR
set_option maxHeartbeats 4000000 in
set_option maxRecDepth 100000 in
theorem wb_X5_leastLaw_44 {l : Launch} {E : Ep} {X : Fx} {res : Int32 × Hp} (C : CX E X RX5 cX5_leastLaw 8 8) : ∀ (n : Nat) (h : Hp) (a0 : Nat) (x1 : Int32) (x2 : Int32) (x4 : Int32) (x5 : Int32) (x6 : Int32) (oa0 : OKr a0 5), b_X5_leastLaw_44  n h a0 x1 x2 x4 x5 x6 = some res → RT E X (some .int) (some (.int res.1)) res.2 → GG l E X h 44 [(0, .ref (ad E a0)), (1, .int x1), (2, .int x2), (4, .int x4), (5, .int x5), (6, .int x6)] [] := by
  intro n
  induction n with
  | zero =>
    intro h a0 x1 x2 x4 x5 x6 oa0
    intro hs
    exact absurd hs (by intro e; cases e)
  | succ n ih =>
    intro h a0 x1 x2 x4 x5 x6 oa0 hs hR
    have hk44 := ih
    have hs : f_X5_leastLaw_44  (b_X5_leastLaw_44  n) h a0 x1 x2 x4 x5 x6 = some res := hs
    generalize b_X5_leastLaw_44  n = k44 at hs hk44
    refine g_iload C 5 dX5_leastLaw_44 rfl ?_
    refine g_bipush C dX5_leastLaw_46 cc_b_6 ?_
    refine g_icmp_ge (tgt := 103) C dX5_leastLaw_48 (by decide) hs (fun hs => ?_) (fun hs => ?_)
    · refine g_iload C 3 dX5_leastLaw_103 rfl ?_
      have e9 := Option.some.inj hs
      subst e9
      exact g_iret C hR dX5_leastLaw_105
    · refine g_aload_n C 0 dX5_leastLaw_51 rfl rfl ?_
      refine g_iload_n C 1 dX5_leastLaw_52 rfl rfl ?_
      refine g_iload_n C 2 dX5_leastLaw_53 rfl rfl ?_
      refine g_iload C 5 dX5_leastLaw_54 rfl ?_
      refine g_aload_n C 0 dX5_leastLaw_56 rfl rfl ?_
      refine gf5_4 C oa0 lf_X5_85 dX5_leastLaw_57 ?_
      obtain ⟨q1, hcq1, hs⟩ := bnd hs
      refine g_cV (As := [.int x1, .int x2, .int x6, .int (h.1 a0 4)]) (rest := []) C (w_X5_hasBy l E _ _ _ _ _ _ _ oa0 hcq1) mw_X5_hasBy lm_X5_275 oa0 rfl (ce5 E _ (oa0).2) rfl (by decide) rfl (Nat.le_of_ble_eq_true rfl) dX5_leastLaw_60 rfl ?_
      refine g_istore (lv' := [(7, .int q1.1), (0, .ref (ad E a0)), (1, .int x1), (2, .int x2), (4, .int x4), (5, .int x5), (6, .int x6)]) C dX5_leastLaw_63 (by decide) rfl ?_
      refine g_iload C 0 dX5_leastLaw_65 rfl ?_
      refine g_iload C 5 dX5_leastLaw_67 rfl ?_
      refine g_icmp_ge (tgt := 77) C dX5_leastLaw_69 (by decide) hs (fun hs => ?_) (fun hs => ?_)
      · refine g_iload C 4 dX5_leastLaw_77 rfl ?_
        refine g_sub [1, 2, 3, 5, 6, 0] rfl ?_
        exact wb_X5_leastLaw_79 C k44 hk44 q1.2 a0 x1 x2 x5 x6 q1.1 x4 oa0 hs hR
      · refine g_iload C 6 dX5_leastLaw_72 rfl ?_
        refine g_goto (tgt := 79) C dX5_leastLaw_74 (by decide) ?_
        refine g_sub [1, 2, 3, 5, 6, 0] rfl ?_
        exact wb_X5_leastLaw_79 C k44 hk44 q1.2 a0 x1 x2 x5 x6 q1.1 x6 oa0 hs hR
set_option maxHeartbeats 4000000 in
set_option maxRecDepth 100000 in
theorem w_X5_leastLaw (l : Launch) (E : Ep) (h : Hp) (a0 : Nat) (x1 : Int32) (x2 : Int32) (res : Int32 × Hp) (oa0 : OKr a0 5) (hs : sh_X5_leastLaw h a0 x1 x2 = some res) : MG l E yX5_leastLaw cX5_leastLaw 8 (some .int) 8 [.ref (ad E a0), .int x1, .int x2] h (some (.int res.1)) res.2 := by
  refine MG.of (by decide) (Nat.le_of_ble_eq_true rfl) ?_
  intro X C hR
  have C : CX E X RX5 cX5_leastLaw 8 8 := C
  show GG l E X h 0 [(0, .ref (ad E a0)), (1, .int x1), (2, .int x2)] []
  refine g_aload_n C 0 dX5_leastLaw_0 rfl rfl ?_
  refine g_iconst C dX5_leastLaw_1 cc_i_0 ?_
  refine pf5_13 C oa0 lf_X5_68 dX5_leastLaw_2 ?_
  refine g_aload_n C 0 dX5_leastLaw_5 rfl rfl ?_
  refine g_iload_n C 1 dX5_leastLaw_6 rfl rfl ?_
  refine g_iload_n C 2 dX5_leastLaw_7 rfl rfl ?_
  refine g_iconst C dX5_leastLaw_8 cc_i_0 ?_
  refine g_bipush C dX5_leastLaw_9 cc_b_60 ?_
  obtain ⟨v1, hcv1, hs⟩ := bnd hs
  refine g_cV (As := [.int x1, .int x2, .int (0 : Int32), .int (60 : Int32)]) (rest := []) C (w_X5_wrongOne l E _ _ _ _ _ _ _ oa0 hcv1) mw_X5_wrongOne lm_X5_226 oa0 rfl (ce5 E _ (oa0).2) rfl (by decide) rfl (Nat.le_of_ble_eq_true rfl) dX5_leastLaw_11 rfl ?_
  refine g_istore_n (lv' := [(3, .int v1), (0, .ref (ad E a0)), (1, .int x1), (2, .int x2)]) C dX5_leastLaw_14 rfl (by decide) rfl ?_
  refine g_iload_n C 0 dX5_leastLaw_15 rfl rfl ?_
  refine g_if_ge (tgt := 25) C dX5_leastLaw_16 (by decide) hs (fun hs => ?_) (fun hs => ?_)
  · refine g_iconst C dX5_leastLaw_25 cc_i_0 ?_
    refine g_istore (lv' := [(4, .int (0 : Int32)), (3, .int v1), (0, .ref (ad E a0)), (1, .int x1), (2, .int x2)]) C dX5_leastLaw_26 (by decide) rfl ?_
    refine g_aload_n C 2 dX5_leastLaw_28 rfl rfl ?_
    refine g_iload_n C 3 dX5_leastLaw_29 rfl rfl ?_
    refine g_iload_n C 4 dX5_leastLaw_30 rfl rfl ?_
    refine g_iconst C dX5_leastLaw_31 cc_i_0 ?_
    refine g_aload_n C 2 dX5_leastLaw_32 rfl rfl ?_
    refine gf5_4 C oa0 lf_X5_85 dX5_leastLaw_33 ?_
    obtain ⟨q2, hcq2, hs⟩ := bnd hs
    refine g_cV (As := [.int x1, .int x2, .int (0 : Int32), .int ((wI h a0 13 (0 : Int32)).1 a0 4)]) (rest := []) C (w_X5_hasBy l E _ _ _ _ _ _ _ oa0 hcq2) mw_X5_hasBy lm_X5_275 oa0 rfl (ce5 E _ (oa0).2) rfl (by decide) rfl (Nat.le_of_ble_eq_true rfl) dX5_leastLaw_36 rfl ?_
    refine g_istore (lv' := [(5, .int q2.1), (4, .int (0 : Int32)), (3, .int v1), (0, .ref (ad E a0)), (1, .int x1), (2, .int x2)]) C dX5_leastLaw_39 (by decide) rfl ?_
    refine g_iconst C dX5_leastLaw_41 cc_i_1 ?_
    refine g_istore (lv' := [(6, .int (1 : Int32)), (5, .int q2.1), (4, .int (0 : Int32)), (3, .int v1), (0, .ref (ad E a0)), (1, .int x1), (2, .int x2)]) C dX5_leastLaw_42 (by decide) rfl ?_
    refine g_sub [4, 5, 6, 2, 1, 0] rfl ?_
    exact wb_X5_leastLaw_44 C 1000 q2.2 a0 x1 x2 (0 : Int32) q2.1 (1 : Int32) oa0 hs hR
  · refine g_aload_n C 1 dX5_leastLaw_19 rfl rfl ?_
    refine g_iload_n C 0 dX5_leastLaw_20 rfl rfl ?_
    obtain ⟨q3, hcq3, hs⟩ := bnd hs
    refine g_cV (As := [.int v1]) (rest := []) C (w_X5_refuse l E _ _ _ _ oa0 hcq3) mw_X5_refuse lm_X5_152 oa0 rfl (ce5 E _ (oa0).2) rfl (by decide) rfl (Nat.le_of_ble_eq_true rfl) dX5_leastLaw_21 rfl ?_
    have e9 := Option.some.inj hs
    subst e9
    exact g_iret C hR dX5_leastLaw_24
set_option maxHeartbeats 4000000 in
set_option maxRecDepth 100000 in
theorem wb_X5_row_32 {l : Launch} {E : Ep} {X : Fx} {res : Int32 × Hp} (C : CX E X RX5 cX5_row 2 1) (h : Hp) (a0 : Nat) (oa0 : OKr a0 5) (hs : b_X5_row_32  h a0 = some res) (hR : RT E X (some .int) (some (.int res.1)) res.2) : GG l E X h 32 [(0, .ref (ad E a0))] [] := by
  refine g_aload_n C 0 dX5_row_32 rfl rfl ?_
  refine g_bipush C dX5_row_33 cc_b_m6 ?_
  obtain ⟨q1, hcq1, hs⟩ := bnd hs
  refine g_cV (As := [.int (-6 : Int32)]) (rest := []) C (w_X5_refuse l E _ _ _ _ oa0 hcq1) mw_X5_refuse lm_X5_152 oa0 rfl (ce5 E _ (oa0).2) rfl (by decide) rfl (Nat.le_of_ble_eq_true rfl) dX5_row_35 rfl ?_
  have e9 := Option.some.inj hs
  subst e9
  exact g_iret C hR dX5_row_38
set_option maxHeartbeats 4000000 in
set_option maxRecDepth 100000 in
theorem w_X5_row (l : Launch) (E : Ep) (h : Hp) (a0 : Nat) (x1 : Int32) (res : Int32 × Hp) (oa0 : OKr a0 5) (hs : sh_X5_row h a0 x1 = some res) : MG l E yX5_row cX5_row 2 (some .int) 1 [.ref (ad E a0), .int x1] h (some (.int res.1)) res.2 := by
  refine MG.of (by decide) (Nat.le_of_ble_eq_true rfl) ?_
  intro X C hR
  have C : CX E X RX5 cX5_row 2 1 := C
  show GG l E X h 0 [(0, .ref (ad E a0)), (1, .int x1)] []
  refine g_aload_n C 0 dX5_row_0 rfl rfl ?_
  refine g_iconst C dX5_row_1 cc_i_0 ?_
  refine pf5_13 C oa0 lf_X5_68 dX5_row_2 ?_
  refine g_iload_n C 1 dX5_row_5 rfl rfl ?_
  refine g_if_ge (tgt := 16) C dX5_row_6 (by decide) hs (fun hs => ?_) (fun hs => ?_)
  · refine g_iload_n C 1 dX5_row_16 rfl rfl ?_
    refine g_sipush C dX5_row_17 cc_s_9999 ?_
    refine g_icmp_gt (tgt := 32) C dX5_row_20 (by decide) hs (fun hs => ?_) (fun hs => ?_)
    · refine g_sub [0] rfl ?_
      exact wb_X5_row_32 C (wI h a0 13 (0 : Int32)) a0 oa0 hs hR
    · refine g_aload_n C 0 dX5_row_23 rfl rfl ?_
      refine gf5_34 C oa0 lf_X5_278 dX5_row_24 ?_
      refine g_bipush C dX5_row_27 cc_b_12 ?_
      refine g_icmp_ne (tgt := 39) C dX5_row_29 (by decide) hs (fun hs => ?_) (fun hs => ?_)
      · refine g_sub [0] rfl ?_
        exact wb_X5_row_32 C (wI h a0 13 (0 : Int32)) a0 oa0 hs hR
      · refine g_aload_n C 0 dX5_row_39 rfl rfl ?_
        refine gf5_33 C oa0 lf_X5_59 dX5_row_40 ?_
        refine g_aload_n C 0 dX5_row_43 rfl rfl ?_
        refine gf5_34 C oa0 lf_X5_278 dX5_row_44 ?_
        refine g_iload_n C 1 dX5_row_47 rfl rfl ?_
        refine g_iast C (tg5_33 oa0) dX5_row_48 hs (fun h1 hs => ?_)
        refine g_aload_n C 0 dX5_row_49 rfl rfl ?_
        refine g_dup C dX5_row_50 rfl ?_
        refine gf5_34 C oa0 lf_X5_278 dX5_row_51 ?_
        refine g_iconst C dX5_row_54 cc_i_1 ?_
        refine g_iadd C dX5_row_55 ?_
        refine pf5_34 C oa0 lf_X5_278 dX5_row_56 ?_
        refine g_aload_n C 0 dX5_row_59 rfl rfl ?_
        refine gf5_34 C oa0 lf_X5_278 dX5_row_60 ?_
        have e9 := Option.some.inj hs
        subst e9
        exact g_iret C hR dX5_row_63
  · refine g_aload_n C 0 dX5_row_9 rfl rfl ?_
    refine g_bipush C dX5_row_10 cc_b_m4 ?_
    obtain ⟨q2, hcq2, hs⟩ := bnd hs
    refine g_cV (As := [.int (-4 : Int32)]) (rest := []) C (w_X5_refuse l E _ _ _ _ oa0 hcq2) mw_X5_refuse lm_X5_152 oa0 rfl (ce5 E _ (oa0).2) rfl (by decide) rfl (Nat.le_of_ble_eq_true rfl) dX5_row_12 rfl ?_
    have e9 := Option.some.inj hs
    subst e9
    exact g_iret C hR dX5_row_15
set_option maxHeartbeats 4000000 in
set_option maxRecDepth 100000 in
theorem wb_X5_bookOf_79 {l : Launch} {E : Ep} {X : Fx} {res : Int32 × Hp} (C : CX E X RX5 cX5_bookOf 6 6) (k21 : Hp → Nat → Int32 → Int32 → Int32 → Int32 → Int32 → Option (Int32 × Hp)) (hk21 : ∀ (h : Hp) (a0 : Nat) (x1 : Int32) (x2 : Int32) (x3 : Int32) (x4 : Int32) (x5 : Int32), OKr a0 5 → k21 h a0 x1 x2 x3 x4 x5 = some res → RT E X (some .int) (some (.int res.1)) res.2 → GG l E X h 21 [(0, .ref (ad E a0)), (1, .int x1), (2, .int x2), (3, .int x3), (4, .int x4), (5, .int x5)] []) (h : Hp) (a0 : Nat) (x1 : Int32) (x2 : Int32) (x3 : Int32) (x5 : Int32) (s0 : Int32) (oa0 : OKr a0 5) (hs : b_X5_bookOf_79 k21 h a0 x1 x2 x3 x5 s0 = some res) (hR : RT E X (some .int) (some (.int res.1)) res.2) : GG l E X h 79 [(0, .ref (ad E a0)), (1, .int x1), (2, .int x2), (3, .int x3), (5, .int x5)] [.int s0] := by
  refine g_istore (lv' := [(4, .int s0), (0, .ref (ad E a0)), (1, .int x1), (2, .int x2), (3, .int x3), (5, .int x5)]) C dX5_bookOf_79 (by decide) rfl ?_
  refine g_iinc (lv' := [(5, .int (x5 + (1 : Int32))), (4, .int s0), (0, .ref (ad E a0)), (1, .int x1), (2, .int x2), (3, .int x3)]) (j := 5) C dX5_bookOf_81 rfl (cc_n_1 _) (by decide) rfl ?_
  refine g_goto (tgt := 21) C dX5_bookOf_84 (by decide) ?_
  refine g_sub [2, 3, 4, 5, 1, 0] rfl ?_
  exact hk21 h a0 x1 x2 x3 s0 (x5 + (1 : Int32)) oa0 hs hR
set_option maxHeartbeats 4000000 in
set_option maxRecDepth 100000 in
theorem wb_X5_bookOf_72 {l : Launch} {E : Ep} {X : Fx} {res : Int32 × Hp} (C : CX E X RX5 cX5_bookOf 6 6) (k21 : Hp → Nat → Int32 → Int32 → Int32 → Int32 → Int32 → Option (Int32 × Hp)) (hk21 : ∀ (h : Hp) (a0 : Nat) (x1 : Int32) (x2 : Int32) (x3 : Int32) (x4 : Int32) (x5 : Int32), OKr a0 5 → k21 h a0 x1 x2 x3 x4 x5 = some res → RT E X (some .int) (some (.int res.1)) res.2 → GG l E X h 21 [(0, .ref (ad E a0)), (1, .int x1), (2, .int x2), (3, .int x3), (4, .int x4), (5, .int x5)] []) (h : Hp) (a0 : Nat) (x1 : Int32) (x2 : Int32) (x3 : Int32) (x5 : Int32) (oa0 : OKr a0 5) (hs : b_X5_bookOf_72 k21 h a0 x1 x2 x3 x5 = some res) (hR : RT E X (some .int) (some (.int res.1)) res.2) : GG l E X h 72 [(0, .ref (ad E a0)), (1, .int x1), (2, .int x2), (3, .int x3), (5, .int x5)] [] := by
  refine g_iload C 4 dX5_bookOf_72 rfl ?_
  refine g_goto (tgt := 79) C dX5_bookOf_74 (by decide) ?_
  exact wb_X5_bookOf_79 C k21 hk21 h a0 x1 x2 x3 x5 x5 oa0 hs hR
set_option maxHeartbeats 4000000 in
set_option maxRecDepth 100000 in
theorem wb_X5_bookOf_77 {l : Launch} {E : Ep} {X : Fx} {res : Int32 × Hp} (C : CX E X RX5 cX5_bookOf 6 6) (k21 : Hp → Nat → Int32 → Int32 → Int32 → Int32 → Int32 → Option (Int32 × Hp)) (hk21 : ∀ (h : Hp) (a0 : Nat) (x1 : Int32) (x2 : Int32) (x3 : Int32) (x4 : Int32) (x5 : Int32), OKr a0 5 → k21 h a0 x1 x2 x3 x4 x5 = some res → RT E X (some .int) (some (.int res.1)) res.2 → GG l E X h 21 [(0, .ref (ad E a0)), (1, .int x1), (2, .int x2), (3, .int x3), (4, .int x4), (5, .int x5)] []) (h : Hp) (a0 : Nat) (x1 : Int32) (x2 : Int32) (x3 : Int32) (x5 : Int32) (oa0 : OKr a0 5) (hs : b_X5_bookOf_77 k21 h a0 x1 x2 x3 x5 = some res) (hR : RT E X (some .int) (some (.int res.1)) res.2) : GG l E X h 77 [(0, .ref (ad E a0)), (1, .int x1), (2, .int x2), (3, .int x3), (5, .int x5)] [] := by
  refine g_bipush C dX5_bookOf_77 cc_b_m9 ?_
  exact wb_X5_bookOf_79 C k21 hk21 h a0 x1 x2 x3 x5 (-9 : Int32) oa0 hs hR
set_option maxHeartbeats 4000000 in
set_option maxRecDepth 100000 in
theorem wb_X5_bookOf_87 {l : Launch} {E : Ep} {X : Fx} {res : Int32 × Hp} (C : CX E X RX5 cX5_bookOf 6 6) (h : Hp) (a0 : Nat) (x4 : Int32) (oa0 : OKr a0 5) (hs : b_X5_bookOf_87  h a0 x4 = some res) (hR : RT E X (some .int) (some (.int res.1)) res.2) : GG l E X h 87 [(0, .ref (ad E a0)), (4, .int x4)] [] := by
  refine g_aload_n C 0 dX5_bookOf_87 rfl rfl ?_
  obtain ⟨h1, hch1, hs⟩ := bnd hs
  refine g_cV (As := []) (rest := []) C (w_X5_close l E _ _ _ oa0 hch1) mw_X5_close lm_X5_223 oa0 rfl (ce5 E _ (oa0).2) rfl (by decide) rfl (Nat.le_of_ble_eq_true rfl) dX5_bookOf_88 rfl ?_
  refine g_iload C 1 dX5_bookOf_91 rfl ?_
  have e9 := Option.some.inj hs
  subst e9
  exact g_iret C hR dX5_bookOf_93
set_option maxHeartbeats 4000000 in
set_option maxRecDepth 100000 in
theorem wb_X5_bookOf_21 {l : Launch} {E : Ep} {X : Fx} {res : Int32 × Hp} (C : CX E X RX5 cX5_bookOf 6 6) : ∀ (n : Nat) (h : Hp) (a0 : Nat) (x1 : Int32) (x2 : Int32) (x3 : Int32) (x4 : Int32) (x5 : Int32) (oa0 : OKr a0 5), b_X5_bookOf_21  n h a0 x1 x2 x3 x4 x5 = some res → RT E X (some .int) (some (.int res.1)) res.2 → GG l E X h 21 [(0, .ref (ad E a0)), (1, .int x1), (2, .int x2), (3, .int x3), (4, .int x4), (5, .int x5)] [] := by
  intro n
  induction n with
  | zero =>
    intro h a0 x1 x2 x3 x4 x5 oa0
    intro hs
    exact absurd hs (by intro e; cases e)
  | succ n ih =>
    intro h a0 x1 x2 x3 x4 x5 oa0 hs hR
    have hk21 := ih
    have hs : f_X5_bookOf_21  (b_X5_bookOf_21  n) h a0 x1 x2 x3 x4 x5 = some res := hs
    generalize b_X5_bookOf_21  n = k21 at hs hk21
    refine g_iload C 5 dX5_bookOf_21 rfl ?_
    refine g_iload_n C 3 dX5_bookOf_23 rfl rfl ?_
    refine g_icmp_ge (tgt := 87) C dX5_bookOf_24 (by decide) hs (fun hs => ?_) (fun hs => ?_)
    · refine g_sub [0, 4] rfl ?_
      exact wb_X5_bookOf_87 C h a0 x4 oa0 hs hR
    · refine g_iload C 4 dX5_bookOf_27 rfl ?_
      refine g_if_ge (tgt := 87) C dX5_bookOf_29 (by decide) hs (fun hs => ?_) (fun hs => ?_)
      · refine g_sub [0, 4] rfl ?_
        exact wb_X5_bookOf_87 C h a0 x4 oa0 hs hR
      · refine g_aload_n C 0 dX5_bookOf_32 rfl rfl ?_
        obtain ⟨h1, hch1, hs⟩ := bnd hs
        refine g_cV (As := []) (rest := []) C (w_X5_dayOn l E _ _ _ oa0 hch1) mw_X5_dayOn lm_X5_149 oa0 rfl (ce5 E _ (oa0).2) rfl (by decide) rfl (Nat.le_of_ble_eq_true rfl) dX5_bookOf_33 rfl ?_
        refine g_aload_n C 0 dX5_bookOf_36 rfl rfl ?_
        refine gf5_33 C oa0 lf_X5_59 dX5_bookOf_37 ?_
        refine g_iload C 5 dX5_bookOf_40 rfl ?_
        refine g_iald C (tg5_33 oa0) dX5_bookOf_42 hs (fun v2 hs => ?_)
        refine g_aload_n C 0 dX5_bookOf_43 rfl rfl ?_
        refine gf5_10 C oa0 lf_X5_29 dX5_bookOf_44 ?_
        refine g_iload_n C 1 dX5_bookOf_47 rfl rfl ?_
        refine g_iald C (tg5_10 oa0) dX5_bookOf_48 hs (fun v3 hs => ?_)
        refine g_icmp_gt (tgt := 72) C dX5_bookOf_49 (by decide) hs (fun hs => ?_) (fun hs => ?_)
        · refine g_sub [0, 1, 2, 3, 5] rfl ?_
          exact wb_X5_bookOf_72 C k21 hk21 h1 a0 x1 x2 x3 x5 oa0 hs hR
        · refine g_iload_n C 2 dX5_bookOf_52 rfl rfl ?_
          refine g_if_eq (tgt := 77) C dX5_bookOf_53 (by decide) hs (fun hs => ?_) (fun hs => ?_)
          · refine g_sub [0, 1, 2, 3, 5] rfl ?_
            exact wb_X5_bookOf_77 C k21 hk21 h1 a0 x1 x2 x3 x5 oa0 hs hR
          · refine g_aload_n C 0 dX5_bookOf_56 rfl rfl ?_
            refine gf5_33 C oa0 lf_X5_59 dX5_bookOf_57 ?_
            refine g_iload C 5 dX5_bookOf_60 rfl ?_
            refine g_iald C (tg5_33 oa0) dX5_bookOf_62 hs (fun v4 hs => ?_)
            refine g_aload_n C 0 dX5_bookOf_63 rfl rfl ?_
            refine gf5_10 C oa0 lf_X5_29 dX5_bookOf_64 ?_
            refine g_iload_n C 1 dX5_bookOf_67 rfl rfl ?_
            refine g_iald C (tg5_10 oa0) dX5_bookOf_68 hs (fun v5 hs => ?_)
            refine g_icmp_eq (tgt := 77) C dX5_bookOf_69 (by decide) hs (fun hs => ?_) (fun hs => ?_)
            · refine g_sub [0, 1, 2, 3, 5] rfl ?_
              exact wb_X5_bookOf_77 C k21 hk21 h1 a0 x1 x2 x3 x5 oa0 hs hR
            · refine g_sub [0, 1, 2, 3, 5] rfl ?_
              exact wb_X5_bookOf_72 C k21 hk21 h1 a0 x1 x2 x3 x5 oa0 hs hR
set_option maxHeartbeats 4000000 in
set_option maxRecDepth 100000 in
theorem w_X5_bookOf (l : Launch) (E : Ep) (h : Hp) (a0 : Nat) (x1 : Int32) (x2 : Int32) (res : Int32 × Hp) (oa0 : OKr a0 5) (hs : sh_X5_bookOf h a0 x1 x2 = some res) : MG l E yX5_bookOf cX5_bookOf 6 (some .int) 6 [.ref (ad E a0), .int x1, .int x2] h (some (.int res.1)) res.2 := by
  refine MG.of (by decide) (Nat.le_of_ble_eq_true rfl) ?_
  intro X C hR
  have C : CX E X RX5 cX5_bookOf 6 6 := C
  show GG l E X h 0 [(0, .ref (ad E a0)), (1, .int x1), (2, .int x2)] []
  refine g_aload_n C 0 dX5_bookOf_0 rfl rfl ?_
  refine gf5_34 C oa0 lf_X5_278 dX5_bookOf_1 ?_
  refine g_istore_n (lv' := [(3, .int (h.1 a0 34)), (0, .ref (ad E a0)), (1, .int x1), (2, .int x2)]) C dX5_bookOf_4 rfl (by decide) rfl ?_
  refine g_aload_n C 1 dX5_bookOf_5 rfl rfl ?_
  refine g_iconst C dX5_bookOf_6 cc_i_0 ?_
  refine pf5_34 C oa0 lf_X5_278 dX5_bookOf_7 ?_
  refine g_bipush C dX5_bookOf_10 cc_b_m9 ?_
  refine g_istore (lv' := [(4, .int (-9 : Int32)), (3, .int (h.1 a0 34)), (0, .ref (ad E a0)), (1, .int x1), (2, .int x2)]) C dX5_bookOf_12 (by decide) rfl ?_
  refine g_aload_n C 2 dX5_bookOf_14 rfl rfl ?_
  obtain ⟨h1, hch1, hs⟩ := bnd hs
  refine g_cV (As := []) (rest := []) C (w_X5_open l E _ _ _ oa0 hch1) mw_X5_open lm_X5_217 oa0 rfl (ce5 E _ (oa0).2) rfl (by decide) rfl (Nat.le_of_ble_eq_true rfl) dX5_bookOf_15 rfl ?_
  refine g_iconst C dX5_bookOf_18 cc_i_0 ?_
  refine g_istore (lv' := [(5, .int (0 : Int32)), (4, .int (-9 : Int32)), (3, .int (h.1 a0 34)), (0, .ref (ad E a0)), (1, .int x1), (2, .int x2)]) C dX5_bookOf_19 (by decide) rfl ?_
  refine g_sub [3, 4, 5, 2, 1, 0] rfl ?_
  exact wb_X5_bookOf_21 C 1000 h1 a0 x1 x2 (h.1 a0 34) (-9 : Int32) (0 : Int32) oa0 hs hR
set_option maxHeartbeats 4000000 in
set_option maxRecDepth 100000 in
theorem wb_X5_found_27 {l : Launch} {E : Ep} {X : Fx} {res : Int32 × Hp} (C : CX E X RX5 cX5_found 2 7) (h : Hp) (s0 : Int32) (hs : b_X5_found_27  h s0 = some res) (hR : RT E X (some .int) (some (.int res.1)) res.2) : GG l E X h 27 [] [.int s0] := by
  have e9 := Option.some.inj hs
  subst e9
  exact g_iret C hR dX5_found_27
set_option maxHeartbeats 4000000 in
set_option maxRecDepth 100000 in
theorem w_X5_found (l : Launch) (E : Ep) (h : Hp) (a0 : Nat) (x1 : Int32) (res : Int32 × Hp) (oa0 : OKr a0 5) (hs : sh_X5_found h a0 x1 = some res) : MG l E yX5_found cX5_found 2 (some .int) 7 [.ref (ad E a0), .int x1] h (some (.int res.1)) res.2 := by
  refine MG.of (by decide) (Nat.le_of_ble_eq_true rfl) ?_
  intro X C hR
  have C : CX E X RX5 cX5_found 2 7 := C
  show GG l E X h 0 [(0, .ref (ad E a0)), (1, .int x1)] []
  refine g_aload_n C 0 dX5_found_0 rfl rfl ?_
  refine g_iconst C dX5_found_1 cc_i_0 ?_
  refine pf5_13 C oa0 lf_X5_68 dX5_found_2 ?_
  refine g_aload_n C 0 dX5_found_5 rfl rfl ?_
  refine g_iload_n C 1 dX5_found_6 rfl rfl ?_
  obtain ⟨v1, hcv1, hs⟩ := bnd hs
  refine g_cV (As := [.int x1]) (rest := []) C (w_X5_isOne l E _ _ _ _ oa0 hcv1) mw_X5_isOne lm_X5_199 oa0 rfl (ce5 E _ (oa0).2) rfl (by decide) rfl (Nat.le_of_ble_eq_true rfl) dX5_found_7 rfl ?_
  refine g_if_eq (tgt := 22) C dX5_found_10 (by decide) hs (fun hs => ?_) (fun hs => ?_)
  · refine g_aload_n C 0 dX5_found_22 rfl rfl ?_
    refine g_iconst C dX5_found_23 cc_i_m1 ?_
    obtain ⟨q2, hcq2, hs⟩ := bnd hs
    refine g_cV (As := [.int (-1 : Int32)]) (rest := []) C (w_X5_refuse l E _ _ _ _ oa0 hcq2) mw_X5_refuse lm_X5_152 oa0 rfl (ce5 E _ (oa0).2) rfl (by decide) rfl (Nat.le_of_ble_eq_true rfl) dX5_found_24 rfl ?_
    refine g_sub [] rfl ?_
    exact wb_X5_found_27 C q2.2 q2.1 hs hR
  · refine g_aload_n C 0 dX5_found_13 rfl rfl ?_
    refine g_iload_n C 1 dX5_found_14 rfl rfl ?_
    refine g_iconst C dX5_found_15 cc_i_0 ?_
    obtain ⟨q3, hcq3, hs⟩ := bnd hs
    refine g_cV (As := [.int x1, .int (0 : Int32)]) (rest := []) C (w_X5_bookOf l E _ _ _ _ _ oa0 hcq3) mw_X5_bookOf lm_X5_281 oa0 rfl (ce5 E _ (oa0).2) rfl (by decide) rfl (Nat.le_of_ble_eq_true rfl) dX5_found_16 rfl ?_
    refine g_goto (tgt := 27) C dX5_found_19 (by decide) ?_
    refine g_sub [] rfl ?_
    exact wb_X5_found_27 C q3.2 q3.1 hs hR
set_option maxHeartbeats 4000000 in
set_option maxRecDepth 100000 in
theorem wb_X5_judge_27 {l : Launch} {E : Ep} {X : Fx} {res : Int32 × Hp} (C : CX E X RX5 cX5_judge 2 7) (h : Hp) (s0 : Int32) (hs : b_X5_judge_27  h s0 = some res) (hR : RT E X (some .int) (some (.int res.1)) res.2) : GG l E X h 27 [] [.int s0] := by
  have e9 := Option.some.inj hs
  subst e9
  exact g_iret C hR dX5_judge_27
set_option maxHeartbeats 4000000 in
set_option maxRecDepth 100000 in
theorem w_X5_judge (l : Launch) (E : Ep) (h : Hp) (a0 : Nat) (x1 : Int32) (res : Int32 × Hp) (oa0 : OKr a0 5) (hs : sh_X5_judge h a0 x1 = some res) : MG l E yX5_judge cX5_judge 2 (some .int) 7 [.ref (ad E a0), .int x1] h (some (.int res.1)) res.2 := by
  refine MG.of (by decide) (Nat.le_of_ble_eq_true rfl) ?_
  intro X C hR
  have C : CX E X RX5 cX5_judge 2 7 := C
  show GG l E X h 0 [(0, .ref (ad E a0)), (1, .int x1)] []
  refine g_aload_n C 0 dX5_judge_0 rfl rfl ?_
  refine g_iconst C dX5_judge_1 cc_i_0 ?_
  refine pf5_13 C oa0 lf_X5_68 dX5_judge_2 ?_
  refine g_aload_n C 0 dX5_judge_5 rfl rfl ?_
  refine g_iload_n C 1 dX5_judge_6 rfl rfl ?_
  obtain ⟨v1, hcv1, hs⟩ := bnd hs
  refine g_cV (As := [.int x1]) (rest := []) C (w_X5_isOne l E _ _ _ _ oa0 hcv1) mw_X5_isOne lm_X5_199 oa0 rfl (ce5 E _ (oa0).2) rfl (by decide) rfl (Nat.le_of_ble_eq_true rfl) dX5_judge_7 rfl ?_
  refine g_if_eq (tgt := 22) C dX5_judge_10 (by decide) hs (fun hs => ?_) (fun hs => ?_)
  · refine g_aload_n C 0 dX5_judge_22 rfl rfl ?_
    refine g_iconst C dX5_judge_23 cc_i_m1 ?_
    obtain ⟨q2, hcq2, hs⟩ := bnd hs
    refine g_cV (As := [.int (-1 : Int32)]) (rest := []) C (w_X5_refuse l E _ _ _ _ oa0 hcq2) mw_X5_refuse lm_X5_152 oa0 rfl (ce5 E _ (oa0).2) rfl (by decide) rfl (Nat.le_of_ble_eq_true rfl) dX5_judge_24 rfl ?_
    refine g_sub [] rfl ?_
    exact wb_X5_judge_27 C q2.2 q2.1 hs hR
  · refine g_aload_n C 0 dX5_judge_13 rfl rfl ?_
    refine g_iload_n C 1 dX5_judge_14 rfl rfl ?_
    refine g_iconst C dX5_judge_15 cc_i_1 ?_
    obtain ⟨q3, hcq3, hs⟩ := bnd hs
    refine g_cV (As := [.int x1, .int (1 : Int32)]) (rest := []) C (w_X5_bookOf l E _ _ _ _ _ oa0 hcq3) mw_X5_bookOf lm_X5_281 oa0 rfl (ce5 E _ (oa0).2) rfl (by decide) rfl (Nat.le_of_ble_eq_true rfl) dX5_judge_16 rfl ?_
    refine g_goto (tgt := 27) C dX5_judge_19 (by decide) ?_
    refine g_sub [] rfl ?_
    exact wb_X5_judge_27 C q3.2 q3.1 hs hR
set_option maxHeartbeats 4000000 in
set_option maxRecDepth 100000 in
theorem wb_X5_told_113 {l : Launch} {E : Ep} {X : Fx} {res : Int32 × Hp} (C : CX E X RX5 cX5_told 4 3) (k24 : Hp → Nat → Int32 → Int32 → Int32 → Option (Int32 × Hp)) (hk24 : ∀ (h : Hp) (a0 : Nat) (x1 : Int32) (x2 : Int32) (x3 : Int32), OKr a0 5 → k24 h a0 x1 x2 x3 = some res → RT E X (some .int) (some (.int res.1)) res.2 → GG l E X h 24 [(0, .ref (ad E a0)), (1, .int x1), (2, .int x2), (3, .int x3)] []) (h : Hp) (a0 : Nat) (x1 : Int32) (x2 : Int32) (x3 : Int32) (oa0 : OKr a0 5) (hs : b_X5_told_113 k24 h a0 x1 x2 x3 = some res) (hR : RT E X (some .int) (some (.int res.1)) res.2) : GG l E X h 113 [(0, .ref (ad E a0)), (1, .int x1), (2, .int x2), (3, .int x3)] [] := by
  refine g_iinc (lv' := [(3, .int (x3 + (3 : Int32))), (0, .ref (ad E a0)), (1, .int x1), (2, .int x2)]) (j := 3) C dX5_told_113 rfl (cc_n_3 _) (by decide) rfl ?_
  refine g_goto (tgt := 24) C dX5_told_116 (by decide) ?_
  refine g_sub [1, 2, 3, 0] rfl ?_
  exact hk24 h a0 x1 x2 (x3 + (3 : Int32)) oa0 hs hR
set_option maxHeartbeats 4000000 in
set_option maxRecDepth 100000 in
theorem wb_X5_told_102 {l : Launch} {E : Ep} {X : Fx} {res : Int32 × Hp} (C : CX E X RX5 cX5_told 4 3) (k24 : Hp → Nat → Int32 → Int32 → Int32 → Option (Int32 × Hp)) (hk24 : ∀ (h : Hp) (a0 : Nat) (x1 : Int32) (x2 : Int32) (x3 : Int32), OKr a0 5 → k24 h a0 x1 x2 x3 = some res → RT E X (some .int) (some (.int res.1)) res.2 → GG l E X h 24 [(0, .ref (ad E a0)), (1, .int x1), (2, .int x2), (3, .int x3)] []) (h : Hp) (a0 : Nat) (x1 : Int32) (x2 : Int32) (x3 : Int32) (b0 : Nat) (s1 : Int32) (s2 : Int32) (oa0 : OKr a0 5) (ob0 : OKr b0 5) (hs : b_X5_told_102 k24 h a0 x1 x2 x3 b0 s1 s2 = some res) (hR : RT E X (some .int) (some (.int res.1)) res.2) : GG l E X h 102 [(0, .ref (ad E a0)), (1, .int x1), (2, .int x2), (3, .int x3)] [.int s2, .int s1, .ref (ad E b0)] := by
  refine g_aload_n C 0 dX5_told_102 rfl rfl ?_
  refine gf5_33 C oa0 lf_X5_59 dX5_told_103 ?_
  refine g_iload_n C 3 dX5_told_106 rfl rfl ?_
  refine g_iconst C dX5_told_107 cc_i_2 ?_
  refine g_iadd C dX5_told_108 ?_
  refine g_iald C (tg5_33 oa0) dX5_told_109 hs (fun v1 hs => ?_)
  obtain ⟨h2, hch2, hs⟩ := bnd hs
  refine g_cV (As := [.int s1, .int s2, .int v1]) (rest := []) C (w_X5_addGift l E _ _ _ _ _ _ ob0 hch2) mw_X5_addGift lm_X5_115 ob0 rfl (ce5 E _ (ob0).2) rfl (by decide) rfl (Nat.le_of_ble_eq_true rfl) dX5_told_110 rfl ?_
  exact wb_X5_told_113 C k24 hk24 h2 a0 x1 x2 x3 oa0 hs hR
set_option maxHeartbeats 4000000 in
set_option maxRecDepth 100000 in
theorem wb_X5_told_138 {l : Launch} {E : Ep} {X : Fx} {res : Int32 × Hp} (C : CX E X RX5 cX5_told 4 3) (h : Hp) (s0 : Int32) (hs : b_X5_told_138  h s0 = some res) (hR : RT E X (some .int) (some (.int res.1)) res.2) : GG l E X h 138 [] [.int s0] := by
  have e9 := Option.some.inj hs
  subst e9
  exact g_iret C hR dX5_told_138
set_option maxHeartbeats 4000000 in
set_option maxRecDepth 100000 in
theorem wb_X5_told_133 {l : Launch} {E : Ep} {X : Fx} {res : Int32 × Hp} (C : CX E X RX5 cX5_told 4 3) (h : Hp) (x2 : Int32) (hs : b_X5_told_133  h x2 = some res) (hR : RT E X (some .int) (some (.int res.1)) res.2) : GG l E X h 133 [(2, .int x2)] [] := by
  refine g_iload_n C 0 dX5_told_133 rfl rfl ?_
  refine g_goto (tgt := 138) C dX5_told_134 (by decide) ?_
  refine g_sub [] rfl ?_
  exact wb_X5_told_138 C h x2 hs hR
set_option maxHeartbeats 4000000 in
set_option maxRecDepth 100000 in
theorem wb_X5_told_119 {l : Launch} {E : Ep} {X : Fx} {res : Int32 × Hp} (C : CX E X RX5 cX5_told 4 3) (h : Hp) (a0 : Nat) (x1 : Int32) (x2 : Int32) (oa0 : OKr a0 5) (hs : b_X5_told_119  h a0 x1 x2 = some res) (hR : RT E X (some .int) (some (.int res.1)) res.2) : GG l E X h 119 [(0, .ref (ad E a0)), (1, .int x1), (2, .int x2)] [] := by
  refine g_aload_n C 0 dX5_told_119 rfl rfl ?_
  obtain ⟨h1, hch1, hs⟩ := bnd hs
  refine g_cV (As := []) (rest := []) C (w_X5_close l E _ _ _ oa0 hch1) mw_X5_close lm_X5_223 oa0 rfl (ce5 E _ (oa0).2) rfl (by decide) rfl (Nat.le_of_ble_eq_true rfl) dX5_told_120 rfl ?_
  refine g_iload_n C 2 dX5_told_123 rfl rfl ?_
  refine g_if_ge (tgt := 133) C dX5_told_124 (by decide) hs (fun hs => ?_) (fun hs => ?_)
  · refine g_sub [2] rfl ?_
    exact wb_X5_told_133 C h1 x2 hs hR
  · refine g_iload_n C 1 dX5_told_127 rfl rfl ?_
    refine g_iconst C dX5_told_128 cc_i_3 ?_
    refine g_iremC C dX5_told_129 (by decide) ?_
    refine g_if_ne (tgt := 137) C dX5_told_130 (by decide) hs (fun hs => ?_) (fun hs => ?_)
    · refine g_sub [2] rfl ?_
      exact wb_X5_told_133 C h1 x2 hs hR
    · refine g_iload_n C 1 dX5_told_137 rfl rfl ?_
      refine g_sub [] rfl ?_
      exact wb_X5_told_138 C h1 x1 hs hR
set_option maxHeartbeats 4000000 in
set_option maxRecDepth 100000 in
theorem wb_X5_told_24 {l : Launch} {E : Ep} {X : Fx} {res : Int32 × Hp} (C : CX E X RX5 cX5_told 4 3) : ∀ (n : Nat) (h : Hp) (a0 : Nat) (x1 : Int32) (x2 : Int32) (x3 : Int32) (oa0 : OKr a0 5), b_X5_told_24  n h a0 x1 x2 x3 = some res → RT E X (some .int) (some (.int res.1)) res.2 → GG l E X h 24 [(0, .ref (ad E a0)), (1, .int x1), (2, .int x2), (3, .int x3)] [] := by
  intro n
  induction n with
  | zero =>
    intro h a0 x1 x2 x3 oa0
    intro hs
    exact absurd hs (by intro e; cases e)
  | succ n ih =>
    intro h a0 x1 x2 x3 oa0 hs hR
    have hk24 := ih
    have hs : f_X5_told_24  (b_X5_told_24  n) h a0 x1 x2 x3 = some res := hs
    generalize b_X5_told_24  n = k24 at hs hk24
    refine g_iload_n C 3 dX5_told_24 rfl rfl ?_
    refine g_iconst C dX5_told_25 cc_i_2 ?_
    refine g_iadd C dX5_told_26 ?_
    refine g_iload_n C 1 dX5_told_27 rfl rfl ?_
    refine g_icmp_ge (tgt := 119) C dX5_told_28 (by decide) hs (fun hs => ?_) (fun hs => ?_)
    · refine g_sub [0, 1, 2] rfl ?_
      exact wb_X5_told_119 C h a0 x1 x2 oa0 hs hR
    · refine g_iload_n C 2 dX5_told_31 rfl rfl ?_
      refine g_if_ge (tgt := 119) C dX5_told_32 (by decide) hs (fun hs => ?_) (fun hs => ?_)
      · refine g_sub [0, 1, 2] rfl ?_
        exact wb_X5_told_119 C h a0 x1 x2 oa0 hs hR
      · refine g_aload_n C 0 dX5_told_35 rfl rfl ?_
        refine g_aload_n C 0 dX5_told_36 rfl rfl ?_
        refine gf5_33 C oa0 lf_X5_59 dX5_told_37 ?_
        refine g_iload_n C 3 dX5_told_40 rfl rfl ?_
        refine g_iald C (tg5_33 oa0) dX5_told_41 hs (fun v1 hs => ?_)
        refine g_aload_n C 0 dX5_told_42 rfl rfl ?_
        refine gf5_33 C oa0 lf_X5_59 dX5_told_43 ?_
        refine g_iload_n C 3 dX5_told_46 rfl rfl ?_
        refine g_iconst C dX5_told_47 cc_i_1 ?_
        refine g_iadd C dX5_told_48 ?_
        refine g_iald C (tg5_33 oa0) dX5_told_49 hs (fun v2 hs => ?_)
        refine g_aload_n C 0 dX5_told_50 rfl rfl ?_
        refine gf5_33 C oa0 lf_X5_59 dX5_told_51 ?_
        refine g_iload_n C 3 dX5_told_54 rfl rfl ?_
        refine g_iconst C dX5_told_55 cc_i_2 ?_
        refine g_iadd C dX5_told_56 ?_
        refine g_iald C (tg5_33 oa0) dX5_told_57 hs (fun v3 hs => ?_)
        obtain ⟨v4, hcv4, hs⟩ := bnd hs
        refine g_cV (As := [.int v1, .int v2, .int v3]) (rest := []) C (w_X5_wrongGift l E _ _ _ _ _ _ oa0 hcv4) mw_X5_wrongGift lm_X5_211 oa0 rfl (ce5 E _ (oa0).2) rfl (by decide) rfl (Nat.le_of_ble_eq_true rfl) dX5_told_58 rfl ?_
        refine g_if_ge (tgt := 69) C dX5_told_61 (by decide) hs (fun hs => ?_) (fun hs => ?_)
        · refine g_aload_n C 0 dX5_told_69 rfl rfl ?_
          refine g_aload_n C 0 dX5_told_70 rfl rfl ?_
          refine gf5_33 C oa0 lf_X5_59 dX5_told_71 ?_
          refine g_iload_n C 3 dX5_told_74 rfl rfl ?_
          refine g_iald C (tg5_33 oa0) dX5_told_75 hs (fun v5 hs => ?_)
          refine g_aload_n C 0 dX5_told_76 rfl rfl ?_
          refine gf5_33 C oa0 lf_X5_59 dX5_told_77 ?_
          refine g_iload_n C 3 dX5_told_80 rfl rfl ?_
          refine g_iconst C dX5_told_81 cc_i_1 ?_
          refine g_iadd C dX5_told_82 ?_
          refine g_iald C (tg5_33 oa0) dX5_told_83 hs (fun v6 hs => ?_)
          refine g_bipush C dX5_told_84 cc_b_9 ?_
          refine g_icmp_ne (tgt := 94) C dX5_told_86 (by decide) hs (fun hs => ?_) (fun hs => ?_)
          · refine g_bipush C dX5_told_89 cc_b_6 ?_
            refine g_goto (tgt := 102) C dX5_told_91 (by decide) ?_
            exact wb_X5_told_102 C k24 hk24 h a0 x1 x2 x3 a0 v5 (6 : Int32) oa0 oa0 hs hR
          · refine g_aload_n C 0 dX5_told_94 rfl rfl ?_
            refine gf5_33 C oa0 lf_X5_59 dX5_told_95 ?_
            refine g_iload_n C 3 dX5_told_98 rfl rfl ?_
            refine g_iconst C dX5_told_99 cc_i_1 ?_
            refine g_iadd C dX5_told_100 ?_
            refine g_iald C (tg5_33 oa0) dX5_told_101 hs (fun v7 hs => ?_)
            exact wb_X5_told_102 C k24 hk24 h a0 x1 x2 x3 a0 v5 v7 oa0 oa0 hs hR
        · refine g_iload_n C 3 dX5_told_64 rfl rfl ?_
          refine g_istore_n (lv' := [(2, .int x3), (0, .ref (ad E a0)), (1, .int x1), (3, .int x3)]) C dX5_told_65 rfl (by decide) rfl ?_
          refine g_goto (tgt := 113) C dX5_told_66 (by decide) ?_
          refine g_sub [1, 2, 0, 3] rfl ?_
          exact wb_X5_told_113 C k24 hk24 h a0 x1 x3 x3 oa0 hs hR
set_option maxHeartbeats 4000000 in
set_option maxRecDepth 100000 in
theorem w_X5_told (l : Launch) (E : Ep) (h : Hp) (a0 : Nat) (res : Int32 × Hp) (oa0 : OKr a0 5) (hs : sh_X5_told h a0 = some res) : MG l E yX5_told cX5_told 4 (some .int) 3 [.ref (ad E a0)] h (some (.int res.1)) res.2 := by
  refine MG.of (by decide) (Nat.le_of_ble_eq_true rfl) ?_
  intro X C hR
  have C : CX E X RX5 cX5_told 4 3 := C
  show GG l E X h 0 [(0, .ref (ad E a0))] []
  refine g_aload_n C 0 dX5_told_0 rfl rfl ?_
  refine g_iconst C dX5_told_1 cc_i_0 ?_
  refine pf5_13 C oa0 lf_X5_68 dX5_told_2 ?_
  refine g_aload_n C 0 dX5_told_5 rfl rfl ?_
  refine gf5_34 C oa0 lf_X5_278 dX5_told_6 ?_
  refine g_istore_n (lv' := [(1, .int ((wI h a0 13 (0 : Int32)).1 a0 34)), (0, .ref (ad E a0))]) C dX5_told_9 rfl (by decide) rfl ?_
  refine g_aload_n C 1 dX5_told_10 rfl rfl ?_
  refine g_iconst C dX5_told_11 cc_i_0 ?_
  refine pf5_34 C oa0 lf_X5_278 dX5_told_12 ?_
  refine g_bipush C dX5_told_15 cc_b_m9 ?_
  refine g_istore_n (lv' := [(2, .int (-9 : Int32)), (1, .int ((wI h a0 13 (0 : Int32)).1 a0 34)), (0, .ref (ad E a0))]) C dX5_told_17 rfl (by decide) rfl ?_
  refine g_aload_n C 2 dX5_told_18 rfl rfl ?_
  obtain ⟨h1, hch1, hs⟩ := bnd hs
  refine g_cV (As := []) (rest := []) C (w_X5_open l E _ _ _ oa0 hch1) mw_X5_open lm_X5_217 oa0 rfl (ce5 E _ (oa0).2) rfl (by decide) rfl (Nat.le_of_ble_eq_true rfl) dX5_told_19 rfl ?_
  refine g_iconst C dX5_told_22 cc_i_0 ?_
  refine g_istore_n (lv' := [(3, .int (0 : Int32)), (2, .int (-9 : Int32)), (1, .int ((wI h a0 13 (0 : Int32)).1 a0 34)), (0, .ref (ad E a0))]) C dX5_told_23 rfl (by decide) rfl ?_
  refine g_sub [3, 2, 1, 0] rfl ?_
  exact wb_X5_told_24 C 1000 h1 a0 ((wI h a0 13 (0 : Int32)).1 a0 34) (-9 : Int32) (0 : Int32) oa0 hs hR
set_option maxHeartbeats 4000000 in
set_option maxRecDepth 100000 in
theorem w_X5_draw (l : Launch) (E : Ep) (h : Hp) (a0 : Nat) (x1 : Int32) (res : Int32 × Hp) (oa0 : OKr a0 5) (hs : sh_X5_draw h a0 x1 = some res) : MG l E yX5_draw cX5_draw 2 (some .int) 0 [.ref (ad E a0), .int x1] h (some (.int res.1)) res.2 := by
  refine MG.of (by decide) (Nat.le_of_ble_eq_true rfl) ?_
  intro X C hR
  have C : CX E X RX5 cX5_draw 2 0 := C
  show GG l E X h 0 [(0, .ref (ad E a0)), (1, .int x1)] []
  refine g_aload_n C 0 dX5_draw_0 rfl rfl ?_
  refine g_aload_n C 0 dX5_draw_1 rfl rfl ?_
  refine gf5_35 C oa0 lf_X5_285 dX5_draw_2 ?_
  refine g_ldcw C dX5_draw_5 kk_X5_288 ?_
  refine g_imul C dX5_draw_8 ?_
  refine g_sipush C dX5_draw_9 cc_s_12345 ?_
  refine g_iadd C dX5_draw_12 ?_
  refine pf5_35 C oa0 lf_X5_285 dX5_draw_13 ?_
  refine g_aload_n C 0 dX5_draw_16 rfl rfl ?_
  refine gf5_35 C oa0 lf_X5_285 dX5_draw_17 ?_
  refine g_ldcw C dX5_draw_20 kk_X5_289 ?_
  refine g_iand C dX5_draw_23 ?_
  refine g_ldcw C dX5_draw_24 kk_X5_290 ?_
  refine g_idivC C dX5_draw_27 (by decide) ?_
  refine g_iload_n C 1 dX5_draw_28 rfl rfl ?_
  refine g_irem C dX5_draw_29 hs (fun v1 hs => ?_)
  have e9 := Option.some.inj hs
  subst e9
  exact g_iret C hR dX5_draw_30
set_option maxHeartbeats 4000000 in
set_option maxRecDepth 100000 in
theorem wb_X5_seeds_53 {l : Launch} {E : Ep} {X : Fx} {res : Int32 × Hp} (C : CX E X RX5 cX5_seeds 6 6) : ∀ (n : Nat) (h : Hp) (a0 : Nat) (x1 : Int32) (x4 : Int32) (oa0 : OKr a0 5), b_X5_seeds_53  n h a0 x1 x4 = some res → RT E X (some .int) (some (.int res.1)) res.2 → GG l E X h 53 [(0, .ref (ad E a0)), (1, .int x1), (4, .int x4)] [] := by
  intro n
  induction n with
  | zero =>
    intro h a0 x1 x4 oa0
    intro hs
    exact absurd hs (by intro e; cases e)
  | succ n ih =>
    intro h a0 x1 x4 oa0 hs hR
    have hk53 := ih
    have hs : f_X5_seeds_53  (b_X5_seeds_53  n) h a0 x1 x4 = some res := hs
    generalize b_X5_seeds_53  n = k53 at hs hk53
    refine g_iload C 2 dX5_seeds_53 rfl ?_
    refine g_iload_n C 1 dX5_seeds_55 rfl rfl ?_
    refine g_icmp_ge (tgt := 106) C dX5_seeds_56 (by decide) hs (fun hs => ?_) (fun hs => ?_)
    · refine g_aload_n C 0 dX5_seeds_106 rfl rfl ?_
      obtain ⟨v1, hcv1, hs⟩ := bnd hs
      refine g_cV (As := []) (rest := []) C (w_X5_all l E _ _ _ oa0 hcv1) mw_X5_all lm_X5_233 oa0 rfl (ce5 E _ (oa0).2) rfl (by decide) rfl (Nat.le_of_ble_eq_true rfl) dX5_seeds_107 rfl ?_
      refine g_istore (lv' := [(4, .int v1), (0, .ref (ad E a0)), (1, .int x1)]) C dX5_seeds_110 (by decide) rfl ?_
      refine g_aload_n C 1 dX5_seeds_112 rfl rfl ?_
      obtain ⟨h2, hch2, hs⟩ := bnd hs
      refine g_cV (As := []) (rest := []) C (w_X5_close l E _ _ _ oa0 hch2) mw_X5_close lm_X5_223 oa0 rfl (ce5 E _ (oa0).2) rfl (by decide) rfl (Nat.le_of_ble_eq_true rfl) dX5_seeds_113 rfl ?_
      refine g_iload C 0 dX5_seeds_116 rfl ?_
      have e9 := Option.some.inj hs
      subst e9
      exact g_iret C hR dX5_seeds_118
    · refine g_aload_n C 0 dX5_seeds_59 rfl rfl ?_
      refine g_aload_n C 0 dX5_seeds_60 rfl rfl ?_
      refine gf5_0 C oa0 lf_X5_71 dX5_seeds_61 ?_
      obtain ⟨q3, hcq3, hs⟩ := bnd hs
      refine g_cV (As := [.int (h.1 a0 0)]) (rest := []) C (w_X5_draw l E _ _ _ _ oa0 hcq3) mw_X5_draw lm_X5_291 oa0 rfl (ce5 E _ (oa0).2) rfl (by decide) rfl (Nat.le_of_ble_eq_true rfl) dX5_seeds_64 rfl ?_
      refine g_istore (lv' := [(5, .int q3.1), (0, .ref (ad E a0)), (1, .int x1), (4, .int x4)]) C dX5_seeds_67 (by decide) rfl ?_
      refine g_aload_n C 1 dX5_seeds_69 rfl rfl ?_
      refine gf5_10 C oa0 lf_X5_29 dX5_seeds_70 ?_
      refine g_iload C 0 dX5_seeds_73 rfl ?_
      refine g_sipush C dX5_seeds_75 cc_s_9999 ?_
      refine g_aload_n C 1 dX5_seeds_78 rfl rfl ?_
      refine gf5_10 C oa0 lf_X5_29 dX5_seeds_79 ?_
      refine g_iload C 0 dX5_seeds_82 rfl ?_
      refine g_iald C (tg5_10 oa0) dX5_seeds_84 hs (fun v4 hs => ?_)
      refine g_aload_n C 1 dX5_seeds_85 rfl rfl ?_
      refine g_bipush C dX5_seeds_86 cc_b_10 ?_
      obtain ⟨q5, hcq5, hs⟩ := bnd hs
      refine g_cV (As := [.int (10 : Int32)]) (rest := [.int v4, .int (9999 : Int32), .int q3.1, .ref (ad E (rf a0 10))]) C (w_X5_draw l E _ _ _ _ oa0 hcq5) mw_X5_draw lm_X5_291 oa0 rfl (ce5 E _ (oa0).2) rfl (by decide) rfl (Nat.le_of_ble_eq_true rfl) dX5_seeds_88 rfl ?_
      refine g_iadd C dX5_seeds_91 ?_
      obtain ⟨v6, hcv6, hs⟩ := bnd hs
      refine g_cS (As := [.int (9999 : Int32), .int (v4 + q5.1)]) (rest := [.int q3.1, .ref (ad E (rf a0 10))]) C (w_X5_lesser l E _ _ _ _ hcv6) mw_X5_lesser lm_X5_99 rfl (by decide) rfl (Nat.le_of_ble_eq_true rfl) dX5_seeds_92 rfl ?_
      refine g_iast C (tg5_10 oa0) dX5_seeds_95 hs (fun h7 hs => ?_)
      refine g_aload_n C 1 dX5_seeds_96 rfl rfl ?_
      obtain ⟨h8, hch8, hs⟩ := bnd hs
      refine g_cV (As := []) (rest := []) C (w_X5_dayOn l E _ _ _ oa0 hch8) mw_X5_dayOn lm_X5_149 oa0 rfl (ce5 E _ (oa0).2) rfl (by decide) rfl (Nat.le_of_ble_eq_true rfl) dX5_seeds_97 rfl ?_
      refine g_iinc (lv' := [(4, .int (x4 + (1 : Int32))), (5, .int q3.1), (0, .ref (ad E a0)), (1, .int x1)]) (j := 3) C dX5_seeds_100 rfl (cc_n_1 _) (by decide) rfl ?_
      refine g_goto (tgt := 53) C dX5_seeds_103 (by decide) ?_
      refine g_sub [2, 3, 0] rfl ?_
      exact hk53 h8 a0 x1 (x4 + (1 : Int32)) oa0 hs hR
set_option maxHeartbeats 4000000 in
set_option maxRecDepth 100000 in
theorem wb_X5_seeds_30 {l : Launch} {E : Ep} {X : Fx} {res : Int32 × Hp} (C : CX E X RX5 cX5_seeds 6 6) (h : Hp) (a0 : Nat) (x1 : Int32) (x2 : Int32) (s0 : Int32) (oa0 : OKr a0 5) (hs : b_X5_seeds_30  h a0 x1 x2 s0 = some res) (hR : RT E X (some .int) (some (.int res.1)) res.2) : GG l E X h 30 [(0, .ref (ad E a0)), (1, .int x1), (2, .int x2)] [.int s0] := by
  refine g_istore_n (lv' := [(3, .int s0), (0, .ref (ad E a0)), (1, .int x1), (2, .int x2)]) C dX5_seeds_30 rfl (by decide) rfl ?_
  refine g_iload_n C 0 dX5_seeds_31 rfl rfl ?_
  refine g_if_ge (tgt := 41) C dX5_seeds_32 (by decide) hs (fun hs => ?_) (fun hs => ?_)
  · refine g_aload_n C 1 dX5_seeds_41 rfl rfl ?_
    obtain ⟨h1, hch1, hs⟩ := bnd hs
    refine g_cV (As := []) (rest := []) C (w_X5_open l E _ _ _ oa0 hch1) mw_X5_open lm_X5_217 oa0 rfl (ce5 E _ (oa0).2) rfl (by decide) rfl (Nat.le_of_ble_eq_true rfl) dX5_seeds_42 rfl ?_
    refine g_aload_n C 1 dX5_seeds_45 rfl rfl ?_
    refine g_iload_n C 3 dX5_seeds_46 rfl rfl ?_
    refine pf5_35 C oa0 lf_X5_285 dX5_seeds_47 ?_
    refine g_iconst C dX5_seeds_50 cc_i_0 ?_
    refine g_istore (lv' := [(4, .int (0 : Int32)), (3, .int s0), (0, .ref (ad E a0)), (1, .int x1), (2, .int x2)]) C dX5_seeds_51 (by decide) rfl ?_
    refine g_sub [2, 3, 0] rfl ?_
    exact wb_X5_seeds_53 C 1000 (wI h1 a0 35 x2) a0 x1 (0 : Int32) oa0 hs hR
  · refine g_aload_n C 1 dX5_seeds_35 rfl rfl ?_
    refine g_iload_n C 0 dX5_seeds_36 rfl rfl ?_
    obtain ⟨q2, hcq2, hs⟩ := bnd hs
    refine g_cV (As := [.int s0]) (rest := []) C (w_X5_refuse l E _ _ _ _ oa0 hcq2) mw_X5_refuse lm_X5_152 oa0 rfl (ce5 E _ (oa0).2) rfl (by decide) rfl (Nat.le_of_ble_eq_true rfl) dX5_seeds_37 rfl ?_
    have e9 := Option.some.inj hs
    subst e9
    exact g_iret C hR dX5_seeds_40
set_option maxHeartbeats 4000000 in
set_option maxRecDepth 100000 in
theorem wb_X5_seeds_29 {l : Launch} {E : Ep} {X : Fx} {res : Int32 × Hp} (C : CX E X RX5 cX5_seeds 6 6) (h : Hp) (a0 : Nat) (x1 : Int32) (x2 : Int32) (x3 : Int32) (oa0 : OKr a0 5) (hs : b_X5_seeds_29  h a0 x1 x2 x3 = some res) (hR : RT E X (some .int) (some (.int res.1)) res.2) : GG l E X h 29 [(0, .ref (ad E a0)), (1, .int x1), (2, .int x2), (3, .int x3)] [] := by
  refine g_iload_n C 3 dX5_seeds_29 rfl rfl ?_
  refine g_sub [0, 1, 2] rfl ?_
  exact wb_X5_seeds_30 C h a0 x1 x2 x3 oa0 hs hR
set_option maxHeartbeats 4000000 in
set_option maxRecDepth 100000 in
theorem w_X5_seeds (l : Launch) (E : Ep) (h : Hp) (a0 : Nat) (x1 : Int32) (x2 : Int32) (res : Int32 × Hp) (oa0 : OKr a0 5) (hs : sh_X5_seeds h a0 x1 x2 = some res) : MG l E yX5_seeds cX5_seeds 6 (some .int) 6 [.ref (ad E a0), .int x1, .int x2] h (some (.int res.1)) res.2 := by
  refine MG.of (by decide) (Nat.le_of_ble_eq_true rfl) ?_
  intro X C hR
  have C : CX E X RX5 cX5_seeds 6 6 := C
  show GG l E X h 0 [(0, .ref (ad E a0)), (1, .int x1), (2, .int x2)] []
  refine g_aload_n C 0 dX5_seeds_0 rfl rfl ?_
  refine g_iconst C dX5_seeds_1 cc_i_0 ?_
  refine pf5_13 C oa0 lf_X5_68 dX5_seeds_2 ?_
  refine g_iload_n C 1 dX5_seeds_5 rfl rfl ?_
  refine g_iconst C dX5_seeds_6 cc_i_1 ?_
  refine g_bipush C dX5_seeds_7 cc_b_20 ?_
  obtain ⟨v1, hcv1, hs⟩ := bnd hs
  refine g_cS (As := [.int x1, .int (1 : Int32), .int (20 : Int32)]) (rest := []) C (w_X5_wrongDays l E _ _ _ _ _ hcv1) mw_X5_wrongDays lm_X5_214 rfl (by decide) rfl (Nat.le_of_ble_eq_true rfl) dX5_seeds_9 rfl ?_
  refine g_istore_n (lv' := [(3, .int v1), (0, .ref (ad E a0)), (1, .int x1), (2, .int x2)]) C dX5_seeds_12 rfl (by decide) rfl ?_
  refine g_iload_n C 0 dX5_seeds_13 rfl rfl ?_
  refine g_if_ne (tgt := 29) C dX5_seeds_14 (by decide) hs (fun hs => ?_) (fun hs => ?_)
  · refine g_aload_n C 1 dX5_seeds_17 rfl rfl ?_
    refine gf5_0 C oa0 lf_X5_71 dX5_seeds_18 ?_
    refine g_if_ne (tgt := 29) C dX5_seeds_21 (by decide) hs (fun hs => ?_) (fun hs => ?_)
    · refine g_bipush C dX5_seeds_24 cc_b_m3 ?_
      refine g_goto (tgt := 30) C dX5_seeds_26 (by decide) ?_
      refine g_sub [1, 2, 3] rfl ?_
      exact wb_X5_seeds_30 C (wI h a0 13 (0 : Int32)) a0 x1 x2 (-3 : Int32) oa0 hs hR
    · refine g_sub [1, 2, 3, 0] rfl ?_
      exact wb_X5_seeds_29 C (wI h a0 13 (0 : Int32)) a0 x1 x2 v1 oa0 hs hR
  · refine g_sub [1, 2, 3, 0] rfl ?_
    exact wb_X5_seeds_29 C (wI h a0 13 (0 : Int32)) a0 x1 x2 v1 oa0 hs hR
set_option maxHeartbeats 4000000 in
set_option maxRecDepth 100000 in
theorem wb_X5_carryMore_14 {l : Launch} {E : Ep} {X : Fx} {res : Int32 × Hp} (C : CX E X RX5 cX5_carryMore 3 0) (h : Hp) (a0 : Nat) (x1 : Int32) (oa0 : OKr a0 5) (hs : b_X5_carryMore_14  h a0 x1 = some res) (hR : RT E X (some .int) (some (.int res.1)) res.2) : GG l E X h 14 [(0, .ref (ad E a0)), (1, .int x1)] [] := by
  refine g_aload_n C 0 dX5_carryMore_14 rfl rfl ?_
  refine gf5_38 C oa0 lf_X5_65 dX5_carryMore_15 ?_
  refine g_iload_n C 1 dX5_carryMore_18 rfl rfl ?_
  refine g_iald C (tg5_38 oa0) dX5_carryMore_19 hs (fun v1 hs => ?_)
  have e9 := Option.some.inj hs
  subst e9
  exact g_iret C hR dX5_carryMore_20
set_option maxHeartbeats 4000000 in
set_option maxRecDepth 100000 in
theorem w_X5_carryMore (l : Launch) (E : Ep) (h : Hp) (a0 : Nat) (x1 : Int32) (x2 : Int32) (res : Int32 × Hp) (oa0 : OKr a0 5) (hs : sh_X5_carryMore h a0 x1 x2 = some res) : MG l E yX5_carryMore cX5_carryMore 3 (some .int) 0 [.ref (ad E a0), .int x1, .int x2] h (some (.int res.1)) res.2 := by
  refine MG.of (by decide) (Nat.le_of_ble_eq_true rfl) ?_
  intro X C hR
  have C : CX E X RX5 cX5_carryMore 3 0 := C
  show GG l E X h 0 [(0, .ref (ad E a0)), (1, .int x1), (2, .int x2)] []
  refine g_aload_n C 0 dX5_carryMore_0 rfl rfl ?_
  refine gf5_18 C oa0 lf_X5_132 dX5_carryMore_1 ?_
  refine g_if_eq (tgt := 14) C dX5_carryMore_4 (by decide) hs (fun hs => ?_) (fun hs => ?_)
  · refine g_sub [0, 1] rfl ?_
    exact wb_X5_carryMore_14 C h a0 x1 oa0 hs hR
  · refine g_aload_n C 0 dX5_carryMore_7 rfl rfl ?_
    refine gf5_38 C oa0 lf_X5_65 dX5_carryMore_8 ?_
    refine g_iload_n C 1 dX5_carryMore_11 rfl rfl ?_
    refine g_iload_n C 2 dX5_carryMore_12 rfl rfl ?_
    refine g_iast C (tg5_38 oa0) dX5_carryMore_13 hs (fun h1 hs => ?_)
    refine g_sub [0, 1] rfl ?_
    exact wb_X5_carryMore_14 C h1 a0 x1 oa0 hs hR
