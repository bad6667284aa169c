set_option maxHeartbeats 4000000 in
set_option maxRecDepth 100000 in
theorem wb_X4_refuse_22 {l : Launch} {E : Ep} {X : Fx} {res : Int32 × Hp} (C : CX E X RX4 cX4_refuse 2 0) (h : Hp) (x1 : Int32) (hs : b_X4_refuse_22  h x1 = some res) (hR : RT E X (some .int) (some (.int res.1)) res.2) : GG l E X h 22 [(1, .int x1)] [] := by
  refine g_iload_n C 0 dX4_refuse_22 rfl rfl ?_
  have e9 := Option.some.inj hs
  subst e9
  exact g_iret C hR dX4_refuse_23
set_option maxHeartbeats 4000000 in
set_option maxRecDepth 100000 in
theorem w_X4_refuse (l : Launch) (E : Ep) (h : Hp) (a0 : Nat) (x1 : Int32) (res : Int32 × Hp) (oa0 : OKr a0 4) (hs : sh_X4_refuse h a0 x1 = some res) : MG l E yX4_refuse cX4_refuse 2 (some .int) 0 [.ref (ad E a0), .int x1] h (some (.int res.1)) res.2 := by
  refine MG.of (by decide) (Nat.le_of_ble_eq_true rfl) ?_
  intro X C hR
  have C : CX E X RX4 cX4_refuse 2 0 := C
  show GG l E X h 0 [(0, .ref (ad E a0)), (1, .int x1)] []
  refine g_iload_n C 1 dX4_refuse_0 rfl rfl ?_
  refine g_bipush C dX4_refuse_1 cc_b_m6 ?_
  refine g_icmp_lt (tgt := 22) C dX4_refuse_3 (by decide) hs (fun hs => ?_) (fun hs => ?_)
  · refine g_sub [1] rfl ?_
    exact wb_X4_refuse_22 C h x1 hs hR
  · refine g_iload_n C 1 dX4_refuse_6 rfl rfl ?_
    refine g_iconst C dX4_refuse_7 cc_i_m1 ?_
    refine g_icmp_gt (tgt := 22) C dX4_refuse_8 (by decide) hs (fun hs => ?_) (fun hs => ?_)
    · refine g_sub [1] rfl ?_
      exact wb_X4_refuse_22 C h x1 hs hR
    · refine g_aload_n C 0 dX4_refuse_11 rfl rfl ?_
      refine gf4_7 C oa0 lf_X4_43 dX4_refuse_12 ?_
      refine g_iload_n C 1 dX4_refuse_15 rfl rfl ?_
      refine g_ineg C dX4_refuse_16 ?_
      refine g_dup2 C dX4_refuse_17 rfl rfl ?_
      refine g_iald C (tg4_7 oa0) dX4_refuse_18 hs (fun v1 hs => ?_)
      refine g_iconst C dX4_refuse_19 cc_i_1 ?_
      refine g_iadd C dX4_refuse_20 ?_
      refine g_iast C (tg4_7 oa0) dX4_refuse_21 hs (fun h2 hs => ?_)
      refine g_sub [1] rfl ?_
      exact wb_X4_refuse_22 C h2 x1 hs hR
set_option maxHeartbeats 4000000 in
set_option maxRecDepth 100000 in
theorem wb_X1_isFull_14 {l : Launch} {E : Ep} {X : Fx} {res : Int32} (C : CX E X RX1 cX1_isFull 1 0) (h : Hp) (s0 : Int32) (hs : b_X1_isFull_14  h s0 = some res) (hR : RT E X (some .boolean) (some (.int res)) h) : GG l E X h 14 [] [.int s0] := by
  obtain ⟨v1, hbv1, hs⟩ := bnd hs
  obtain ⟨hzv1, hyv1⟩ := bol_v hbv1
  have e9 := Option.some.inj hs
  subst e9
  refine g_top hyv1 ?_
  exact g_zret C hzv1 hR dX1_isFull_14
set_option maxHeartbeats 4000000 in
set_option maxRecDepth 100000 in
theorem w_X1_isFull (l : Launch) (E : Ep) (h : Hp) (a0 : Nat) (res : Int32) (oa0 : OKr a0 1) (hs : sh_X1_isFull h a0 = some res) : MG l E yX1_isFull cX1_isFull 1 (some .boolean) 0 [.ref (ad E a0)] h (some (.int res)) h := by
  refine MG.of (by decide) (Nat.le_of_ble_eq_true rfl) ?_
  intro X C hR
  have C : CX E X RX1 cX1_isFull 1 0 := C
  show GG l E X h 0 [(0, .ref (ad E a0))] []
  refine g_aload_n C 0 dX1_isFull_0 rfl rfl ?_
  refine gf1_1 C oa0 lf_X1_13 dX1_isFull_1 ?_
  refine g_bipush C dX1_isFull_4 cc_b_64 ?_
  refine g_icmp_lt (tgt := 13) C dX1_isFull_6 (by decide) hs (fun hs => ?_) (fun hs => ?_)
  · refine g_iconst C dX1_isFull_13 cc_i_0 ?_
    refine g_sub [] rfl ?_
    exact wb_X1_isFull_14 C h (0 : Int32) hs hR
  · refine g_iconst C dX1_isFull_9 cc_i_1 ?_
    refine g_goto (tgt := 14) C dX1_isFull_10 (by decide) ?_
    refine g_sub [] rfl ?_
    exact wb_X1_isFull_14 C h (1 : Int32) hs hR
set_option maxHeartbeats 4000000 in
set_option maxRecDepth 100000 in
theorem wb_X1_add_29 {l : Launch} {E : Ep} {X : Fx} {res : Int32 × Hp} (C : CX E X RX1 cX1_add 2 0) (h : Hp) (a0 : Nat) (oa0 : OKr a0 1) (hs : b_X1_add_29  h a0 = some res) (hR : RT E X (some .int) (some (.int res.1)) res.2) : GG l E X h 29 [(0, .ref (ad E a0))] [] := by
  refine g_aload_n C 0 dX1_add_29 rfl rfl ?_
  refine gf1_1 C oa0 lf_X1_13 dX1_add_30 ?_
  have e9 := Option.some.inj hs
  subst e9
  exact g_iret C hR dX1_add_33
set_option maxHeartbeats 4000000 in
set_option maxRecDepth 100000 in
theorem w_X1_add (l : Launch) (E : Ep) (h : Hp) (a0 : Nat) (x1 : Int32) (res : Int32 × Hp) (oa0 : OKr a0 1) (hs : sh_X1_add h a0 x1 = some res) : MG l E yX1_add cX1_add 2 (some .int) 0 [.ref (ad E a0), .int x1] h (some (.int res.1)) res.2 := by
  refine MG.of (by decide) (Nat.le_of_ble_eq_true rfl) ?_
  intro X C hR
  have C : CX E X RX1 cX1_add 2 0 := C
  show GG l E X h 0 [(0, .ref (ad E a0)), (1, .int x1)] []
  refine g_aload_n C 0 dX1_add_0 rfl rfl ?_
  refine gf1_1 C oa0 lf_X1_13 dX1_add_1 ?_
  refine g_bipush C dX1_add_4 cc_b_64 ?_
  refine g_icmp_ge (tgt := 29) C dX1_add_6 (by decide) hs (fun hs => ?_) (fun hs => ?_)
  · refine g_sub [0] rfl ?_
    exact wb_X1_add_29 C h a0 oa0 hs hR
  · refine g_aload_n C 0 dX1_add_9 rfl rfl ?_
    refine gf1_0 C oa0 lf_X1_9 dX1_add_10 ?_
    refine g_aload_n C 0 dX1_add_13 rfl rfl ?_
    refine gf1_1 C oa0 lf_X1_13 dX1_add_14 ?_
    refine g_iload_n C 1 dX1_add_17 rfl rfl ?_
    refine g_iast C (tg1_0 oa0) dX1_add_18 hs (fun h1 hs => ?_)
    refine g_aload_n C 0 dX1_add_19 rfl rfl ?_
    refine g_dup C dX1_add_20 rfl ?_
    refine gf1_1 C oa0 lf_X1_13 dX1_add_21 ?_
    refine g_iconst C dX1_add_24 cc_i_1 ?_
    refine g_iadd C dX1_add_25 ?_
    refine pf1_1 C oa0 lf_X1_13 dX1_add_26 ?_
    refine g_sub [0] rfl ?_
    exact wb_X1_add_29 C (wI h1 a0 1 ((h1.1 a0 1) + (1 : Int32))) a0 oa0 hs hR
set_option maxHeartbeats 4000000 in
set_option maxRecDepth 100000 in
theorem wb_X4_feed_28 {l : Launch} {E : Ep} {X : Fx} {res : Int32 × Hp} (C : CX E X RX4 cX4_feed 2 1) (h : Hp) (a0 : Nat) (oa0 : OKr a0 4) (hs : b_X4_feed_28  h a0 = some res) (hR : RT E X (some .int) (some (.int res.1)) res.2) : GG l E X h 28 [(0, .ref (ad E a0))] [] := by
  refine g_aload_n C 0 dX4_feed_28 rfl rfl ?_
  refine g_bipush C dX4_feed_29 cc_b_m6 ?_
  obtain ⟨q1, hcq1, hs⟩ := bnd hs
  refine g_cV (As := [.int (-6 : Int32)]) (rest := []) C (w_X4_refuse l E _ _ _ _ oa0 hcq1) mw_X4_refuse lm_X4_46 oa0 rfl (ce4 E _ (oa0).2) rfl (by decide) rfl (Nat.le_of_ble_eq_true rfl) dX4_feed_31 rfl ?_
  have e9 := Option.some.inj hs
  subst e9
  exact g_iret C hR dX4_feed_34
set_option maxHeartbeats 4000000 in
set_option maxRecDepth 100000 in
theorem w_X4_feed (l : Launch) (E : Ep) (h : Hp) (a0 : Nat) (x1 : Int32) (res : Int32 × Hp) (oa0 : OKr a0 4) (hs : sh_X4_feed h a0 x1 = some res) : MG l E yX4_feed cX4_feed 2 (some .int) 1 [.ref (ad E a0), .int x1] h (some (.int res.1)) res.2 := by
  refine MG.of (by decide) (Nat.le_of_ble_eq_true rfl) ?_
  intro X C hR
  have C : CX E X RX4 cX4_feed 2 1 := C
  show GG l E X h 0 [(0, .ref (ad E a0)), (1, .int x1)] []
  refine g_iload_n C 1 dX4_feed_0 rfl rfl ?_
  refine g_if_ge (tgt := 11) C dX4_feed_1 (by decide) hs (fun hs => ?_) (fun hs => ?_)
  · refine g_iload_n C 1 dX4_feed_11 rfl rfl ?_
    refine g_sipush C dX4_feed_12 cc_s_255 ?_
    refine g_icmp_gt (tgt := 28) C dX4_feed_15 (by decide) hs (fun hs => ?_) (fun hs => ?_)
    · refine g_sub [0] rfl ?_
      exact wb_X4_feed_28 C h a0 oa0 hs hR
    · refine g_aload_n C 0 dX4_feed_18 rfl rfl ?_
      refine gf4_4 C oa0 lf_X4_32 dX4_feed_19 ?_
      obtain ⟨v1, hcv1, hs⟩ := bnd hs
      refine g_cVN (As := []) (rest := []) C (w_X1_isFull l E _ _ _ (tg4_4 oa0) hcv1) mw_X1_isFull lm_X4_50 (tg4_4 oa0) rfl (ce1 E _ ((tg4_4 oa0)).2) rfl (by decide) rfl (Nat.le_of_ble_eq_true rfl) dX4_feed_22 rfl ?_
      refine g_if_eq (tgt := 35) C dX4_feed_25 (by decide) hs (fun hs => ?_) (fun hs => ?_)
      · refine g_aload_n C 0 dX4_feed_35 rfl rfl ?_
        refine gf4_4 C oa0 lf_X4_32 dX4_feed_36 ?_
        refine g_iload_n C 1 dX4_feed_39 rfl rfl ?_
        obtain ⟨q2, hcq2, hs⟩ := bnd hs
        refine g_cVN (As := [.int x1]) (rest := []) C (w_X1_add l E _ _ _ _ (tg4_4 oa0) hcq2) mw_X1_add lm_X4_54 (tg4_4 oa0) rfl (ce1 E _ ((tg4_4 oa0)).2) rfl (by decide) rfl (Nat.le_of_ble_eq_true rfl) dX4_feed_40 rfl ?_
        have e9 := Option.some.inj hs
        subst e9
        exact g_iret C hR dX4_feed_43
      · refine g_sub [0] rfl ?_
        exact wb_X4_feed_28 C h a0 oa0 hs hR
  · refine g_aload_n C 0 dX4_feed_4 rfl rfl ?_
    refine g_bipush C dX4_feed_5 cc_b_m4 ?_
    obtain ⟨q3, hcq3, hs⟩ := bnd hs
    refine g_cV (As := [.int (-4 : Int32)]) (rest := []) C (w_X4_refuse l E _ _ _ _ oa0 hcq3) mw_X4_refuse lm_X4_46 oa0 rfl (ce4 E _ (oa0).2) rfl (by decide) rfl (Nat.le_of_ble_eq_true rfl) dX4_feed_7 rfl ?_
    have e9 := Option.some.inj hs
    subst e9
    exact g_iret C hR dX4_feed_10
set_option maxHeartbeats 4000000 in
set_option maxRecDepth 100000 in
theorem wb_X1_isAt_27 {l : Launch} {E : Ep} {X : Fx} {res : Int32} (C : CX E X RX1 cX1_isAt 3 0) (h : Hp) (s0 : Int32) (hs : b_X1_isAt_27  h s0 = some res) (hR : RT E X (some .boolean) (some (.int res)) h) : GG l E X h 27 [] [.int s0] := by
  obtain ⟨v1, hbv1, hs⟩ := bnd hs
  obtain ⟨hzv1, hyv1⟩ := bol_v hbv1
  have e9 := Option.some.inj hs
  subst e9
  refine g_top hyv1 ?_
  exact g_zret C hzv1 hR dX1_isAt_27
set_option maxHeartbeats 4000000 in
set_option maxRecDepth 100000 in
theorem wb_X1_isAt_26 {l : Launch} {E : Ep} {X : Fx} {res : Int32} (C : CX E X RX1 cX1_isAt 3 0) (h : Hp) (hs : b_X1_isAt_26  h  = some res) (hR : RT E X (some .boolean) (some (.int res)) h) : GG l E X h 26 [] [] := by
  refine g_iconst C dX1_isAt_26 cc_i_0 ?_
  exact wb_X1_isAt_27 C h (0 : Int32) hs hR
set_option maxHeartbeats 4000000 in
set_option maxRecDepth 100000 in
theorem w_X1_isAt (l : Launch) (E : Ep) (h : Hp) (a0 : Nat) (x1 : Int32) (x2 : Int32) (res : Int32) (oa0 : OKr a0 1) (hs : sh_X1_isAt h a0 x1 x2 = some res) : MG l E yX1_isAt cX1_isAt 3 (some .boolean) 0 [.ref (ad E a0), .int x1, .int x2] h (some (.int res)) h := by
  refine MG.of (by decide) (Nat.le_of_ble_eq_true rfl) ?_
  intro X C hR
  have C : CX E X RX1 cX1_isAt 3 0 := C
  show GG l E X h 0 [(0, .ref (ad E a0)), (1, .int x1), (2, .int x2)] []
  refine g_iload_n C 2 dX1_isAt_0 rfl rfl ?_
  refine g_if_lt (tgt := 26) C dX1_isAt_1 (by decide) hs (fun hs => ?_) (fun hs => ?_)
  · refine g_sub [] rfl ?_
    exact wb_X1_isAt_26 C h hs hR
  · refine g_iload_n C 2 dX1_isAt_4 rfl rfl ?_
    refine g_aload_n C 0 dX1_isAt_5 rfl rfl ?_
    refine gf1_1 C oa0 lf_X1_13 dX1_isAt_6 ?_
    refine g_icmp_ge (tgt := 26) C dX1_isAt_9 (by decide) hs (fun hs => ?_) (fun hs => ?_)
    · refine g_sub [] rfl ?_
      exact wb_X1_isAt_26 C h hs hR
    · refine g_aload_n C 0 dX1_isAt_12 rfl rfl ?_
      refine gf1_0 C oa0 lf_X1_9 dX1_isAt_13 ?_
      refine g_iload_n C 2 dX1_isAt_16 rfl rfl ?_
      refine g_iald C (tg1_0 oa0) dX1_isAt_17 hs (fun v1 hs => ?_)
      refine g_iload_n C 1 dX1_isAt_18 rfl rfl ?_
      refine g_icmp_ne (tgt := 26) C dX1_isAt_19 (by decide) hs (fun hs => ?_) (fun hs => ?_)
      · refine g_iconst C dX1_isAt_22 cc_i_1 ?_
        refine g_goto (tgt := 27) C dX1_isAt_23 (by decide) ?_
        refine g_sub [] rfl ?_
        exact wb_X1_isAt_27 C h (1 : Int32) hs hR
      · refine g_sub [] rfl ?_
        exact wb_X1_isAt_26 C h hs hR
set_option maxHeartbeats 4000000 in
set_option maxRecDepth 100000 in
theorem w_X1_passes (l : Launch) (E : Ep) (h : Hp) (a0 : Nat) (x1 : Int32) (res : Int32 × Hp) (oa0 : OKr a0 1) (hs : sh_X1_passes h a0 x1 = some res) : MG l E yX1_passes cX1_passes 2 (some .boolean) 1 [.ref (ad E a0), .int x1] h (some (.int res.1)) res.2 := by
  refine MG.of (by decide) (Nat.le_of_ble_eq_true rfl) ?_
  intro X C hR
  have C : CX E X RX1 cX1_passes 2 1 := C
  show GG l E X h 0 [(0, .ref (ad E a0)), (1, .int x1)] []
  refine g_aload_n C 0 dX1_passes_0 rfl rfl ?_
  refine g_iload_n C 1 dX1_passes_1 rfl rfl ?_
  refine g_aload_n C 0 dX1_passes_2 rfl rfl ?_
  refine gf1_2 C oa0 lf_X1_29 dX1_passes_3 ?_
  obtain ⟨v1, hcv1, hs⟩ := bnd hs
  refine g_cV (As := [.int x1, .int (h.1 a0 2)]) (rest := []) C (w_X1_isAt l E _ _ _ _ _ oa0 hcv1) mw_X1_isAt lm_X1_25 oa0 rfl (ce1 E _ (oa0).2) rfl (by decide) rfl (Nat.le_of_ble_eq_true rfl) dX1_passes_6 rfl ?_
  refine g_if_ne (tgt := 14) C dX1_passes_9 (by decide) hs (fun hs => ?_) (fun hs => ?_)
  · refine g_iconst C dX1_passes_12 cc_i_0 ?_
    have e9 := Option.some.inj hs
    subst e9
    exact g_zret C (Or.inl rfl) hR dX1_passes_13
  · refine g_aload_n C 0 dX1_passes_14 rfl rfl ?_
    refine g_dup C dX1_passes_15 rfl ?_
    refine gf1_2 C oa0 lf_X1_29 dX1_passes_16 ?_
    refine g_iconst C dX1_passes_19 cc_i_1 ?_
    refine g_iadd C dX1_passes_20 ?_
    refine pf1_2 C oa0 lf_X1_29 dX1_passes_21 ?_
    refine g_iconst C dX1_passes_24 cc_i_1 ?_
    have e9 := Option.some.inj hs
    subst e9
    exact g_zret C (Or.inr rfl) hR dX1_passes_25
set_option maxHeartbeats 4000000 in
set_option maxRecDepth 100000 in
theorem wb_X1_isDigitAt_39 {l : Launch} {E : Ep} {X : Fx} {res : Int32} (C : CX E X RX1 cX1_isDigitAt 2 0) (h : Hp) (s0 : Int32) (hs : b_X1_isDigitAt_39  h s0 = some res) (hR : RT E X (some .boolean) (some (.int res)) h) : GG l E X h 39 [] [.int s0] := by
  obtain ⟨v1, hbv1, hs⟩ := bnd hs
  obtain ⟨hzv1, hyv1⟩ := bol_v hbv1
  have e9 := Option.some.inj hs
  subst e9
  refine g_top hyv1 ?_
  exact g_zret C hzv1 hR dX1_isDigitAt_39
set_option maxHeartbeats 4000000 in
set_option maxRecDepth 100000 in
theorem wb_X1_isDigitAt_38 {l : Launch} {E : Ep} {X : Fx} {res : Int32} (C : CX E X RX1 cX1_isDigitAt 2 0) (h : Hp) (hs : b_X1_isDigitAt_38  h  = some res) (hR : RT E X (some .boolean) (some (.int res)) h) : GG l E X h 38 [] [] := by
  refine g_iconst C dX1_isDigitAt_38 cc_i_0 ?_
  exact wb_X1_isDigitAt_39 C h (0 : Int32) hs hR
set_option maxHeartbeats 4000000 in
set_option maxRecDepth 100000 in
theorem w_X1_isDigitAt (l : Launch) (E : Ep) (h : Hp) (a0 : Nat) (x1 : Int32) (res : Int32) (oa0 : OKr a0 1) (hs : sh_X1_isDigitAt h a0 x1 = some res) : MG l E yX1_isDigitAt cX1_isDigitAt 2 (some .boolean) 0 [.ref (ad E a0), .int x1] h (some (.int res)) h := by
  refine MG.of (by decide) (Nat.le_of_ble_eq_true rfl) ?_
  intro X C hR
  have C : CX E X RX1 cX1_isDigitAt 2 0 := C
  show GG l E X h 0 [(0, .ref (ad E a0)), (1, .int x1)] []
  refine g_iload_n C 1 dX1_isDigitAt_0 rfl rfl ?_
  refine g_if_lt (tgt := 38) C dX1_isDigitAt_1 (by decide) hs (fun hs => ?_) (fun hs => ?_)
  · refine g_sub [] rfl ?_
    exact wb_X1_isDigitAt_38 C h hs hR
  · refine g_iload_n C 1 dX1_isDigitAt_4 rfl rfl ?_
    refine g_aload_n C 0 dX1_isDigitAt_5 rfl rfl ?_
    refine gf1_1 C oa0 lf_X1_13 dX1_isDigitAt_6 ?_
    refine g_icmp_ge (tgt := 38) C dX1_isDigitAt_9 (by decide) hs (fun hs => ?_) (fun hs => ?_)
    · refine g_sub [] rfl ?_
      exact wb_X1_isDigitAt_38 C h hs hR
    · refine g_aload_n C 0 dX1_isDigitAt_12 rfl rfl ?_
      refine gf1_0 C oa0 lf_X1_9 dX1_isDigitAt_13 ?_
      refine g_iload_n C 1 dX1_isDigitAt_16 rfl rfl ?_
      refine g_iald C (tg1_0 oa0) dX1_isDigitAt_17 hs (fun v1 hs => ?_)
      refine g_bipush C dX1_isDigitAt_18 cc_b_48 ?_
      refine g_icmp_lt (tgt := 38) C dX1_isDigitAt_20 (by decide) hs (fun hs => ?_) (fun hs => ?_)
      · refine g_sub [] rfl ?_
        exact wb_X1_isDigitAt_38 C h hs hR
      · refine g_aload_n C 0 dX1_isDigitAt_23 rfl rfl ?_
        refine gf1_0 C oa0 lf_X1_9 dX1_isDigitAt_24 ?_
        refine g_iload_n C 1 dX1_isDigitAt_27 rfl rfl ?_
        refine g_iald C (tg1_0 oa0) dX1_isDigitAt_28 hs (fun v2 hs => ?_)
        refine g_bipush C dX1_isDigitAt_29 cc_b_57 ?_
        refine g_icmp_gt (tgt := 38) C dX1_isDigitAt_31 (by decide) hs (fun hs => ?_) (fun hs => ?_)
        · refine g_sub [] rfl ?_
          exact wb_X1_isDigitAt_38 C h hs hR
        · refine g_iconst C dX1_isDigitAt_34 cc_i_1 ?_
          refine g_goto (tgt := 39) C dX1_isDigitAt_35 (by decide) ?_
          refine g_sub [] rfl ?_
          exact wb_X1_isDigitAt_39 C h (1 : Int32) hs hR
set_option maxHeartbeats 4000000 in
set_option maxRecDepth 100000 in
theorem wb_X1_passesDigits_44 {l : Launch} {E : Ep} {X : Fx} {res : Int32 × Hp} (C : CX E X RX1 cX1_passesDigits 4 1) (h : Hp) (s0 : Int32) (hs : b_X1_passesDigits_44  h s0 = some res) (hR : RT E X (some .boolean) (some (.int res.1)) res.2) : GG l E X h 44 [] [.int s0] := by
  obtain ⟨v1, hbv1, hs⟩ := bnd hs
  obtain ⟨hzv1, hyv1⟩ := bol_v hbv1
  have e9 := Option.some.inj hs
  subst e9
  refine g_top hyv1 ?_
  exact g_zret C hzv1 hR dX1_passesDigits_44
set_option maxHeartbeats 4000000 in
set_option maxRecDepth 100000 in
theorem wb_X1_passesDigits_34 {l : Launch} {E : Ep} {X : Fx} {res : Int32 × Hp} (C : CX E X RX1 cX1_passesDigits 4 1) (h : Hp) (x1 : Int32) (x3 : Int32) (hs : b_X1_passesDigits_34  h x1 x3 = some res) (hR : RT E X (some .boolean) (some (.int res.1)) res.2) : GG l E X h 34 [(1, .int x1), (3, .int x3)] [] := by
  refine g_iload_n C 1 dX1_passesDigits_34 rfl rfl ?_
  refine g_iload_n C 0 dX1_passesDigits_35 rfl rfl ?_
  refine g_icmp_lt (tgt := 43) C dX1_passesDigits_36 (by decide) hs (fun hs => ?_) (fun hs => ?_)
  · refine g_iconst C dX1_passesDigits_43 cc_i_0 ?_
    refine g_sub [] rfl ?_
    exact wb_X1_passesDigits_44 C h (0 : Int32) hs hR
  · refine g_iconst C dX1_passesDigits_39 cc_i_1 ?_
    refine g_goto (tgt := 44) C dX1_passesDigits_40 (by decide) ?_
    refine g_sub [] rfl ?_
    exact wb_X1_passesDigits_44 C h (1 : Int32) hs hR
set_option maxHeartbeats 4000000 in
set_option maxRecDepth 100000 in
theorem wb_X1_passesDigits_2 {l : Launch} {E : Ep} {X : Fx} {res : Int32 × Hp} (C : CX E X RX1 cX1_passesDigits 4 1) : ∀ (n : Nat) (h : Hp) (a0 : Nat) (x1 : Int32) (x2 : Int32) (x3 : Int32) (oa0 : OKr a0 1), b_X1_passesDigits_2  n h a0 x1 x2 x3 = some res → RT E X (some .boolean) (some (.int res.1)) res.2 → GG l E X h 2 [(0, .ref (ad E a0)), (1, .int x1), (2, .int x2), (3, .int x3)] [] := by
  intro n
  induction n with
  | zero =>
    intro h a0 x1 x2 x3 oa0
    intro hs
    exact absurd hs (by intro e; cases e)
  | succ n ih =>
    intro h a0 x1 x2 x3 oa0 hs hR
    have hk2 := ih
    have hs : f_X1_passesDigits_2  (b_X1_passesDigits_2  n) h a0 x1 x2 x3 = some res := hs
    generalize b_X1_passesDigits_2  n = k2 at hs hk2
    refine g_iload_n C 3 dX1_passesDigits_2 rfl rfl ?_
    refine g_iload_n C 2 dX1_passesDigits_3 rfl rfl ?_
    refine g_icmp_ge (tgt := 34) C dX1_passesDigits_4 (by decide) hs (fun hs => ?_) (fun hs => ?_)
    · refine g_sub [1, 3] rfl ?_
      exact wb_X1_passesDigits_34 C h x1 x3 hs hR
    · refine g_aload_n C 0 dX1_passesDigits_7 rfl rfl ?_
      refine g_aload_n C 0 dX1_passesDigits_8 rfl rfl ?_
      refine gf1_2 C oa0 lf_X1_29 dX1_passesDigits_9 ?_
      obtain ⟨v1, hcv1, hs⟩ := bnd hs
      refine g_cV (As := [.int (h.1 a0 2)]) (rest := []) C (w_X1_isDigitAt l E _ _ _ _ oa0 hcv1) mw_X1_isDigitAt lm_X1_17 oa0 rfl (ce1 E _ (oa0).2) rfl (by decide) rfl (Nat.le_of_ble_eq_true rfl) dX1_passesDigits_12 rfl ?_
      refine g_if_eq (tgt := 34) C dX1_passesDigits_15 (by decide) hs (fun hs => ?_) (fun hs => ?_)
      · refine g_sub [1, 3] rfl ?_
        exact wb_X1_passesDigits_34 C h x1 x3 hs hR
      · refine g_aload_n C 0 dX1_passesDigits_18 rfl rfl ?_
        refine g_dup C dX1_passesDigits_19 rfl ?_
        refine gf1_2 C oa0 lf_X1_29 dX1_passesDigits_20 ?_
        refine g_iconst C dX1_passesDigits_23 cc_i_1 ?_
        refine g_iadd C dX1_passesDigits_24 ?_
        refine pf1_2 C oa0 lf_X1_29 dX1_passesDigits_25 ?_
        refine g_iinc (lv' := [(3, .int (x3 + (1 : Int32))), (0, .ref (ad E a0)), (1, .int x1), (2, .int x2)]) (j := 3) C dX1_passesDigits_28 rfl (cc_n_1 _) (by decide) rfl ?_
        refine g_goto (tgt := 2) C dX1_passesDigits_31 (by decide) ?_
        refine g_sub [1, 2, 3, 0] rfl ?_
        exact hk2 (wI h a0 2 ((h.1 a0 2) + (1 : Int32))) a0 x1 x2 (x3 + (1 : Int32)) oa0 hs hR
set_option maxHeartbeats 4000000 in
set_option maxRecDepth 100000 in
theorem w_X1_passesDigits (l : Launch) (E : Ep) (h : Hp) (a0 : Nat) (x1 : Int32) (x2 : Int32) (res : Int32 × Hp) (oa0 : OKr a0 1) (hs : sh_X1_passesDigits h a0 x1 x2 = some res) : MG l E yX1_passesDigits cX1_passesDigits 4 (some .boolean) 1 [.ref (ad E a0), .int x1, .int x2] h (some (.int res.1)) res.2 := by
  refine MG.of (by decide) (Nat.le_of_ble_eq_true rfl) ?_
  intro X C hR
  have C : CX E X RX1 cX1_passesDigits 4 1 := C
  show GG l E X h 0 [(0, .ref (ad E a0)), (1, .int x1), (2, .int x2)] []
  refine g_iconst C dX1_passesDigits_0 cc_i_0 ?_
  refine g_istore_n (lv' := [(3, .int (0 : Int32)), (0, .ref (ad E a0)), (1, .int x1), (2, .int x2)]) C dX1_passesDigits_1 rfl (by decide) rfl ?_
  refine g_sub [1, 2, 3, 0] rfl ?_
  exact wb_X1_passesDigits_2 C 1000 h a0 x1 x2 (0 : Int32) oa0 hs hR
set_option maxHeartbeats 4000000 in
set_option maxRecDepth 100000 in
theorem wb_X1_passesStatement_32 {l : Launch} {E : Ep} {X : Fx} {res : Int32 × Hp} (C : CX E X RX1 cX1_passesStatement 1 2) (h : Hp) (s0 : Int32) (hs : b_X1_passesStatement_32  h s0 = some res) (hR : RT E X (some .boolean) (some (.int res.1)) res.2) : GG l E X h 32 [] [.int s0] := by
  obtain ⟨v1, hbv1, hs⟩ := bnd hs
  obtain ⟨hzv1, hyv1⟩ := bol_v hbv1
  have e9 := Option.some.inj hs
  subst e9
  refine g_top hyv1 ?_
  exact g_zret C hzv1 hR dX1_passesStatement_32
set_option maxHeartbeats 4000000 in
set_option maxRecDepth 100000 in
theorem wb_X1_passesStatement_31 {l : Launch} {E : Ep} {X : Fx} {res : Int32 × Hp} (C : CX E X RX1 cX1_passesStatement 1 2) (h : Hp) (hs : b_X1_passesStatement_31  h  = some res) (hR : RT E X (some .boolean) (some (.int res.1)) res.2) : GG l E X h 31 [] [] := by
  refine g_iconst C dX1_passesStatement_31 cc_i_0 ?_
  exact wb_X1_passesStatement_32 C h (0 : Int32) hs hR
set_option maxHeartbeats 4000000 in
set_option maxRecDepth 100000 in
theorem wb_X1_passesStatement_84 {l : Launch} {E : Ep} {X : Fx} {res : Int32 × Hp} (C : CX E X RX1 cX1_passesStatement 1 2) (h : Hp) (s0 : Int32) (hs : b_X1_passesStatement_84  h s0 = some res) (hR : RT E X (some .boolean) (some (.int res.1)) res.2) : GG l E X h 84 [] [.int s0] := by
  obtain ⟨v1, hbv1, hs⟩ := bnd hs
  obtain ⟨hzv1, hyv1⟩ := bol_v hbv1
  have e9 := Option.some.inj hs
  subst e9
  refine g_top hyv1 ?_
  exact g_zret C hzv1 hR dX1_passesStatement_84
set_option maxHeartbeats 4000000 in
set_option maxRecDepth 100000 in
theorem wb_X1_passesStatement_83 {l : Launch} {E : Ep} {X : Fx} {res : Int32 × Hp} (C : CX E X RX1 cX1_passesStatement 1 2) (h : Hp) (hs : b_X1_passesStatement_83  h  = some res) (hR : RT E X (some .boolean) (some (.int res.1)) res.2) : GG l E X h 83 [] [] := by
  refine g_iconst C dX1_passesStatement_83 cc_i_0 ?_
  exact wb_X1_passesStatement_84 C h (0 : Int32) hs hR
set_option maxHeartbeats 4000000 in
set_option maxRecDepth 100000 in
theorem w_X1_passesStatement (l : Launch) (E : Ep) (h : Hp) (a0 : Nat) (res : Int32 × Hp) (oa0 : OKr a0 1) (hs : sh_X1_passesStatement h a0 = some res) : MG l E yX1_passesStatement cX1_passesStatement 1 (some .boolean) 2 [.ref (ad E a0)] h (some (.int res.1)) res.2 := by
  refine MG.of (by decide) (Nat.le_of_ble_eq_true rfl) ?_
  intro X C hR
  have C : CX E X RX1 cX1_passesStatement 1 2 := C
  show GG l E X h 0 [(0, .ref (ad E a0))] []
  refine g_aload_n C 0 dX1_passesStatement_0 rfl rfl ?_
  refine g_bipush C dX1_passesStatement_1 cc_b_108 ?_
  obtain ⟨q1, hcq1, hs⟩ := bnd hs
  refine g_cV (As := [.int (108 : Int32)]) (rest := []) C (w_X1_passes l E _ _ _ _ oa0 hcq1) mw_X1_passes lm_X1_36 oa0 rfl (ce1 E _ (oa0).2) rfl (by decide) rfl (Nat.le_of_ble_eq_true rfl) dX1_passesStatement_3 rfl ?_
  refine g_if_eq (tgt := 33) C dX1_passesStatement_6 (by decide) hs (fun hs => ?_) (fun hs => ?_)
  · refine g_aload_n C 0 dX1_passesStatement_33 rfl rfl ?_
    refine g_bipush C dX1_passesStatement_34 cc_b_112 ?_
    obtain ⟨q2, hcq2, hs⟩ := bnd hs
    refine g_cV (As := [.int (112 : Int32)]) (rest := []) C (w_X1_passes l E _ _ _ _ oa0 hcq2) mw_X1_passes lm_X1_36 oa0 rfl (ce1 E _ (oa0).2) rfl (by decide) rfl (Nat.le_of_ble_eq_true rfl) dX1_passesStatement_36 rfl ?_
    refine g_if_eq (tgt := 83) C dX1_passesStatement_39 (by decide) hs (fun hs => ?_) (fun hs => ?_)
    · refine g_sub [] rfl ?_
      exact wb_X1_passesStatement_83 C q2.2 hs hR
    · refine g_aload_n C 0 dX1_passesStatement_42 rfl rfl ?_
      refine g_iconst C dX1_passesStatement_43 cc_i_4 ?_
      refine g_bipush C dX1_passesStatement_44 cc_b_7 ?_
      obtain ⟨q3, hcq3, hs⟩ := bnd hs
      refine g_cV (As := [.int (4 : Int32), .int (7 : Int32)]) (rest := []) C (w_X1_passesDigits l E _ _ _ _ _ oa0 hcq3) mw_X1_passesDigits lm_X1_39 oa0 rfl (ce1 E _ (oa0).2) rfl (by decide) rfl (Nat.le_of_ble_eq_true rfl) dX1_passesStatement_46 rfl ?_
      refine g_if_eq (tgt := 83) C dX1_passesStatement_49 (by decide) hs (fun hs => ?_) (fun hs => ?_)
      · refine g_sub [] rfl ?_
        exact wb_X1_passesStatement_83 C q3.2 hs hR
      · refine g_aload_n C 0 dX1_passesStatement_52 rfl rfl ?_
        refine g_bipush C dX1_passesStatement_53 cc_b_44 ?_
        obtain ⟨q4, hcq4, hs⟩ := bnd hs
        refine g_cV (As := [.int (44 : Int32)]) (rest := []) C (w_X1_passes l E _ _ _ _ oa0 hcq4) mw_X1_passes lm_X1_36 oa0 rfl (ce1 E _ (oa0).2) rfl (by decide) rfl (Nat.le_of_ble_eq_true rfl) dX1_passesStatement_55 rfl ?_
        refine g_if_eq (tgt := 83) C dX1_passesStatement_58 (by decide) hs (fun hs => ?_) (fun hs => ?_)
        · refine g_sub [] rfl ?_
          exact wb_X1_passesStatement_83 C q4.2 hs hR
        · refine g_aload_n C 0 dX1_passesStatement_61 rfl rfl ?_
          refine g_iconst C dX1_passesStatement_62 cc_i_1 ?_
          refine g_iconst C dX1_passesStatement_63 cc_i_2 ?_
          obtain ⟨q5, hcq5, hs⟩ := bnd hs
          refine g_cV (As := [.int (1 : Int32), .int (2 : Int32)]) (rest := []) C (w_X1_passesDigits l E _ _ _ _ _ oa0 hcq5) mw_X1_passesDigits lm_X1_39 oa0 rfl (ce1 E _ (oa0).2) rfl (by decide) rfl (Nat.le_of_ble_eq_true rfl) dX1_passesStatement_64 rfl ?_
          refine g_if_eq (tgt := 83) C dX1_passesStatement_67 (by decide) hs (fun hs => ?_) (fun hs => ?_)
          · refine g_sub [] rfl ?_
            exact wb_X1_passesStatement_83 C q5.2 hs hR
          · refine g_aload_n C 0 dX1_passesStatement_70 rfl rfl ?_
            refine g_bipush C dX1_passesStatement_71 cc_b_59 ?_
            obtain ⟨q6, hcq6, hs⟩ := bnd hs
            refine g_cV (As := [.int (59 : Int32)]) (rest := []) C (w_X1_passes l E _ _ _ _ oa0 hcq6) mw_X1_passes lm_X1_36 oa0 rfl (ce1 E _ (oa0).2) rfl (by decide) rfl (Nat.le_of_ble_eq_true rfl) dX1_passesStatement_73 rfl ?_
            refine g_if_eq (tgt := 83) C dX1_passesStatement_76 (by decide) hs (fun hs => ?_) (fun hs => ?_)
            · refine g_sub [] rfl ?_
              exact wb_X1_passesStatement_83 C q6.2 hs hR
            · refine g_iconst C dX1_passesStatement_79 cc_i_1 ?_
              refine g_goto (tgt := 84) C dX1_passesStatement_80 (by decide) ?_
              refine g_sub [] rfl ?_
              exact wb_X1_passesStatement_84 C q6.2 (1 : Int32) hs hR
  · refine g_aload_n C 0 dX1_passesStatement_9 rfl rfl ?_
    refine g_iconst C dX1_passesStatement_10 cc_i_3 ?_
    refine g_iconst C dX1_passesStatement_11 cc_i_3 ?_
    obtain ⟨q7, hcq7, hs⟩ := bnd hs
    refine g_cV (As := [.int (3 : Int32), .int (3 : Int32)]) (rest := []) C (w_X1_passesDigits l E _ _ _ _ _ oa0 hcq7) mw_X1_passesDigits lm_X1_39 oa0 rfl (ce1 E _ (oa0).2) rfl (by decide) rfl (Nat.le_of_ble_eq_true rfl) dX1_passesStatement_12 rfl ?_
    refine g_if_eq (tgt := 31) C dX1_passesStatement_15 (by decide) hs (fun hs => ?_) (fun hs => ?_)
    · refine g_sub [] rfl ?_
      exact wb_X1_passesStatement_31 C q7.2 hs hR
    · refine g_aload_n C 0 dX1_passesStatement_18 rfl rfl ?_
      refine g_bipush C dX1_passesStatement_19 cc_b_59 ?_
      obtain ⟨q8, hcq8, hs⟩ := bnd hs
      refine g_cV (As := [.int (59 : Int32)]) (rest := []) C (w_X1_passes l E _ _ _ _ oa0 hcq8) mw_X1_passes lm_X1_36 oa0 rfl (ce1 E _ (oa0).2) rfl (by decide) rfl (Nat.le_of_ble_eq_true rfl) dX1_passesStatement_21 rfl ?_
      refine g_if_eq (tgt := 31) C dX1_passesStatement_24 (by decide) hs (fun hs => ?_) (fun hs => ?_)
      · refine g_sub [] rfl ?_
        exact wb_X1_passesStatement_31 C q8.2 hs hR
      · refine g_iconst C dX1_passesStatement_27 cc_i_1 ?_
        refine g_goto (tgt := 32) C dX1_passesStatement_28 (by decide) ?_
        refine g_sub [] rfl ?_
        exact wb_X1_passesStatement_32 C q8.2 (1 : Int32) hs hR
set_option maxHeartbeats 4000000 in
set_option maxRecDepth 100000 in
theorem wb_X1_firstUnfit_64 {l : Launch} {E : Ep} {X : Fx} {res : Int32 × Hp} (C : CX E X RX1 cX1_firstUnfit 3 3) (h : Hp) (s0 : Int32) (hs : b_X1_firstUnfit_64  h s0 = some res) (hR : RT E X (some .int) (some (.int res.1)) res.2) : GG l E X h 64 [] [.int s0] := by
  have e9 := Option.some.inj hs
  subst e9
  exact g_iret C hR dX1_firstUnfit_64
set_option maxHeartbeats 4000000 in
set_option maxRecDepth 100000 in
theorem wb_X1_firstUnfit_52 {l : Launch} {E : Ep} {X : Fx} {res : Int32 × Hp} (C : CX E X RX1 cX1_firstUnfit 3 3) (h : Hp) (a0 : Nat) (x1 : Int32) (oa0 : OKr a0 1) (hs : b_X1_firstUnfit_52  h a0 x1 = some res) (hR : RT E X (some .int) (some (.int res.1)) res.2) : GG l E X h 52 [(0, .ref (ad E a0)), (1, .int x1)] [] := by
  refine g_iload_n C 1 dX1_firstUnfit_52 rfl rfl ?_
  refine g_if_eq (tgt := 60) C dX1_firstUnfit_53 (by decide) hs (fun hs => ?_) (fun hs => ?_)
  · refine g_aload_n C 0 dX1_firstUnfit_60 rfl rfl ?_
    refine gf1_2 C oa0 lf_X1_29 dX1_firstUnfit_61 ?_
    refine g_sub [] rfl ?_
    exact wb_X1_firstUnfit_64 C h (h.1 a0 2) hs hR
  · refine g_iconst C dX1_firstUnfit_56 cc_i_m1 ?_
    refine g_goto (tgt := 64) C dX1_firstUnfit_57 (by decide) ?_
    refine g_sub [] rfl ?_
    exact wb_X1_firstUnfit_64 C h (-1 : Int32) hs hR
set_option maxHeartbeats 4000000 in
set_option maxRecDepth 100000 in
theorem wb_X1_firstUnfit_20 {l : Launch} {E : Ep} {X : Fx} {res : Int32 × Hp} (C : CX E X RX1 cX1_firstUnfit 3 3) : ∀ (n : Nat) (h : Hp) (a0 : Nat) (x1 : Int32) (x2 : Int32) (oa0 : OKr a0 1), b_X1_firstUnfit_20  n h a0 x1 x2 = some res → RT E X (some .int) (some (.int res.1)) res.2 → GG l E X h 20 [(0, .ref (ad E a0)), (1, .int x1), (2, .int x2)] [] := by
  intro n
  induction n with
  | zero =>
    intro h a0 x1 x2 oa0
    intro hs
    exact absurd hs (by intro e; cases e)
  | succ n ih =>
    intro h a0 x1 x2 oa0 hs hR
    have hk20 := ih
    have hs : f_X1_firstUnfit_20  (b_X1_firstUnfit_20  n) h a0 x1 x2 = some res := hs
    generalize b_X1_firstUnfit_20  n = k20 at hs hk20
    refine g_iload_n C 2 dX1_firstUnfit_20 rfl rfl ?_
    refine g_bipush C dX1_firstUnfit_21 cc_b_64 ?_
    refine g_icmp_ge (tgt := 52) C dX1_firstUnfit_23 (by decide) hs (fun hs => ?_) (fun hs => ?_)
    · refine g_sub [0, 1] rfl ?_
      exact wb_X1_firstUnfit_52 C h a0 x1 oa0 hs hR
    · refine g_iload_n C 1 dX1_firstUnfit_26 rfl rfl ?_
      refine g_if_eq (tgt := 52) C dX1_firstUnfit_27 (by decide) hs (fun hs => ?_) (fun hs => ?_)
      · refine g_sub [0, 1] rfl ?_
        exact wb_X1_firstUnfit_52 C h a0 x1 oa0 hs hR
      · refine g_aload_n C 0 dX1_firstUnfit_30 rfl rfl ?_
        refine gf1_2 C oa0 lf_X1_29 dX1_firstUnfit_31 ?_
        refine g_aload_n C 0 dX1_firstUnfit_34 rfl rfl ?_
        refine gf1_1 C oa0 lf_X1_13 dX1_firstUnfit_35 ?_
        refine g_icmp_ge (tgt := 52) C dX1_firstUnfit_38 (by decide) hs (fun hs => ?_) (fun hs => ?_)
        · refine g_sub [0, 1] rfl ?_
          exact wb_X1_firstUnfit_52 C h a0 x1 oa0 hs hR
        · refine g_aload_n C 0 dX1_firstUnfit_41 rfl rfl ?_
          obtain ⟨q1, hcq1, hs⟩ := bnd hs
          refine g_cV (As := []) (rest := []) C (w_X1_passesStatement l E _ _ _ oa0 hcq1) mw_X1_passesStatement lm_X1_32 oa0 rfl (ce1 E _ (oa0).2) rfl (by decide) rfl (Nat.le_of_ble_eq_true rfl) dX1_firstUnfit_42 rfl ?_
          refine g_istore_n (lv' := [(1, .int q1.1), (0, .ref (ad E a0)), (2, .int x2)]) C dX1_firstUnfit_45 rfl (by decide) rfl ?_
          refine g_iinc (lv' := [(2, .int (x2 + (1 : Int32))), (1, .int q1.1), (0, .ref (ad E a0))]) (j := 2) C dX1_firstUnfit_46 rfl (cc_n_1 _) (by decide) rfl ?_
          refine g_goto (tgt := 20) C dX1_firstUnfit_49 (by decide) ?_
          refine g_sub [2, 1, 0] rfl ?_
          exact hk20 q1.2 a0 q1.1 (x2 + (1 : Int32)) oa0 hs hR
set_option maxHeartbeats 4000000 in
set_option maxRecDepth 100000 in
theorem wb_X1_firstUnfit_17 {l : Launch} {E : Ep} {X : Fx} {res : Int32 × Hp} (C : CX E X RX1 cX1_firstUnfit 3 3) (h : Hp) (a0 : Nat) (s0 : Int32) (oa0 : OKr a0 1) (hs : b_X1_firstUnfit_17  h a0 s0 = some res) (hR : RT E X (some .int) (some (.int res.1)) res.2) : GG l E X h 17 [(0, .ref (ad E a0))] [.int s0] := by
  refine g_istore_n (lv' := [(1, .int s0), (0, .ref (ad E a0))]) C dX1_firstUnfit_17 rfl (by decide) rfl ?_
  refine g_iconst C dX1_firstUnfit_18 cc_i_0 ?_
  refine g_istore_n (lv' := [(2, .int (0 : Int32)), (1, .int s0), (0, .ref (ad E a0))]) C dX1_firstUnfit_19 rfl (by decide) rfl ?_
  refine g_sub [2, 1, 0] rfl ?_
  exact wb_X1_firstUnfit_20 C 1000 h a0 s0 (0 : Int32) oa0 hs hR
set_option maxHeartbeats 4000000 in
set_option maxRecDepth 100000 in
theorem w_X1_firstUnfit (l : Launch) (E : Ep) (h : Hp) (a0 : Nat) (res : Int32 × Hp) (oa0 : OKr a0 1) (hs : sh_X1_firstUnfit h a0 = some res) : MG l E yX1_firstUnfit cX1_firstUnfit 3 (some .int) 3 [.ref (ad E a0)] h (some (.int res.1)) res.2 := by
  refine MG.of (by decide) (Nat.le_of_ble_eq_true rfl) ?_
  intro X C hR
  have C : CX E X RX1 cX1_firstUnfit 3 3 := C
  show GG l E X h 0 [(0, .ref (ad E a0))] []
  refine g_aload_n C 0 dX1_firstUnfit_0 rfl rfl ?_
  refine g_iconst C dX1_firstUnfit_1 cc_i_0 ?_
  refine pf1_2 C oa0 lf_X1_29 dX1_firstUnfit_2 ?_
  refine g_aload_n C 0 dX1_firstUnfit_5 rfl rfl ?_
  refine gf1_1 C oa0 lf_X1_13 dX1_firstUnfit_6 ?_
  refine g_if_le (tgt := 16) C dX1_firstUnfit_9 (by decide) hs (fun hs => ?_) (fun hs => ?_)
  · refine g_iconst C dX1_firstUnfit_16 cc_i_0 ?_
    exact wb_X1_firstUnfit_17 C (wI h a0 2 (0 : Int32)) a0 (0 : Int32) oa0 hs hR
  · refine g_iconst C dX1_firstUnfit_12 cc_i_1 ?_
    refine g_goto (tgt := 17) C dX1_firstUnfit_13 (by decide) ?_
    exact wb_X1_firstUnfit_17 C (wI h a0 2 (0 : Int32)) a0 (1 : Int32) oa0 hs hR
set_option maxHeartbeats 4000000 in
set_option maxRecDepth 100000 in
theorem w_X0_become (l : Launch) (E : Ep) (h : Hp) (a0 : Nat) (a1 : Nat) (res : Hp) (oa0 : OKr a0 0) (oa1 : OKr a1 0) (hs : sh_X0_become h a0 a1 = some res) : MG l E yX0_become cX0_become 2 none 1 [.ref (ad E a0), .ref (ad E a1)] h none res := by
  refine MG.of (by decide) (Nat.le_of_ble_eq_true rfl) ?_
  intro X C hR
  have C : CX E X RX0 cX0_become 2 1 := C
  show GG l E X h 0 [(0, .ref (ad E a0)), (1, .ref (ad E a1))] []
  refine g_aload_n C 1 dX0_become_0 rfl rfl ?_
  refine gf0_0 C oa1 lf_X0_11 dX0_become_1 ?_
  refine g_iconst C dX0_become_4 cc_i_0 ?_
  refine g_aload_n C 0 dX0_become_5 rfl rfl ?_
  refine gf0_0 C oa0 lf_X0_11 dX0_become_6 ?_
  refine g_iconst C dX0_become_9 cc_i_0 ?_
  refine g_aload_n C 0 dX0_become_10 rfl rfl ?_
  refine gf0_0 C oa0 lf_X0_11 dX0_become_11 ?_
  refine g_alen C (tg0_0 oa0) dX0_become_14 ?_
  refine g_acI C (by decide) (tg0_0 oa1) (tg0_0 oa0) dX0_become_15 lm_X0_22 kw_ac_1 kw_ac_2 kw_ac_3 (Nat.le_of_ble_eq_true rfl) hs (fun h1 hs => ?_)
  refine g_aload_n C 1 dX0_become_18 rfl rfl ?_
  refine gf0_1 C oa1 lf_X0_15 dX0_become_19 ?_
  refine g_iconst C dX0_become_22 cc_i_0 ?_
  refine g_aload_n C 0 dX0_become_23 rfl rfl ?_
  refine gf0_1 C oa0 lf_X0_15 dX0_become_24 ?_
  refine g_iconst C dX0_become_27 cc_i_0 ?_
  refine g_aload_n C 0 dX0_become_28 rfl rfl ?_
  refine gf0_1 C oa0 lf_X0_15 dX0_become_29 ?_
  refine g_alen C (tg0_1 oa0) dX0_become_32 ?_
  refine g_acI C (by decide) (tg0_1 oa1) (tg0_1 oa0) dX0_become_33 lm_X0_22 kw_ac_1 kw_ac_2 kw_ac_3 (Nat.le_of_ble_eq_true rfl) hs (fun h2 hs => ?_)
  refine g_aload_n C 1 dX0_become_36 rfl rfl ?_
  refine gf0_2 C oa1 lf_X0_18 dX0_become_37 ?_
  refine g_iconst C dX0_become_40 cc_i_0 ?_
  refine g_aload_n C 0 dX0_become_41 rfl rfl ?_
  refine gf0_2 C oa0 lf_X0_18 dX0_become_42 ?_
  refine g_iconst C dX0_become_45 cc_i_0 ?_
  refine g_aload_n C 0 dX0_become_46 rfl rfl ?_
  refine gf0_2 C oa0 lf_X0_18 dX0_become_47 ?_
  refine g_alenJ C (tg0_2 oa0) dX0_become_50 ?_
  refine g_acJ C (by decide) (tg0_2 oa1) (tg0_2 oa0) dX0_become_51 lm_X0_22 kw_ac_1 kw_ac_2 kw_ac_3 (Nat.le_of_ble_eq_true rfl) hs (fun h3 hs => ?_)
  have e9 := Option.some.inj hs
  subst e9
  exact g_vret C hR dX0_become_54
set_option maxHeartbeats 4000000 in
set_option maxRecDepth 100000 in
theorem w_X3_become (l : Launch) (E : Ep) (h : Hp) (a0 : Nat) (a1 : Nat) (res : Hp) (oa0 : OKr a0 3) (oa1 : OKr a1 3) (hs : sh_X3_become h a0 a1 = some res) : MG l E yX3_become cX3_become 2 none 2 [.ref (ad E a0), .ref (ad E a1)] h none res := by
  refine MG.of (by decide) (Nat.le_of_ble_eq_true rfl) ?_
  intro X C hR
  have C : CX E X RX3 cX3_become 2 2 := C
  show GG l E X h 0 [(0, .ref (ad E a0)), (1, .ref (ad E a1))] []
  refine g_aload_n C 1 dX3_become_0 rfl rfl ?_
  refine gf3_0 C oa1 lf_X3_9 dX3_become_1 ?_
  refine g_iconst C dX3_become_4 cc_i_0 ?_
  refine g_aload_n C 0 dX3_become_5 rfl rfl ?_
  refine gf3_0 C oa0 lf_X3_9 dX3_become_6 ?_
  refine g_iconst C dX3_become_9 cc_i_0 ?_
  refine g_bipush C dX3_become_10 cc_b_6 ?_
  refine g_acI C (by decide) (tg3_0 oa1) (tg3_0 oa0) dX3_become_12 lm_X3_37 kw_ac_1 kw_ac_2 kw_ac_3 (Nat.le_of_ble_eq_true rfl) hs (fun h1 hs => ?_)
  refine g_aload_n C 1 dX3_become_15 rfl rfl ?_
  refine gf3_1 C oa1 lf_X3_15 dX3_become_16 ?_
  refine g_iconst C dX3_become_19 cc_i_0 ?_
  refine g_aload_n C 0 dX3_become_20 rfl rfl ?_
  refine gf3_1 C oa0 lf_X3_15 dX3_become_21 ?_
  refine g_iconst C dX3_become_24 cc_i_0 ?_
  refine g_bipush C dX3_become_25 cc_b_6 ?_
  refine g_acI C (by decide) (tg3_1 oa1) (tg3_1 oa0) dX3_become_27 lm_X3_37 kw_ac_1 kw_ac_2 kw_ac_3 (Nat.le_of_ble_eq_true rfl) hs (fun h2 hs => ?_)
  refine g_aload_n C 1 dX3_become_30 rfl rfl ?_
  refine gf3_2 C oa1 lf_X3_18 dX3_become_31 ?_
  refine g_iconst C dX3_become_34 cc_i_0 ?_
  refine g_aload_n C 0 dX3_become_35 rfl rfl ?_
  refine gf3_2 C oa0 lf_X3_18 dX3_become_36 ?_
  refine g_iconst C dX3_become_39 cc_i_0 ?_
  refine g_bipush C dX3_become_40 cc_b_6 ?_
  refine g_acI C (by decide) (tg3_2 oa1) (tg3_2 oa0) dX3_become_42 lm_X3_37 kw_ac_1 kw_ac_2 kw_ac_3 (Nat.le_of_ble_eq_true rfl) hs (fun h3 hs => ?_)
  refine g_aload_n C 1 dX3_become_45 rfl rfl ?_
  refine gf3_3 C oa1 lf_X3_21 dX3_become_46 ?_
  refine g_iconst C dX3_become_49 cc_i_0 ?_
  refine g_aload_n C 0 dX3_become_50 rfl rfl ?_
  refine gf3_3 C oa0 lf_X3_21 dX3_become_51 ?_
  refine g_iconst C dX3_become_54 cc_i_0 ?_
  refine g_bipush C dX3_become_55 cc_b_6 ?_
  refine g_acI C (by decide) (tg3_3 oa1) (tg3_3 oa0) dX3_become_57 lm_X3_37 kw_ac_1 kw_ac_2 kw_ac_3 (Nat.le_of_ble_eq_true rfl) hs (fun h4 hs => ?_)
  refine g_aload_n C 1 dX3_become_60 rfl rfl ?_
  refine gf3_4 C oa1 lf_X3_24 dX3_become_61 ?_
  refine g_iconst C dX3_become_64 cc_i_0 ?_
  refine g_aload_n C 0 dX3_become_65 rfl rfl ?_
  refine gf3_4 C oa0 lf_X3_24 dX3_become_66 ?_
  refine g_iconst C dX3_become_69 cc_i_0 ?_
  refine g_bipush C dX3_become_70 cc_b_6 ?_
  refine g_acI C (by decide) (tg3_4 oa1) (tg3_4 oa0) dX3_become_72 lm_X3_37 kw_ac_1 kw_ac_2 kw_ac_3 (Nat.le_of_ble_eq_true rfl) hs (fun h5 hs => ?_)
  refine g_aload_n C 1 dX3_become_75 rfl rfl ?_
  refine gf3_5 C oa1 lf_X3_27 dX3_become_76 ?_
  refine g_iconst C dX3_become_79 cc_i_0 ?_
  refine g_aload_n C 0 dX3_become_80 rfl rfl ?_
  refine gf3_5 C oa0 lf_X3_27 dX3_become_81 ?_
  refine g_iconst C dX3_become_84 cc_i_0 ?_
  refine g_aload_n C 0 dX3_become_85 rfl rfl ?_
  refine gf3_5 C oa0 lf_X3_27 dX3_become_86 ?_
  refine g_alen C (tg3_5 oa0) dX3_become_89 ?_
  refine g_acI C (by decide) (tg3_5 oa1) (tg3_5 oa0) dX3_become_90 lm_X3_37 kw_ac_1 kw_ac_2 kw_ac_3 (Nat.le_of_ble_eq_true rfl) hs (fun h6 hs => ?_)
  refine g_aload_n C 0 dX3_become_93 rfl rfl ?_
  refine gf3_6 C oa0 lf_X3_33 dX3_become_94 ?_
  refine g_aload_n C 1 dX3_become_97 rfl rfl ?_
  refine gf3_6 C oa1 lf_X3_33 dX3_become_98 ?_
  obtain ⟨h7, hch7, hs⟩ := bnd hs
  refine g_cVN (As := [.ref (ad E (rf a1 6))]) (rest := []) C (w_X0_become l E _ _ _ _ (tg3_6 oa0) (tg3_6 oa1) hch7) mw_X0_become lm_X3_43 (tg3_6 oa0) rfl (ce0 E _ ((tg3_6 oa0)).2) rfl (by decide) rfl (Nat.le_of_ble_eq_true rfl) dX3_become_101 rfl ?_
  refine g_aload_n C 0 dX3_become_104 rfl rfl ?_
  refine g_aload_n C 1 dX3_become_105 rfl rfl ?_
  refine gf3_7 C oa1 lf_X3_47 dX3_become_106 ?_
  refine pf3_7 C oa0 lf_X3_47 dX3_become_109 ?_
  refine g_aload_n C 0 dX3_become_112 rfl rfl ?_
  refine g_aload_n C 1 dX3_become_113 rfl rfl ?_
  refine gf3_8 C oa1 lf_X3_51 dX3_become_114 ?_
  refine pf3_8 C oa0 lf_X3_51 dX3_become_117 ?_
  have e9 := Option.some.inj hs
  subst e9
  exact g_vret C hR dX3_become_120
set_option maxHeartbeats 4000000 in
set_option maxRecDepth 100000 in
theorem wb_X1_digit_21 {l : Launch} {E : Ep} {X : Fx} {res : Int32} (C : CX E X RX1 cX1_digit 2 1) (h : Hp) (s0 : Int32) (hs : b_X1_digit_21  h s0 = some res) (hR : RT E X (some .int) (some (.int res)) h) : GG l E X h 21 [] [.int s0] := by
  have e9 := Option.some.inj hs
  subst e9
  exact g_iret C hR dX1_digit_21
set_option maxHeartbeats 4000000 in
set_option maxRecDepth 100000 in
theorem w_X1_digit (l : Launch) (E : Ep) (h : Hp) (a0 : Nat) (x1 : Int32) (res : Int32) (oa0 : OKr a0 1) (hs : sh_X1_digit h a0 x1 = some res) : MG l E yX1_digit cX1_digit 2 (some .int) 1 [.ref (ad E a0), .int x1] h (some (.int res)) h := by
  refine MG.of (by decide) (Nat.le_of_ble_eq_true rfl) ?_
  intro X C hR
  have C : CX E X RX1 cX1_digit 2 1 := C
  show GG l E X h 0 [(0, .ref (ad E a0)), (1, .int x1)] []
  refine g_aload_n C 0 dX1_digit_0 rfl rfl ?_
  refine g_iload_n C 1 dX1_digit_1 rfl rfl ?_
  obtain ⟨v1, hcv1, hs⟩ := bnd hs
  refine g_cV (As := [.int x1]) (rest := []) C (w_X1_isDigitAt l E _ _ _ _ oa0 hcv1) mw_X1_isDigitAt lm_X1_17 oa0 rfl (ce1 E _ (oa0).2) rfl (by decide) rfl (Nat.le_of_ble_eq_true rfl) dX1_digit_2 rfl ?_
  refine g_if_eq (tgt := 20) C dX1_digit_5 (by decide) hs (fun hs => ?_) (fun hs => ?_)
  · refine g_iconst C dX1_digit_20 cc_i_0 ?_
    refine g_sub [] rfl ?_
    exact wb_X1_digit_21 C h (0 : Int32) hs hR
  · refine g_aload_n C 0 dX1_digit_8 rfl rfl ?_
    refine gf1_0 C oa0 lf_X1_9 dX1_digit_9 ?_
    refine g_iload_n C 1 dX1_digit_12 rfl rfl ?_
    refine g_iald C (tg1_0 oa0) dX1_digit_13 hs (fun v2 hs => ?_)
    refine g_bipush C dX1_digit_14 cc_b_48 ?_
    refine g_isub C dX1_digit_16 ?_
    refine g_goto (tgt := 21) C dX1_digit_17 (by decide) ?_
    refine g_sub [] rfl ?_
    exact wb_X1_digit_21 C h (v2 - (48 : Int32)) hs hR
set_option maxHeartbeats 4000000 in
set_option maxRecDepth 100000 in
theorem wb_X4_outside_21 {l : Launch} {E : Ep} {X : Fx} {res : Int32} (C : CX E X RX4 cX4_outside 3 0) (h : Hp) (s0 : Int32) (hs : b_X4_outside_21  h s0 = some res) (hR : RT E X (some .int) (some (.int res)) h) : GG l E X h 21 [] [.int s0] := by
  have e9 := Option.some.inj hs
  subst e9
  exact g_iret C hR dX4_outside_21
set_option maxHeartbeats 4000000 in
set_option maxRecDepth 100000 in
theorem w_X4_outside (l : Launch) (E : Ep) (h : Hp) (x0 : Int32) (x1 : Int32) (x2 : Int32) (res : Int32) (hs : sh_X4_outside h x0 x1 x2 = some res) : MG l E yX4_outside cX4_outside 3 (some .int) 0 [.int x0, .int x1, .int x2] h (some (.int res)) h := by
  refine MG.of (by decide) (Nat.le_of_ble_eq_true rfl) ?_
  intro X C hR
  have C : CX E X RX4 cX4_outside 3 0 := C
  show GG l E X h 0 [(0, .int x0), (1, .int x1), (2, .int x2)] []
  refine g_iload_n C 0 dX4_outside_0 rfl rfl ?_
  refine g_iload_n C 1 dX4_outside_1 rfl rfl ?_
  refine g_icmp_ge (tgt := 10) C dX4_outside_2 (by decide) hs (fun hs => ?_) (fun hs => ?_)
  · refine g_iload_n C 0 dX4_outside_10 rfl rfl ?_
    refine g_iload_n C 2 dX4_outside_11 rfl rfl ?_
    refine g_icmp_le (tgt := 20) C dX4_outside_12 (by decide) hs (fun hs => ?_) (fun hs => ?_)
    · refine g_iconst C dX4_outside_20 cc_i_0 ?_
      refine g_sub [] rfl ?_
      exact wb_X4_outside_21 C h (0 : Int32) hs hR
    · refine g_bipush C dX4_outside_15 cc_b_m6 ?_
      refine g_goto (tgt := 21) C dX4_outside_17 (by decide) ?_
      refine g_sub [] rfl ?_
      exact wb_X4_outside_21 C h (-6 : Int32) hs hR
  · refine g_bipush C dX4_outside_5 cc_b_m4 ?_
    refine g_goto (tgt := 21) C dX4_outside_7 (by decide) ?_
    refine g_sub [] rfl ?_
    exact wb_X4_outside_21 C h (-4 : Int32) hs hR
set_option maxHeartbeats 4000000 in
set_option maxRecDepth 100000 in
theorem wb_X0_countOf_64 {l : Launch} {E : Ep} {X : Fx} {res : Int32} (C : CX E X RX0 cX0_countOf 8 0) (k26 : Hp → Nat → Int32 → Int64 → Int32 → Int32 → Int32 → Option (Int32)) (hk26 : ∀ (h : Hp) (a0 : Nat) (x2 : Int32) (y3 : Int64) (x5 : Int32) (x6 : Int32) (x7 : Int32), OKr a0 0 → k26 h a0 x2 y3 x5 x6 x7 = some res → RT E X (some .int) (some (.int res)) h → GG l E X h 26 [(0, .ref (ad E a0)), (2, .int x2), (3, .long y3), (5, .int x5), (6, .int x6), (7, .int x7)] []) (h : Hp) (a0 : Nat) (x2 : Int32) (y3 : Int64) (x5 : Int32) (x6 : Int32) (x7 : Int32) (oa0 : OKr a0 0) (hs : b_X0_countOf_64 k26 h a0 x2 y3 x5 x6 x7 = some res) (hR : RT E X (some .int) (some (.int res)) h) : GG l E X h 64 [(0, .ref (ad E a0)), (2, .int x2), (3, .long y3), (5, .int x5), (6, .int x6), (7, .int x7)] [] := by
  refine g_iinc (lv' := [(7, .int (x7 + (1 : Int32))), (0, .ref (ad E a0)), (2, .int x2), (3, .long y3), (5, .int x5), (6, .int x6)]) (j := 5) C dX0_countOf_64 rfl (cc_n_1 _) (by decide) rfl ?_
  refine g_goto (tgt := 26) C dX0_countOf_67 (by decide) ?_
  refine g_sub [1, 2, 3, 4, 5, 0] rfl ?_
  exact hk26 h a0 x2 y3 x5 x6 (x7 + (1 : Int32)) oa0 hs hR
set_option maxHeartbeats 4000000 in
set_option maxRecDepth 100000 in
theorem wb_X0_countOf_26 {l : Launch} {E : Ep} {X : Fx} {res : Int32} (C : CX E X RX0 cX0_countOf 8 0) : ∀ (n : Nat) (h : Hp) (a0 : Nat) (x2 : Int32) (y3 : Int64) (x5 : Int32) (x6 : Int32) (x7 : Int32) (oa0 : OKr a0 0), b_X0_countOf_26  n h a0 x2 y3 x5 x6 x7 = some res → RT E X (some .int) (some (.int res)) h → GG l E X h 26 [(0, .ref (ad E a0)), (2, .int x2), (3, .long y3), (5, .int x5), (6, .int x6), (7, .int x7)] [] := by
  intro n
  induction n with
  | zero =>
    intro h a0 x2 y3 x5 x6 x7 oa0
    intro hs
    exact absurd hs (by intro e; cases e)
  | succ n ih =>
    intro h a0 x2 y3 x5 x6 x7 oa0 hs hR
    have hk26 := ih
    have hs : f_X0_countOf_26  (b_X0_countOf_26  n) h a0 x2 y3 x5 x6 x7 = some res := hs
    generalize b_X0_countOf_26  n = k26 at hs hk26
    refine g_iload C 5 dX0_countOf_26 rfl ?_
    refine g_bipush C dX0_countOf_28 cc_b_6 ?_
    refine g_icmp_ge (tgt := 70) C dX0_countOf_30 (by decide) hs (fun hs => ?_) (fun hs => ?_)
    · refine g_iload C 4 dX0_countOf_70 rfl ?_
      have e9 := Option.some.inj hs
      subst e9
      exact g_iret C hR dX0_countOf_72
    · refine g_lload_n C 2 dX0_countOf_33 rfl rfl ?_
      refine g_lconst (v := (1 : Int64)) C dX0_countOf_34 (by decide) ?_
      refine g_iload C 5 dX0_countOf_35 rfl ?_
      refine g_bipush C dX0_countOf_37 cc_b_6 ?_
      refine g_imul C dX0_countOf_39 ?_
      refine g_iload_n C 1 dX0_countOf_40 rfl rfl ?_
      refine g_iadd C dX0_countOf_41 ?_
      refine g_lshl C dX0_countOf_42 ?_
      refine g_land C dX0_countOf_43 ?_
      refine g_lconst (v := (0 : Int64)) C dX0_countOf_44 (by decide) ?_
      refine g_lcmp C dX0_countOf_45 ?_
      refine g_if_ne (tgt := 64) C dX0_countOf_46 (by decide) hs (fun hs => ?_) (fun hs => ?_)
      · refine g_iload C 4 dX0_countOf_49 rfl ?_
        refine g_aload_n C 0 dX0_countOf_51 rfl rfl ?_
        refine gf0_0 C oa0 lf_X0_11 dX0_countOf_52 ?_
        refine g_iload C 3 dX0_countOf_55 rfl ?_
        refine g_iload C 5 dX0_countOf_57 rfl ?_
        refine g_iadd C dX0_countOf_59 ?_
        refine g_iald C (tg0_0 oa0) dX0_countOf_60 hs (fun v1 hs => ?_)
        refine g_iadd C dX0_countOf_61 ?_
        refine g_istore (lv' := [(6, .int (x6 + v1)), (0, .ref (ad E a0)), (2, .int x2), (3, .long y3), (5, .int x5), (7, .int x7)]) C dX0_countOf_62 (by decide) rfl ?_
        refine g_sub [1, 2, 3, 4, 0, 5] rfl ?_
        exact wb_X0_countOf_64 C k26 hk26 h a0 x2 y3 x5 (x6 + v1) x7 oa0 hs hR
      · exact wb_X0_countOf_64 C k26 hk26 h a0 x2 y3 x5 x6 x7 oa0 hs hR
set_option maxHeartbeats 4000000 in
set_option maxRecDepth 100000 in
theorem w_X0_countOf (l : Launch) (E : Ep) (h : Hp) (a0 : Nat) (x1 : Int32) (x2 : Int32) (y3 : Int64) (res : Int32) (oa0 : OKr a0 0) (hs : sh_X0_countOf h a0 x1 x2 y3 = some res) : MG l E yX0_countOf cX0_countOf 8 (some .int) 0 [.ref (ad E a0), .int x1, .int x2, .long y3] h (some (.int res)) h := by
  refine MG.of (by decide) (Nat.le_of_ble_eq_true rfl) ?_
  intro X C hR
  have C : CX E X RX0 cX0_countOf 8 0 := C
  show GG l E X h 0 [(0, .ref (ad E a0)), (1, .int x1), (2, .int x2), (3, .long y3)] []
  refine g_iload_n C 1 dX0_countOf_0 rfl rfl ?_
  refine g_bipush C dX0_countOf_1 cc_b_42 ?_
  refine g_imul C dX0_countOf_3 ?_
  refine g_iload_n C 2 dX0_countOf_4 rfl rfl ?_
  refine g_bipush C dX0_countOf_5 cc_b_7 ?_
  refine g_imul C dX0_countOf_7 ?_
  refine g_iadd C dX0_countOf_8 ?_
  refine g_istore (lv' := [(5, .int ((x1 * (42 : Int32)) + (x2 * (7 : Int32)))), (0, .ref (ad E a0)), (1, .int x1), (2, .int x2), (3, .long y3)]) C dX0_countOf_9 (by decide) rfl ?_
  refine g_aload_n C 1 dX0_countOf_11 rfl rfl ?_
  refine gf0_0 C oa0 lf_X0_11 dX0_countOf_12 ?_
  refine g_iload C 0 dX0_countOf_15 rfl ?_
  refine g_bipush C dX0_countOf_17 cc_b_6 ?_
  refine g_iadd C dX0_countOf_19 ?_
  refine g_iald C (tg0_0 oa0) dX0_countOf_20 hs (fun v1 hs => ?_)
  refine g_istore (lv' := [(6, .int v1), (5, .int ((x1 * (42 : Int32)) + (x2 * (7 : Int32)))), (0, .ref (ad E a0)), (1, .int x1), (2, .int x2), (3, .long y3)]) C dX0_countOf_21 (by decide) rfl ?_
  refine g_iconst C dX0_countOf_23 cc_i_0 ?_
  refine g_istore (lv' := [(7, .int (0 : Int32)), (6, .int v1), (5, .int ((x1 * (42 : Int32)) + (x2 * (7 : Int32)))), (0, .ref (ad E a0)), (1, .int x1), (2, .int x2), (3, .long y3)]) C dX0_countOf_24 (by decide) rfl ?_
  refine g_sub [3, 5, 6, 2, 1, 0] rfl ?_
  exact wb_X0_countOf_26 C 1000 h a0 x2 y3 ((x1 * (42 : Int32)) + (x2 * (7 : Int32))) v1 (0 : Int32) oa0 hs hR
set_option maxHeartbeats 4000000 in
set_option maxRecDepth 100000 in
theorem wb_X0_countDay_43 {l : Launch} {E : Ep} {X : Fx} {res : Hp} (C : CX E X RX0 cX0_countDay 6 1) : ∀ (n : Nat) (h : Hp) (a0 : Nat) (x1 : Int32) (y3 : Int64) (x5 : Int32) (oa0 : OKr a0 0), b_X0_countDay_43  n h a0 x1 y3 x5 = some res → RT E X none none res → GG l E X h 43 [(0, .ref (ad E a0)), (1, .int x1), (3, .long y3), (5, .int x5)] [] := by
  intro n
  induction n with
  | zero =>
    intro h a0 x1 y3 x5 oa0
    intro hs
    exact absurd hs (by intro e; cases e)
  | succ n ih =>
    intro h a0 x1 y3 x5 oa0 hs hR
    have hk43 := ih
    have hs : f_X0_countDay_43  (b_X0_countDay_43  n) h a0 x1 y3 x5 = some res := hs
    generalize b_X0_countDay_43  n = k43 at hs hk43
    refine g_iload C 3 dX0_countDay_43 rfl ?_
    refine g_bipush C dX0_countDay_45 cc_b_6 ?_
    refine g_icmp_ge (tgt := 76) C dX0_countDay_47 (by decide) hs (fun hs => ?_) (fun hs => ?_)
    · have e9 := Option.some.inj hs
      subst e9
      exact g_vret C hR dX0_countDay_76
    · refine g_aload_n C 0 dX0_countDay_50 rfl rfl ?_
      refine gf0_1 C oa0 lf_X0_15 dX0_countDay_51 ?_
      refine g_iload_n C 1 dX0_countDay_54 rfl rfl ?_
      refine g_bipush C dX0_countDay_55 cc_b_6 ?_
      refine g_imul C dX0_countDay_57 ?_
      refine g_iload C 3 dX0_countDay_58 rfl ?_
      refine g_iadd C dX0_countDay_60 ?_
      refine g_aload_n C 0 dX0_countDay_61 rfl rfl ?_
      refine g_iload_n C 1 dX0_countDay_62 rfl rfl ?_
      refine g_iload C 3 dX0_countDay_63 rfl ?_
      refine g_lload_n C 2 dX0_countDay_65 rfl rfl ?_
      obtain ⟨v1, hcv1, hs⟩ := bnd hs
      refine g_cV (As := [.int x1, .int x5, .long y3]) (rest := [.int ((x1 * (6 : Int32)) + x5), .ref (ad E (rf a0 1))]) C (w_X0_countOf l E _ _ _ _ _ _ oa0 hcv1) mw_X0_countOf lm_X0_41 oa0 rfl (ce0 E _ (oa0).2) rfl (by decide) rfl (Nat.le_of_ble_eq_true rfl) dX0_countDay_66 rfl ?_
      refine g_iast C (tg0_1 oa0) dX0_countDay_69 hs (fun h2 hs => ?_)
      refine g_iinc (lv' := [(5, .int (x5 + (1 : Int32))), (0, .ref (ad E a0)), (1, .int x1), (3, .long y3)]) (j := 3) C dX0_countDay_70 rfl (cc_n_1 _) (by decide) rfl ?_
      refine g_goto (tgt := 43) C dX0_countDay_73 (by decide) ?_
      refine g_sub [1, 2, 3, 0] rfl ?_
      exact hk43 h2 a0 x1 y3 (x5 + (1 : Int32)) oa0 hs hR
set_option maxHeartbeats 4000000 in
set_option maxRecDepth 100000 in
theorem wb_X0_countDay_40 {l : Launch} {E : Ep} {X : Fx} {res : Hp} (C : CX E X RX0 cX0_countDay 6 1) (h : Hp) (a0 : Nat) (x1 : Int32) (y3 : Int64) (oa0 : OKr a0 0) (hs : b_X0_countDay_40  h a0 x1 y3 = some res) (hR : RT E X none none res) : GG l E X h 40 [(0, .ref (ad E a0)), (1, .int x1), (3, .long y3)] [] := by
  refine g_iconst C dX0_countDay_40 cc_i_0 ?_
  refine g_istore (lv' := [(5, .int (0 : Int32)), (0, .ref (ad E a0)), (1, .int x1), (3, .long y3)]) C dX0_countDay_41 (by decide) rfl ?_
  refine g_sub [1, 2, 3, 0] rfl ?_
  exact wb_X0_countDay_43 C 1000 h a0 x1 y3 (0 : Int32) oa0 hs hR
set_option maxHeartbeats 4000000 in
set_option maxRecDepth 100000 in
theorem wb_X0_countDay_9 {l : Launch} {E : Ep} {X : Fx} {res : Hp} (C : CX E X RX0 cX0_countDay 6 1) : ∀ (n : Nat) (h : Hp) (a0 : Nat) (x1 : Int32) (x2 : Int32) (y3 : Int64) (x5 : Int32) (oa0 : OKr a0 0), b_X0_countDay_9  n h a0 x1 x2 y3 x5 = some res → RT E X none none res → GG l E X h 9 [(0, .ref (ad E a0)), (1, .int x1), (2, .int x2), (3, .long y3), (5, .int x5)] [] := by
  intro n
  induction n with
  | zero =>
    intro h a0 x1 x2 y3 x5 oa0
    intro hs
    exact absurd hs (by intro e; cases e)
  | succ n ih =>
    intro h a0 x1 x2 y3 x5 oa0 hs hR
    have hk9 := ih
    have hs : f_X0_countDay_9  (b_X0_countDay_9  n) h a0 x1 x2 y3 x5 = some res := hs
    generalize b_X0_countDay_9  n = k9 at hs hk9
    refine g_iload C 4 dX0_countDay_9 rfl ?_
    refine g_iload_n C 1 dX0_countDay_11 rfl rfl ?_
    refine g_iload_n C 2 dX0_countDay_12 rfl rfl ?_
    refine g_iadd C dX0_countDay_13 ?_
    refine g_icmp_gt (tgt := 40) C dX0_countDay_14 (by decide) hs (fun hs => ?_) (fun hs => ?_)
    · refine g_sub [0, 1, 3] rfl ?_
      exact wb_X0_countDay_40 C h a0 x1 y3 oa0 hs hR
    · refine g_iload C 4 dX0_countDay_17 rfl ?_
      refine g_bipush C dX0_countDay_19 cc_b_11 ?_
      refine g_icmp_ge (tgt := 40) C dX0_countDay_21 (by decide) hs (fun hs => ?_) (fun hs => ?_)
      · refine g_sub [0, 1, 3] rfl ?_
        exact wb_X0_countDay_40 C h a0 x1 y3 oa0 hs hR
      · refine g_lload_n C 3 dX0_countDay_24 rfl rfl ?_
        refine g_aload_n C 0 dX0_countDay_25 rfl rfl ?_
        refine gf0_2 C oa0 lf_X0_18 dX0_countDay_26 ?_
        refine g_iload C 4 dX0_countDay_29 rfl ?_
        refine g_lald C (tg0_2 oa0) dX0_countDay_31 hs (fun v1 hs => ?_)
        refine g_lor C dX0_countDay_32 ?_
        refine g_lstore_n (lv' := [(3, .long (y3 ||| v1)), (0, .ref (ad E a0)), (1, .int x1), (2, .int x2), (5, .int x5)]) C dX0_countDay_33 rfl (by decide) rfl ?_
        refine g_iinc (lv' := [(5, .int (x5 + (1 : Int32))), (3, .long (y3 ||| v1)), (0, .ref (ad E a0)), (1, .int x1), (2, .int x2)]) (j := 4) C dX0_countDay_34 rfl (cc_n_1 _) (by decide) rfl ?_
        refine g_goto (tgt := 9) C dX0_countDay_37 (by decide) ?_
        refine g_sub [2, 3, 4, 1, 0] rfl ?_
        exact hk9 h a0 x1 x2 (y3 ||| v1) (x5 + (1 : Int32)) oa0 hs hR
set_option maxHeartbeats 4000000 in
set_option maxRecDepth 100000 in
theorem w_X0_countDay (l : Launch) (E : Ep) (h : Hp) (a0 : Nat) (x1 : Int32) (x2 : Int32) (res : Hp) (oa0 : OKr a0 0) (hs : sh_X0_countDay h a0 x1 x2 = some res) : MG l E yX0_countDay cX0_countDay 6 none 1 [.ref (ad E a0), .int x1, .int x2] h none res := by
  refine MG.of (by decide) (Nat.le_of_ble_eq_true rfl) ?_
  intro X C hR
  have C : CX E X RX0 cX0_countDay 6 1 := C
  show GG l E X h 0 [(0, .ref (ad E a0)), (1, .int x1), (2, .int x2)] []
  refine g_lconst (v := (0 : Int64)) C dX0_countDay_0 (by decide) ?_
  refine g_lstore_n (lv' := [(3, .long (0 : Int64)), (0, .ref (ad E a0)), (1, .int x1), (2, .int x2)]) C dX0_countDay_1 rfl (by decide) rfl ?_
  refine g_iload_n C 3 dX0_countDay_2 rfl rfl ?_
  refine g_if_le (tgt := 40) C dX0_countDay_3 (by decide) hs (fun hs => ?_) (fun hs => ?_)
  · refine g_sub [1, 2, 0] rfl ?_
    exact wb_X0_countDay_40 C h a0 x1 (0 : Int64) oa0 hs hR
  · refine g_iload_n C 2 dX0_countDay_6 rfl rfl ?_
    refine g_istore (lv' := [(5, .int x1), (3, .long (0 : Int64)), (0, .ref (ad E a0)), (1, .int x1), (2, .int x2)]) C dX0_countDay_7 (by decide) rfl ?_
    refine g_sub [2, 3, 4, 1, 0] rfl ?_
    exact wb_X0_countDay_9 C 1000 h a0 x1 x2 (0 : Int64) x1 oa0 hs hR
set_option maxHeartbeats 4000000 in
set_option maxRecDepth 100000 in
theorem wb_X0_countPastDays_2 {l : Launch} {E : Ep} {X : Fx} {res : Hp} (C : CX E X RX0 cX0_countPastDays 3 2) : ∀ (n : Nat) (h : Hp) (a0 : Nat) (x1 : Int32) (x2 : Int32) (oa0 : OKr a0 0), b_X0_countPastDays_2  n h a0 x1 x2 = some res → RT E X none none res → GG l E X h 2 [(0, .ref (ad E a0)), (1, .int x1), (2, .int x2)] [] := by
  intro n
  induction n with
  | zero =>
    intro h a0 x1 x2 oa0
    intro hs
    exact absurd hs (by intro e; cases e)
  | succ n ih =>
    intro h a0 x1 x2 oa0 hs hR
    have hk2 := ih
    have hs : f_X0_countPastDays_2  (b_X0_countPastDays_2  n) h a0 x1 x2 = some res := hs
    generalize b_X0_countPastDays_2  n = k2 at hs hk2
    refine g_iload_n C 2 dX0_countPastDays_2 rfl rfl ?_
    refine g_bipush C dX0_countPastDays_3 cc_b_6 ?_
    refine g_icmp_ge (tgt := 20) C dX0_countPastDays_5 (by decide) hs (fun hs => ?_) (fun hs => ?_)
    · have e9 := Option.some.inj hs
      subst e9
      exact g_vret C hR dX0_countPastDays_20
    · refine g_aload_n C 0 dX0_countPastDays_8 rfl rfl ?_
      refine g_iload_n C 2 dX0_countPastDays_9 rfl rfl ?_
      refine g_iload_n C 1 dX0_countPastDays_10 rfl rfl ?_
      obtain ⟨h1, hch1, hs⟩ := bnd hs
      refine g_cV (As := [.int x2, .int x1]) (rest := []) C (w_X0_countDay l E _ _ _ _ _ oa0 hch1) mw_X0_countDay lm_X0_37 oa0 rfl (ce0 E _ (oa0).2) rfl (by decide) rfl (Nat.le_of_ble_eq_true rfl) dX0_countPastDays_11 rfl ?_
      refine g_iinc (lv' := [(2, .int (x2 + (1 : Int32))), (0, .ref (ad E a0)), (1, .int x1)]) (j := 2) C dX0_countPastDays_14 rfl (cc_n_1 _) (by decide) rfl ?_
      refine g_goto (tgt := 2) C dX0_countPastDays_17 (by decide) ?_
      refine g_sub [1, 2, 0] rfl ?_
      exact hk2 h1 a0 x1 (x2 + (1 : Int32)) oa0 hs hR
set_option maxHeartbeats 4000000 in
set_option maxRecDepth 100000 in
theorem w_X0_countPastDays (l : Launch) (E : Ep) (h : Hp) (a0 : Nat) (x1 : Int32) (res : Hp) (oa0 : OKr a0 0) (hs : sh_X0_countPastDays h a0 x1 = some res) : MG l E yX0_countPastDays cX0_countPastDays 3 none 2 [.ref (ad E a0), .int x1] h none res := by
  refine MG.of (by decide) (Nat.le_of_ble_eq_true rfl) ?_
  intro X C hR
  have C : CX E X RX0 cX0_countPastDays 3 2 := C
  show GG l E X h 0 [(0, .ref (ad E a0)), (1, .int x1)] []
  refine g_iconst C dX0_countPastDays_0 cc_i_1 ?_
  refine g_istore_n (lv' := [(2, .int (1 : Int32)), (0, .ref (ad E a0)), (1, .int x1)]) C dX0_countPastDays_1 rfl (by decide) rfl ?_
  refine g_sub [1, 2, 0] rfl ?_
  exact wb_X0_countPastDays_2 C 1000 h a0 x1 (1 : Int32) oa0 hs hR
set_option maxHeartbeats 4000000 in
set_option maxRecDepth 100000 in
theorem wb_X3_changeSetting_32 {l : Launch} {E : Ep} {X : Fx} {res : Int32 × Hp} (C : CX E X RX3 cX3_changeSetting 4 3) (h : Hp) (x3 : Int32) (hs : b_X3_changeSetting_32  h x3 = some res) (hR : RT E X (some .int) (some (.int res.1)) res.2) : GG l E X h 32 [(3, .int x3)] [] := by
  refine g_iload_n C 0 dX3_changeSetting_32 rfl rfl ?_
  have e9 := Option.some.inj hs
  subst e9
  exact g_iret C hR dX3_changeSetting_33
set_option maxHeartbeats 4000000 in
set_option maxRecDepth 100000 in
theorem w_X3_changeSetting (l : Launch) (E : Ep) (h : Hp) (a0 : Nat) (x1 : Int32) (x2 : Int32) (res : Int32 × Hp) (oa0 : OKr a0 3) (hs : sh_X3_changeSetting h a0 x1 x2 = some res) : MG l E yX3_changeSetting cX3_changeSetting 4 (some .int) 3 [.ref (ad E a0), .int x1, .int x2] h (some (.int res.1)) res.2 := by
  refine MG.of (by decide) (Nat.le_of_ble_eq_true rfl) ?_
  intro X C hR
  have C : CX E X RX3 cX3_changeSetting 4 3 := C
  show GG l E X h 0 [(0, .ref (ad E a0)), (1, .int x1), (2, .int x2)] []
  refine g_aload_n C 0 dX3_changeSetting_0 rfl rfl ?_
  refine gf3_5 C oa0 lf_X3_27 dX3_changeSetting_1 ?_
  refine g_iload_n C 1 dX3_changeSetting_4 rfl rfl ?_
  refine g_iald C (tg3_5 oa0) dX3_changeSetting_5 hs (fun v1 hs => ?_)
  refine g_istore_n (lv' := [(3, .int v1), (0, .ref (ad E a0)), (1, .int x1), (2, .int x2)]) C dX3_changeSetting_6 rfl (by decide) rfl ?_
  refine g_aload_n C 1 dX3_changeSetting_7 rfl rfl ?_
  refine gf3_5 C oa0 lf_X3_27 dX3_changeSetting_8 ?_
  refine g_iload_n C 2 dX3_changeSetting_11 rfl rfl ?_
  refine g_iload_n C 3 dX3_changeSetting_12 rfl rfl ?_
  refine g_iast C (tg3_5 oa0) dX3_changeSetting_13 hs (fun h2 hs => ?_)
  refine g_iload_n C 2 dX3_changeSetting_14 rfl rfl ?_
  refine g_iconst C dX3_changeSetting_15 cc_i_2 ?_
  refine g_icmp_ne (tgt := 32) C dX3_changeSetting_16 (by decide) hs (fun hs => ?_) (fun hs => ?_)
  · refine g_iload_n C 0 dX3_changeSetting_19 rfl rfl ?_
    refine g_iload_n C 3 dX3_changeSetting_20 rfl rfl ?_
    refine g_icmp_eq (tgt := 32) C dX3_changeSetting_21 (by decide) hs (fun hs => ?_) (fun hs => ?_)
    · refine g_sub [0] rfl ?_
      exact wb_X3_changeSetting_32 C h2 v1 hs hR
    · refine g_aload_n C 1 dX3_changeSetting_24 rfl rfl ?_
      refine gf3_6 C oa0 lf_X3_33 dX3_changeSetting_25 ?_
      refine g_iload_n C 3 dX3_changeSetting_28 rfl rfl ?_
      obtain ⟨h3, hch3, hs⟩ := bnd hs
      refine g_cVN (As := [.int x2]) (rest := []) C (w_X0_countPastDays l E _ _ _ _ (tg3_6 oa0) hch3) mw_X0_countPastDays lm_X3_68 (tg3_6 oa0) rfl (ce0 E _ ((tg3_6 oa0)).2) rfl (by decide) rfl (Nat.le_of_ble_eq_true rfl) dX3_changeSetting_29 rfl ?_
      refine g_sub [0] rfl ?_
      exact wb_X3_changeSetting_32 C h3 v1 hs hR
  · refine g_sub [0] rfl ?_
    exact wb_X3_changeSetting_32 C h2 v1 hs hR
set_option maxHeartbeats 4000000 in
set_option maxRecDepth 100000 in
theorem wb_X3_takeLaw_27 {l : Launch} {E : Ep} {X : Fx} {res : Int32 × Hp} (C : CX E X RX3 cX3_takeLaw 4 4) (h : Hp) (hs : b_X3_takeLaw_27  h  = some res) (hR : RT E X (some .boolean) (some (.int res.1)) res.2) : GG l E X h 27 [] [] := by
  refine g_iconst C dX3_takeLaw_27 cc_i_0 ?_
  have e9 := Option.some.inj hs
  subst e9
  exact g_zret C (Or.inl rfl) hR dX3_takeLaw_28
set_option maxHeartbeats 4000000 in
set_option maxRecDepth 100000 in
theorem w_X3_takeLaw (l : Launch) (E : Ep) (h : Hp) (a0 : Nat) (x1 : Int32) (x2 : Int32) (x3 : Int32) (res : Int32 × Hp) (oa0 : OKr a0 3) (hs : sh_X3_takeLaw h a0 x1 x2 x3 = some res) : MG l E yX3_takeLaw cX3_takeLaw 4 (some .boolean) 4 [.ref (ad E a0), .int x1, .int x2, .int x3] h (some (.int res.1)) res.2 := by
  refine MG.of (by decide) (Nat.le_of_ble_eq_true rfl) ?_
  intro X C hR
  have C : CX E X RX3 cX3_takeLaw 4 4 := C
  show GG l E X h 0 [(0, .ref (ad E a0)), (1, .int x1), (2, .int x2), (3, .int x3)] []
  refine g_iload_n C 1 dX3_takeLaw_0 rfl rfl ?_
  refine g_iconst C dX3_takeLaw_1 cc_i_5 ?_
  refine g_icmp_gt (tgt := 27) C dX3_takeLaw_2 (by decide) hs (fun hs => ?_) (fun hs => ?_)
  · refine g_sub [] rfl ?_
    exact wb_X3_takeLaw_27 C h hs hR
  · refine g_iload_n C 2 dX3_takeLaw_5 rfl rfl ?_
    refine g_getsN138 C dX3_takeLaw_6 lf_X3_54 ?_
    refine g_iconst C dX3_takeLaw_9 cc_i_1 ?_
    refine g_sald138 C dX3_takeLaw_10 hs (fun v1 hs => ?_)
    refine g_getsN139 C dX3_takeLaw_11 lf_X3_57 ?_
    refine g_iconst C dX3_takeLaw_14 cc_i_1 ?_
    refine g_sald139 C dX3_takeLaw_15 hs (fun v2 hs => ?_)
    obtain ⟨v3, hcv3, hs⟩ := bnd hs
    refine g_cSN (As := [.int x2, .int v1, .int v2]) (rest := []) C (w_X4_outside l E _ _ _ _ _ hcv3) mw_X4_outside lm_X3_60 rfl (by decide) rfl (Nat.le_of_ble_eq_true rfl) dX3_takeLaw_16 rfl ?_
    refine g_if_ne (tgt := 27) C dX3_takeLaw_19 (by decide) hs (fun hs => ?_) (fun hs => ?_)
    · refine g_iload_n C 3 dX3_takeLaw_22 rfl rfl ?_
      refine g_iconst C dX3_takeLaw_23 cc_i_5 ?_
      refine g_icmp_le (tgt := 29) C dX3_takeLaw_24 (by decide) hs (fun hs => ?_) (fun hs => ?_)
      · refine g_aload_n C 0 dX3_takeLaw_29 rfl rfl ?_
        refine gf3_5 C oa0 lf_X3_27 dX3_takeLaw_30 ?_
        refine g_iconst C dX3_takeLaw_33 cc_i_0 ?_
        refine g_iload_n C 1 dX3_takeLaw_34 rfl rfl ?_
        refine g_iast C (tg3_5 oa0) dX3_takeLaw_35 hs (fun h4 hs => ?_)
        refine g_aload_n C 0 dX3_takeLaw_36 rfl rfl ?_
        refine gf3_5 C oa0 lf_X3_27 dX3_takeLaw_37 ?_
        refine g_iconst C dX3_takeLaw_40 cc_i_1 ?_
        refine g_iload_n C 2 dX3_takeLaw_41 rfl rfl ?_
        refine g_iast C (tg3_5 oa0) dX3_takeLaw_42 hs (fun h5 hs => ?_)
        refine g_aload_n C 0 dX3_takeLaw_43 rfl rfl ?_
        refine g_iconst C dX3_takeLaw_44 cc_i_2 ?_
        refine g_iload_n C 3 dX3_takeLaw_45 rfl rfl ?_
        obtain ⟨q6, hcq6, hs⟩ := bnd hs
        refine g_cV (As := [.int (2 : Int32), .int x3]) (rest := []) C (w_X3_changeSetting l E _ _ _ _ _ oa0 hcq6) mw_X3_changeSetting lm_X3_64 oa0 rfl (ce3 E _ (oa0).2) rfl (by decide) rfl (Nat.le_of_ble_eq_true rfl) dX3_takeLaw_46 rfl ?_
        refine g_pop C dX3_takeLaw_49 rfl ?_
        refine g_iconst C dX3_takeLaw_50 cc_i_1 ?_
        have e9 := Option.some.inj hs
        subst e9
        exact g_zret C (Or.inr rfl) hR dX3_takeLaw_51
      · refine g_sub [] rfl ?_
        exact wb_X3_takeLaw_27 C h hs hR
    · refine g_sub [] rfl ?_
      exact wb_X3_takeLaw_27 C h hs hR
set_option maxHeartbeats 4000000 in
set_option maxRecDepth 100000 in
theorem wb_X1_number_37 {l : Launch} {E : Ep} {X : Fx} {res : Int32} (C : CX E X RX1 cX1_number 4 2) (h : Hp) (x2 : Int32) (hs : b_X1_number_37  h x2 = some res) (hR : RT E X (some .int) (some (.int res)) h) : GG l E X h 37 [(2, .int x2)] [] := by
  refine g_iload_n C 0 dX1_number_37 rfl rfl ?_
  have e9 := Option.some.inj hs
  subst e9
  exact g_iret C hR dX1_number_38
set_option maxHeartbeats 4000000 in
set_option maxRecDepth 100000 in
theorem wb_X1_number_4 {l : Launch} {E : Ep} {X : Fx} {res : Int32} (C : CX E X RX1 cX1_number 4 2) : ∀ (n : Nat) (h : Hp) (a0 : Nat) (x2 : Int32) (x3 : Int32) (oa0 : OKr a0 1), b_X1_number_4  n h a0 x2 x3 = some res → RT E X (some .int) (some (.int res)) h → GG l E X h 4 [(0, .ref (ad E a0)), (2, .int x2), (3, .int x3)] [] := by
  intro n
  induction n with
  | zero =>
    intro h a0 x2 x3 oa0
    intro hs
    exact absurd hs (by intro e; cases e)
  | succ n ih =>
    intro h a0 x2 x3 oa0 hs hR
    have hk4 := ih
    have hs : f_X1_number_4  (b_X1_number_4  n) h a0 x2 x3 = some res := hs
    generalize b_X1_number_4  n = k4 at hs hk4
    refine g_iload_n C 2 dX1_number_4 rfl rfl ?_
    refine g_aload_n C 0 dX1_number_5 rfl rfl ?_
    refine gf1_1 C oa0 lf_X1_13 dX1_number_6 ?_
    refine g_icmp_ge (tgt := 37) C dX1_number_9 (by decide) hs (fun hs => ?_) (fun hs => ?_)
    · refine g_sub [1] rfl ?_
      exact wb_X1_number_37 C h x2 hs hR
    · refine g_aload_n C 0 dX1_number_12 rfl rfl ?_
      refine g_iload_n C 2 dX1_number_13 rfl rfl ?_
      obtain ⟨v1, hcv1, hs⟩ := bnd hs
      refine g_cV (As := [.int x3]) (rest := []) C (w_X1_isDigitAt l E _ _ _ _ oa0 hcv1) mw_X1_isDigitAt lm_X1_17 oa0 rfl (ce1 E _ (oa0).2) rfl (by decide) rfl (Nat.le_of_ble_eq_true rfl) dX1_number_14 rfl ?_
      refine g_if_eq (tgt := 37) C dX1_number_17 (by decide) hs (fun hs => ?_) (fun hs => ?_)
      · refine g_sub [1] rfl ?_
        exact wb_X1_number_37 C h x2 hs hR
      · refine g_iload_n C 1 dX1_number_20 rfl rfl ?_
        refine g_bipush C dX1_number_21 cc_b_10 ?_
        refine g_imul C dX1_number_23 ?_
        refine g_aload_n C 0 dX1_number_24 rfl rfl ?_
        refine g_iload_n C 2 dX1_number_25 rfl rfl ?_
        obtain ⟨v2, hcv2, hs⟩ := bnd hs
        refine g_cV (As := [.int x3]) (rest := [.int (x2 * (10 : Int32))]) C (w_X1_digit l E _ _ _ _ oa0 hcv2) mw_X1_digit lm_X1_21 oa0 rfl (ce1 E _ (oa0).2) rfl (by decide) rfl (Nat.le_of_ble_eq_true rfl) dX1_number_26 rfl ?_
        refine g_iadd C dX1_number_29 ?_
        refine g_istore_n (lv' := [(2, .int ((x2 * (10 : Int32)) + v2)), (0, .ref (ad E a0)), (3, .int x3)]) C dX1_number_30 rfl (by decide) rfl ?_
        refine g_iinc (lv' := [(3, .int (x3 + (1 : Int32))), (2, .int ((x2 * (10 : Int32)) + v2)), (0, .ref (ad E a0))]) (j := 2) C dX1_number_31 rfl (cc_n_1 _) (by decide) rfl ?_
        refine g_goto (tgt := 4) C dX1_number_34 (by decide) ?_
        refine g_sub [2, 1, 0] rfl ?_
        exact hk4 h a0 ((x2 * (10 : Int32)) + v2) (x3 + (1 : Int32)) oa0 hs hR
set_option maxHeartbeats 4000000 in
set_option maxRecDepth 100000 in
theorem w_X1_number (l : Launch) (E : Ep) (h : Hp) (a0 : Nat) (x1 : Int32) (res : Int32) (oa0 : OKr a0 1) (hs : sh_X1_number h a0 x1 = some res) : MG l E yX1_number cX1_number 4 (some .int) 2 [.ref (ad E a0), .int x1] h (some (.int res)) h := by
  refine MG.of (by decide) (Nat.le_of_ble_eq_true rfl) ?_
  intro X C hR
  have C : CX E X RX1 cX1_number 4 2 := C
  show GG l E X h 0 [(0, .ref (ad E a0)), (1, .int x1)] []
  refine g_iconst C dX1_number_0 cc_i_0 ?_
  refine g_istore_n (lv' := [(2, .int (0 : Int32)), (0, .ref (ad E a0)), (1, .int x1)]) C dX1_number_1 rfl (by decide) rfl ?_
  refine g_iload_n C 2 dX1_number_2 rfl rfl ?_
  refine g_istore_n (lv' := [(3, .int x1), (2, .int (0 : Int32)), (0, .ref (ad E a0)), (1, .int x1)]) C dX1_number_3 rfl (by decide) rfl ?_
  refine g_sub [2, 1, 0] rfl ?_
  exact wb_X1_number_4 C 1000 h a0 (0 : Int32) x1 oa0 hs hR
set_option maxHeartbeats 4000000 in
set_option maxRecDepth 100000 in
theorem wb_X1_next_25 {l : Launch} {E : Ep} {X : Fx} {res : Int32} (C : CX E X RX1 cX1_next 4 1) (h : Hp) (x3 : Int32) (hs : b_X1_next_25  h x3 = some res) (hR : RT E X (some .int) (some (.int res)) h) : GG l E X h 25 [(3, .int x3)] [] := by
  refine g_iload_n C 0 dX1_next_25 rfl rfl ?_
  have e9 := Option.some.inj hs
  subst e9
  exact g_iret C hR dX1_next_26
set_option maxHeartbeats 4000000 in
set_option maxRecDepth 100000 in
theorem wb_X1_next_2 {l : Launch} {E : Ep} {X : Fx} {res : Int32} (C : CX E X RX1 cX1_next 4 1) : ∀ (n : Nat) (h : Hp) (a0 : Nat) (x1 : Int32) (x3 : Int32) (oa0 : OKr a0 1), b_X1_next_2  n h a0 x1 x3 = some res → RT E X (some .int) (some (.int res)) h → GG l E X h 2 [(0, .ref (ad E a0)), (1, .int x1), (3, .int x3)] [] := by
  intro n
  induction n with
  | zero =>
    intro h a0 x1 x3 oa0
    intro hs
    exact absurd hs (by intro e; cases e)
  | succ n ih =>
    intro h a0 x1 x3 oa0 hs hR
    have hk2 := ih
    have hs : f_X1_next_2  (b_X1_next_2  n) h a0 x1 x3 = some res := hs
    generalize b_X1_next_2  n = k2 at hs hk2
    refine g_iload_n C 2 dX1_next_2 rfl rfl ?_
    refine g_aload_n C 0 dX1_next_3 rfl rfl ?_
    refine gf1_1 C oa0 lf_X1_13 dX1_next_4 ?_
    refine g_icmp_ge (tgt := 25) C dX1_next_7 (by decide) hs (fun hs => ?_) (fun hs => ?_)
    · refine g_sub [2] rfl ?_
      exact wb_X1_next_25 C h x3 hs hR
    · refine g_aload_n C 0 dX1_next_10 rfl rfl ?_
      refine g_iload_n C 1 dX1_next_11 rfl rfl ?_
      refine g_iload_n C 2 dX1_next_12 rfl rfl ?_
      obtain ⟨v1, hcv1, hs⟩ := bnd hs
      refine g_cV (As := [.int x1, .int x3]) (rest := []) C (w_X1_isAt l E _ _ _ _ _ oa0 hcv1) mw_X1_isAt lm_X1_25 oa0 rfl (ce1 E _ (oa0).2) rfl (by decide) rfl (Nat.le_of_ble_eq_true rfl) dX1_next_13 rfl ?_
      refine g_if_ne (tgt := 25) C dX1_next_16 (by decide) hs (fun hs => ?_) (fun hs => ?_)
      · refine g_iinc (lv' := [(3, .int (x3 + (1 : Int32))), (0, .ref (ad E a0)), (1, .int x1)]) (j := 2) C dX1_next_19 rfl (cc_n_1 _) (by decide) rfl ?_
        refine g_goto (tgt := 2) C dX1_next_22 (by decide) ?_
        refine g_sub [1, 2, 0] rfl ?_
        exact hk2 h a0 x1 (x3 + (1 : Int32)) oa0 hs hR
      · refine g_sub [2] rfl ?_
        exact wb_X1_next_25 C h x3 hs hR
set_option maxHeartbeats 4000000 in
set_option maxRecDepth 100000 in
theorem w_X1_next (l : Launch) (E : Ep) (h : Hp) (a0 : Nat) (x1 : Int32) (x2 : Int32) (res : Int32) (oa0 : OKr a0 1) (hs : sh_X1_next h a0 x1 x2 = some res) : MG l E yX1_next cX1_next 4 (some .int) 1 [.ref (ad E a0), .int x1, .int x2] h (some (.int res)) h := by
  refine MG.of (by decide) (Nat.le_of_ble_eq_true rfl) ?_
  intro X C hR
  have C : CX E X RX1 cX1_next 4 1 := C
  show GG l E X h 0 [(0, .ref (ad E a0)), (1, .int x1), (2, .int x2)] []
  refine g_iload_n C 2 dX1_next_0 rfl rfl ?_
  refine g_istore_n (lv' := [(3, .int x2), (0, .ref (ad E a0)), (1, .int x1), (2, .int x2)]) C dX1_next_1 rfl (by decide) rfl ?_
  refine g_sub [1, 2, 0] rfl ?_
  exact wb_X1_next_2 C 1000 h a0 x1 x2 oa0 hs hR
set_option maxHeartbeats 4000000 in
set_option maxRecDepth 100000 in
theorem wb_X3_welcome_48 {l : Launch} {E : Ep} {X : Fx} {res : Int32 × Hp} (C : CX E X RX3 cX3_welcome 7 0) (h : Hp) (hs : b_X3_welcome_48  h  = some res) (hR : RT E X (some .boolean) (some (.int res.1)) res.2) : GG l E X h 48 [] [] := by
  refine g_iconst C dX3_welcome_48 cc_i_0 ?_
  have e9 := Option.some.inj hs
  subst e9
  exact g_zret C (Or.inl rfl) hR dX3_welcome_49
set_option maxHeartbeats 4000000 in
set_option maxRecDepth 100000 in
theorem wb_X3_welcome_19 {l : Launch} {E : Ep} {X : Fx} {res : Int32 × Hp} (C : CX E X RX3 cX3_welcome 7 0) (h : Hp) (a0 : Nat) (x1 : Int32) (x2 : Int32) (x3 : Int32) (x4 : Int32) (x5 : Int32) (s0 : Int32) (oa0 : OKr a0 3) (hs : b_X3_welcome_19  h a0 x1 x2 x3 x4 x5 s0 = some res) (hR : RT E X (some .boolean) (some (.int res.1)) res.2) : GG l E X h 19 [(0, .ref (ad E a0)), (1, .int x1), (2, .int x2), (3, .int x3), (4, .int x4), (5, .int x5)] [.int s0] := by
  refine g_istore (lv' := [(6, .int s0), (0, .ref (ad E a0)), (1, .int x1), (2, .int x2), (3, .int x3), (4, .int x4), (5, .int x5)]) C dX3_welcome_19 (by decide) rfl ?_
  refine g_aload_n C 1 dX3_welcome_21 rfl rfl ?_
  refine gf3_8 C oa0 lf_X3_51 dX3_welcome_22 ?_
  refine g_if_gt (tgt := 48) C dX3_welcome_25 (by decide) hs (fun hs => ?_) (fun hs => ?_)
  · refine g_sub [] rfl ?_
    exact wb_X3_welcome_48 C h hs hR
  · refine g_aload_n C 1 dX3_welcome_28 rfl rfl ?_
    refine gf3_7 C oa0 lf_X3_47 dX3_welcome_29 ?_
    refine g_bipush C dX3_welcome_32 cc_b_6 ?_
    refine g_icmp_ge (tgt := 48) C dX3_welcome_34 (by decide) hs (fun hs => ?_) (fun hs => ?_)
    · refine g_sub [] rfl ?_
      exact wb_X3_welcome_48 C h hs hR
    · refine g_iload_n C 2 dX3_welcome_37 rfl rfl ?_
      refine g_bipush C dX3_welcome_38 cc_b_7 ?_
      refine g_icmp_gt (tgt := 48) C dX3_welcome_40 (by decide) hs (fun hs => ?_) (fun hs => ?_)
      · refine g_sub [] rfl ?_
        exact wb_X3_welcome_48 C h hs hR
      · refine g_iload C 0 dX3_welcome_43 rfl ?_
        refine g_if_ne (tgt := 50) C dX3_welcome_45 (by decide) hs (fun hs => ?_) (fun hs => ?_)
        · refine g_sub [] rfl ?_
          exact wb_X3_welcome_48 C h hs hR
        · refine g_aload_n C 1 dX3_welcome_50 rfl rfl ?_
          refine gf3_0 C oa0 lf_X3_9 dX3_welcome_51 ?_
          refine g_aload_n C 1 dX3_welcome_54 rfl rfl ?_
          refine gf3_7 C oa0 lf_X3_47 dX3_welcome_55 ?_
          refine g_iload_n C 2 dX3_welcome_58 rfl rfl ?_
          refine g_iast C (tg3_0 oa0) dX3_welcome_59 hs (fun h1 hs => ?_)
          refine g_aload_n C 1 dX3_welcome_60 rfl rfl ?_
          refine gf3_1 C oa0 lf_X3_15 dX3_welcome_61 ?_
          refine g_aload_n C 1 dX3_welcome_64 rfl rfl ?_
          refine gf3_7 C oa0 lf_X3_47 dX3_welcome_65 ?_
          refine g_iload_n C 3 dX3_welcome_68 rfl rfl ?_
          refine g_iast C (tg3_1 oa0) dX3_welcome_69 hs (fun h2 hs => ?_)
          refine g_aload_n C 1 dX3_welcome_70 rfl rfl ?_
          refine gf3_2 C oa0 lf_X3_18 dX3_welcome_71 ?_
          refine g_aload_n C 1 dX3_welcome_74 rfl rfl ?_
          refine gf3_7 C oa0 lf_X3_47 dX3_welcome_75 ?_
          refine g_iload_n C 4 dX3_welcome_78 rfl rfl ?_
          refine g_iast C (tg3_2 oa0) dX3_welcome_79 hs (fun h3 hs => ?_)
          refine g_aload_n C 1 dX3_welcome_80 rfl rfl ?_
          refine gf3_3 C oa0 lf_X3_21 dX3_welcome_81 ?_
          refine g_aload_n C 1 dX3_welcome_84 rfl rfl ?_
          refine gf3_7 C oa0 lf_X3_47 dX3_welcome_85 ?_
          refine g_iload C 5 dX3_welcome_88 rfl ?_
          refine g_iast C (tg3_3 oa0) dX3_welcome_90 hs (fun h4 hs => ?_)
          refine g_aload_n C 1 dX3_welcome_91 rfl rfl ?_
          refine gf3_4 C oa0 lf_X3_24 dX3_welcome_92 ?_
          refine g_aload_n C 1 dX3_welcome_95 rfl rfl ?_
          refine gf3_7 C oa0 lf_X3_47 dX3_welcome_96 ?_
          refine g_iload C 6 dX3_welcome_99 rfl ?_
          refine g_iast C (tg3_4 oa0) dX3_welcome_101 hs (fun h5 hs => ?_)
          refine g_aload_n C 1 dX3_welcome_102 rfl rfl ?_
          refine g_dup C dX3_welcome_103 rfl ?_
          refine gf3_7 C oa0 lf_X3_47 dX3_welcome_104 ?_
          refine g_iconst C dX3_welcome_107 cc_i_1 ?_
          refine g_iadd C dX3_welcome_108 ?_
          refine pf3_7 C oa0 lf_X3_47 dX3_welcome_109 ?_
          refine g_iconst C dX3_welcome_112 cc_i_1 ?_
          have e9 := Option.some.inj hs
          subst e9
          exact g_zret C (Or.inr rfl) hR dX3_welcome_113
set_option maxHeartbeats 4000000 in
set_option maxRecDepth 100000 in
theorem wb_X3_welcome_14 {l : Launch} {E : Ep} {X : Fx} {res : Int32 × Hp} (C : CX E X RX3 cX3_welcome 7 0) (h : Hp) (a0 : Nat) (x1 : Int32) (x2 : Int32) (x3 : Int32) (x4 : Int32) (x5 : Int32) (oa0 : OKr a0 3) (hs : b_X3_welcome_14  h a0 x1 x2 x3 x4 x5 = some res) (hR : RT E X (some .boolean) (some (.int res.1)) res.2) : GG l E X h 14 [(0, .ref (ad E a0)), (1, .int x1), (2, .int x2), (3, .int x3), (4, .int x4), (5, .int x5)] [] := by
  refine g_iconst C dX3_welcome_14 cc_i_1 ?_
  refine g_goto (tgt := 19) C dX3_welcome_15 (by decide) ?_
  exact wb_X3_welcome_19 C h a0 x1 x2 x3 x4 x5 (1 : Int32) oa0 hs hR
set_option maxHeartbeats 4000000 in
set_option maxRecDepth 100000 in
theorem w_X3_welcome (l : Launch) (E : Ep) (h : Hp) (a0 : Nat) (x1 : Int32) (x2 : Int32) (x3 : Int32) (x4 : Int32) (x5 : Int32) (res : Int32 × Hp) (oa0 : OKr a0 3) (hs : sh_X3_welcome h a0 x1 x2 x3 x4 x5 = some res) : MG l E yX3_welcome cX3_welcome 7 (some .boolean) 0 [.ref (ad E a0), .int x1, .int x2, .int x3, .int x4, .int x5] h (some (.int res.1)) res.2 := by
  refine MG.of (by decide) (Nat.le_of_ble_eq_true rfl) ?_
  intro X C hR
  have C : CX E X RX3 cX3_welcome 7 0 := C
  show GG l E X h 0 [(0, .ref (ad E a0)), (1, .int x1), (2, .int x2), (3, .int x3), (4, .int x4), (5, .int x5)] []
  refine g_iload_n C 3 dX3_welcome_0 rfl rfl ?_
  refine g_bipush C dX3_welcome_1 cc_b_9 ?_
  refine g_icmp_eq (tgt := 14) C dX3_welcome_3 (by decide) hs (fun hs => ?_) (fun hs => ?_)
  · exact wb_X3_welcome_14 C h a0 x1 x2 x3 x4 x5 oa0 hs hR
  · refine g_iload_n C 3 dX3_welcome_6 rfl rfl ?_
    refine g_aload_n C 0 dX3_welcome_7 rfl rfl ?_
    refine gf3_7 C oa0 lf_X3_47 dX3_welcome_8 ?_
    refine g_icmp_gt (tgt := 18) C dX3_welcome_11 (by decide) hs (fun hs => ?_) (fun hs => ?_)
    · refine g_iconst C dX3_welcome_18 cc_i_0 ?_
      exact wb_X3_welcome_19 C h a0 x1 x2 x3 x4 x5 (0 : Int32) oa0 hs hR
    · exact wb_X3_welcome_14 C h a0 x1 x2 x3 x4 x5 oa0 hs hR
set_option maxHeartbeats 4000000 in
set_option maxRecDepth 100000 in
theorem w_X4_comesInMind (l : Launch) (E : Ep) (h : Hp) (a0 : Nat) (x1 : Int32) (res : Int32 × Hp) (oa0 : OKr a0 4) (hs : sh_X4_comesInMind h a0 x1 = some res) : MG l E yX4_comesInMind cX4_comesInMind 7 (some .boolean) 5 [.ref (ad E a0), .int x1] h (some (.int res.1)) res.2 := by
  refine MG.of (by decide) (Nat.le_of_ble_eq_true rfl) ?_
  intro X C hR
  have C : CX E X RX4 cX4_comesInMind 7 5 := C
  show GG l E X h 0 [(0, .ref (ad E a0)), (1, .int x1)] []
  refine g_aload_n C 0 dX4_comesInMind_0 rfl rfl ?_
  refine gf4_4 C oa0 lf_X4_32 dX4_comesInMind_1 ?_
  refine g_iload_n C 1 dX4_comesInMind_4 rfl rfl ?_
  refine g_iconst C dX4_comesInMind_5 cc_i_1 ?_
  refine g_iadd C dX4_comesInMind_6 ?_
  obtain ⟨v1, hcv1, hs⟩ := bnd hs
  refine g_cVN (As := [.int (x1 + (1 : Int32))]) (rest := []) C (w_X1_digit l E _ _ _ _ (tg4_4 oa0) hcv1) mw_X1_digit lm_X4_241 (tg4_4 oa0) rfl (ce1 E _ ((tg4_4 oa0)).2) rfl (by decide) rfl (Nat.le_of_ble_eq_true rfl) dX4_comesInMind_7 rfl ?_
  refine g_istore_n (lv' := [(2, .int v1), (0, .ref (ad E a0)), (1, .int x1)]) C dX4_comesInMind_10 rfl (by decide) rfl ?_
  refine g_aload_n C 1 dX4_comesInMind_11 rfl rfl ?_
  refine gf4_4 C oa0 lf_X4_32 dX4_comesInMind_12 ?_
  refine g_iload_n C 2 dX4_comesInMind_15 rfl rfl ?_
  refine g_iconst C dX4_comesInMind_16 cc_i_2 ?_
  refine g_iadd C dX4_comesInMind_17 ?_
  obtain ⟨v2, hcv2, hs⟩ := bnd hs
  refine g_cVN (As := [.int (x1 + (2 : Int32))]) (rest := []) C (w_X1_digit l E _ _ _ _ (tg4_4 oa0) hcv2) mw_X1_digit lm_X4_241 (tg4_4 oa0) rfl (ce1 E _ ((tg4_4 oa0)).2) rfl (by decide) rfl (Nat.le_of_ble_eq_true rfl) dX4_comesInMind_18 rfl ?_
  refine g_istore_n (lv' := [(3, .int v2), (2, .int v1), (0, .ref (ad E a0)), (1, .int x1)]) C dX4_comesInMind_21 rfl (by decide) rfl ?_
  refine g_aload_n C 2 dX4_comesInMind_22 rfl rfl ?_
  refine gf4_4 C oa0 lf_X4_32 dX4_comesInMind_23 ?_
  refine g_iload_n C 3 dX4_comesInMind_26 rfl rfl ?_
  refine g_iconst C dX4_comesInMind_27 cc_i_3 ?_
  refine g_iadd C dX4_comesInMind_28 ?_
  obtain ⟨v3, hcv3, hs⟩ := bnd hs
  refine g_cVN (As := [.int (x1 + (3 : Int32))]) (rest := []) C (w_X1_digit l E _ _ _ _ (tg4_4 oa0) hcv3) mw_X1_digit lm_X4_241 (tg4_4 oa0) rfl (ce1 E _ ((tg4_4 oa0)).2) rfl (by decide) rfl (Nat.le_of_ble_eq_true rfl) dX4_comesInMind_29 rfl ?_
  refine g_istore (lv' := [(4, .int v3), (3, .int v2), (2, .int v1), (0, .ref (ad E a0)), (1, .int x1)]) C dX4_comesInMind_32 (by decide) rfl ?_
  refine g_aload_n C 3 dX4_comesInMind_34 rfl rfl ?_
  refine gf4_4 C oa0 lf_X4_32 dX4_comesInMind_35 ?_
  refine g_bipush C dX4_comesInMind_38 cc_b_108 ?_
  refine g_iload_n C 4 dX4_comesInMind_40 rfl rfl ?_
  obtain ⟨v4, hcv4, hs⟩ := bnd hs
  refine g_cVN (As := [.int (108 : Int32), .int x1]) (rest := []) C (w_X1_isAt l E _ _ _ _ _ (tg4_4 oa0) hcv4) mw_X1_isAt lm_X4_244 (tg4_4 oa0) rfl (ce1 E _ ((tg4_4 oa0)).2) rfl (by decide) rfl (Nat.le_of_ble_eq_true rfl) dX4_comesInMind_41 rfl ?_
  refine g_if_eq (tgt := 59) C dX4_comesInMind_44 (by decide) hs (fun hs => ?_) (fun hs => ?_)
  · refine g_aload_n C 3 dX4_comesInMind_59 rfl rfl ?_
    refine gf4_4 C oa0 lf_X4_32 dX4_comesInMind_60 ?_
    refine g_iload_n C 4 dX4_comesInMind_63 rfl rfl ?_
    refine g_iconst C dX4_comesInMind_64 cc_i_4 ?_
    refine g_iadd C dX4_comesInMind_65 ?_
    obtain ⟨v5, hcv5, hs⟩ := bnd hs
    refine g_cVN (As := [.int (x1 + (4 : Int32))]) (rest := []) C (w_X1_number l E _ _ _ _ (tg4_4 oa0) hcv5) mw_X1_number lm_X4_252 (tg4_4 oa0) rfl (ce1 E _ ((tg4_4 oa0)).2) rfl (by decide) rfl (Nat.le_of_ble_eq_true rfl) dX4_comesInMind_66 rfl ?_
    refine g_istore (lv' := [(5, .int v5), (4, .int v3), (3, .int v2), (2, .int v1), (0, .ref (ad E a0)), (1, .int x1)]) C dX4_comesInMind_69 (by decide) rfl ?_
    refine g_aload_n C 4 dX4_comesInMind_71 rfl rfl ?_
    refine gf4_4 C oa0 lf_X4_32 dX4_comesInMind_72 ?_
    refine g_aload_n C 4 dX4_comesInMind_75 rfl rfl ?_
    refine gf4_4 C oa0 lf_X4_32 dX4_comesInMind_76 ?_
    refine g_bipush C dX4_comesInMind_79 cc_b_44 ?_
    refine g_iload_n C 5 dX4_comesInMind_81 rfl rfl ?_
    obtain ⟨v6, hcv6, hs⟩ := bnd hs
    refine g_cVN (As := [.int (44 : Int32), .int x1]) (rest := [.ref (ad E (rf a0 4))]) C (w_X1_next l E _ _ _ _ _ (tg4_4 oa0) hcv6) mw_X1_next lm_X4_238 (tg4_4 oa0) rfl (ce1 E _ ((tg4_4 oa0)).2) rfl (by decide) rfl (Nat.le_of_ble_eq_true rfl) dX4_comesInMind_82 rfl ?_
    refine g_iconst C dX4_comesInMind_85 cc_i_1 ?_
    refine g_iadd C dX4_comesInMind_86 ?_
    obtain ⟨v7, hcv7, hs⟩ := bnd hs
    refine g_cVN (As := [.int (v6 + (1 : Int32))]) (rest := []) C (w_X1_number l E _ _ _ _ (tg4_4 oa0) hcv7) mw_X1_number lm_X4_252 (tg4_4 oa0) rfl (ce1 E _ ((tg4_4 oa0)).2) rfl (by decide) rfl (Nat.le_of_ble_eq_true rfl) dX4_comesInMind_87 rfl ?_
    refine g_istore (lv' := [(6, .int v7), (5, .int v5), (4, .int v3), (3, .int v2), (2, .int v1), (0, .ref (ad E a0)), (1, .int x1)]) C dX4_comesInMind_90 (by decide) rfl ?_
    refine g_aload_n C 5 dX4_comesInMind_92 rfl rfl ?_
    refine gf4_2 C oa0 lf_X4_19 dX4_comesInMind_93 ?_
    refine g_iload_n C 4 dX4_comesInMind_96 rfl rfl ?_
    refine g_iload_n C 3 dX4_comesInMind_97 rfl rfl ?_
    refine g_iload C 2 dX4_comesInMind_98 rfl ?_
    refine g_iload C 1 dX4_comesInMind_100 rfl ?_
    refine g_iload C 0 dX4_comesInMind_102 rfl ?_
    obtain ⟨q8, hcq8, hs⟩ := bnd hs
    refine g_cVN (As := [.int v1, .int v2, .int v3, .int v5, .int v7]) (rest := []) C (w_X3_welcome l E _ _ _ _ _ _ _ _ (tg4_2 oa0) hcq8) mw_X3_welcome lm_X4_255 (tg4_2 oa0) rfl (ce3 E _ ((tg4_2 oa0)).2) rfl (by decide) rfl (Nat.le_of_ble_eq_true rfl) dX4_comesInMind_104 rfl ?_
    obtain ⟨v9, hbv9, hs⟩ := bnd hs
    obtain ⟨hzv9, hyv9⟩ := bol_v hbv9
    have e9 := Option.some.inj hs
    subst e9
    refine g_top hyv9 ?_
    exact g_zret C hzv9 hR dX4_comesInMind_107
  · refine g_aload_n C 3 dX4_comesInMind_47 rfl rfl ?_
    refine gf4_2 C oa0 lf_X4_19 dX4_comesInMind_48 ?_
    refine g_iload_n C 2 dX4_comesInMind_51 rfl rfl ?_
    refine g_iload_n C 1 dX4_comesInMind_52 rfl rfl ?_
    refine g_iload C 0 dX4_comesInMind_53 rfl ?_
    obtain ⟨q10, hcq10, hs⟩ := bnd hs
    refine g_cVN (As := [.int v1, .int v2, .int v3]) (rest := []) C (w_X3_takeLaw l E _ _ _ _ _ _ (tg4_2 oa0) hcq10) mw_X3_takeLaw lm_X4_248 (tg4_2 oa0) rfl (ce3 E _ ((tg4_2 oa0)).2) rfl (by decide) rfl (Nat.le_of_ble_eq_true rfl) dX4_comesInMind_55 rfl ?_
    obtain ⟨v11, hbv11, hs⟩ := bnd hs
    obtain ⟨hzv11, hyv11⟩ := bol_v hbv11
    have e9 := Option.some.inj hs
    subst e9
    refine g_top hyv11 ?_
    exact g_zret C hzv11 hR dX4_comesInMind_58
set_option maxHeartbeats 4000000 in
set_option maxRecDepth 100000 in
theorem wb_X4_readLand_90 {l : Launch} {E : Ep} {X : Fx} {res : Int32 × Hp} (C : CX E X RX4 cX4_readLand 5 6) (h : Hp) (a0 : Nat) (x2 : Int32) (oa0 : OKr a0 4) (hs : b_X4_readLand_90  h a0 x2 = some res) (hR : RT E X (some .int) (some (.int res.1)) res.2) : GG l E X h 90 [(0, .ref (ad E a0)), (2, .int x2)] [] := by
  refine g_aload_n C 0 dX4_readLand_90 rfl rfl ?_
  refine gf4_0 C oa0 lf_X4_10 dX4_readLand_91 ?_
  refine g_aload_n C 0 dX4_readLand_94 rfl rfl ?_
  refine gf4_2 C oa0 lf_X4_19 dX4_readLand_95 ?_
  obtain ⟨h1, hch1, hs⟩ := bnd hs
  refine g_cVN (As := [.ref (ad E (rf a0 2))]) (rest := []) C (w_X3_become l E _ _ _ _ (tg4_0 oa0) (tg4_2 oa0) hch1) mw_X3_become lm_X4_149 (tg4_0 oa0) rfl (ce3 E _ ((tg4_0 oa0)).2) rfl (by decide) rfl (Nat.le_of_ble_eq_true rfl) dX4_readLand_98 rfl ?_
  refine g_iload_n C 1 dX4_readLand_101 rfl rfl ?_
  have e9 := Option.some.inj hs
  subst e9
  exact g_iret C hR dX4_readLand_102
set_option maxHeartbeats 4000000 in
set_option maxRecDepth 100000 in
theorem wb_X4_readLand_36 {l : Launch} {E : Ep} {X : Fx} {res : Int32 × Hp} (C : CX E X RX4 cX4_readLand 5 6) : ∀ (n : Nat) (h : Hp) (a0 : Nat) (x2 : Int32) (x3 : Int32) (x4 : Int32) (oa0 : OKr a0 4), b_X4_readLand_36  n h a0 x2 x3 x4 = some res → RT E X (some .int) (some (.int res.1)) res.2 → GG l E X h 36 [(0, .ref (ad E a0)), (2, .int x2), (3, .int x3), (4, .int x4)] [] := by
  intro n
  induction n with
  | zero =>
    intro h a0 x2 x3 x4 oa0
    intro hs
    exact absurd hs (by intro e; cases e)
  | succ n ih =>
    intro h a0 x2 x3 x4 oa0 hs hR
    have hk36 := ih
    have hs : f_X4_readLand_36  (b_X4_readLand_36  n) h a0 x2 x3 x4 = some res := hs
    generalize b_X4_readLand_36  n = k36 at hs hk36
    refine g_iload C 3 dX4_readLand_36 rfl ?_
    refine g_bipush C dX4_readLand_38 cc_b_64 ?_
    refine g_icmp_ge (tgt := 90) C dX4_readLand_40 (by decide) hs (fun hs => ?_) (fun hs => ?_)
    · refine g_sub [0, 1] rfl ?_
      exact wb_X4_readLand_90 C h a0 x2 oa0 hs hR
    · refine g_iload_n C 2 dX4_readLand_43 rfl rfl ?_
      refine g_aload_n C 0 dX4_readLand_44 rfl rfl ?_
      refine gf4_4 C oa0 lf_X4_32 dX4_readLand_45 ?_
      refine gf1_1N C (tg4_4 oa0) lf_X4_223 dX4_readLand_48 ?_
      refine g_icmp_ge (tgt := 90) C dX4_readLand_51 (by decide) hs (fun hs => ?_) (fun hs => ?_)
      · refine g_sub [0, 1] rfl ?_
        exact wb_X4_readLand_90 C h a0 x2 oa0 hs hR
      · refine g_aload_n C 0 dX4_readLand_54 rfl rfl ?_
        refine g_iload_n C 2 dX4_readLand_55 rfl rfl ?_
        obtain ⟨q1, hcq1, hs⟩ := bnd hs
        refine g_cV (As := [.int x3]) (rest := []) C (w_X4_comesInMind l E _ _ _ _ oa0 hcq1) mw_X4_comesInMind lm_X4_235 oa0 rfl (ce4 E _ (oa0).2) rfl (by decide) rfl (Nat.le_of_ble_eq_true rfl) dX4_readLand_56 rfl ?_
        refine g_if_ne (tgt := 68) C dX4_readLand_59 (by decide) hs (fun hs => ?_) (fun hs => ?_)
        · refine g_sipush C dX4_readLand_62 cc_s_m2000 ?_
          refine g_iload_n C 2 dX4_readLand_65 rfl rfl ?_
          refine g_isub C dX4_readLand_66 ?_
          have e9 := Option.some.inj hs
          subst e9
          exact g_iret C hR dX4_readLand_67
        · refine g_iinc (lv' := [(2, .int (x2 + (1 : Int32))), (0, .ref (ad E a0)), (3, .int x3), (4, .int x4)]) (j := 1) C dX4_readLand_68 rfl (cc_n_1 _) (by decide) rfl ?_
          refine g_aload_n C 1 dX4_readLand_71 rfl rfl ?_
          refine gf4_4 C oa0 lf_X4_32 dX4_readLand_72 ?_
          refine g_bipush C dX4_readLand_75 cc_b_59 ?_
          refine g_iload_n C 2 dX4_readLand_77 rfl rfl ?_
          obtain ⟨v2, hcv2, hs⟩ := bnd hs
          refine g_cVN (As := [.int (59 : Int32), .int x3]) (rest := []) C (w_X1_next l E _ _ _ _ _ (tg4_4 oa0) hcv2) mw_X1_next lm_X4_238 (tg4_4 oa0) rfl (ce1 E _ ((tg4_4 oa0)).2) rfl (by decide) rfl (Nat.le_of_ble_eq_true rfl) dX4_readLand_78 rfl ?_
          refine g_iconst C dX4_readLand_81 cc_i_1 ?_
          refine g_iadd C dX4_readLand_82 ?_
          refine g_istore_n (lv' := [(3, .int (v2 + (1 : Int32))), (2, .int (x2 + (1 : Int32))), (0, .ref (ad E a0)), (4, .int x4)]) C dX4_readLand_83 rfl (by decide) rfl ?_
          refine g_iinc (lv' := [(4, .int (x4 + (1 : Int32))), (3, .int (v2 + (1 : Int32))), (2, .int (x2 + (1 : Int32))), (0, .ref (ad E a0))]) (j := 3) C dX4_readLand_84 rfl (cc_n_1 _) (by decide) rfl ?_
          refine g_goto (tgt := 36) C dX4_readLand_87 (by decide) ?_
          refine g_sub [3, 2, 1, 0] rfl ?_
          exact hk36 q1.2 a0 (x2 + (1 : Int32)) (v2 + (1 : Int32)) (x4 + (1 : Int32)) oa0 hs hR
set_option maxHeartbeats 4000000 in
set_option maxRecDepth 100000 in
theorem w_X4_readLand (l : Launch) (E : Ep) (h : Hp) (a0 : Nat) (res : Int32 × Hp) (oa0 : OKr a0 4) (hs : sh_X4_readLand h a0 = some res) : MG l E yX4_readLand cX4_readLand 5 (some .int) 6 [.ref (ad E a0)] h (some (.int res.1)) res.2 := by
  refine MG.of (by decide) (Nat.le_of_ble_eq_true rfl) ?_
  intro X C hR
  have C : CX E X RX4 cX4_readLand 5 6 := C
  show GG l E X h 0 [(0, .ref (ad E a0))] []
  refine g_aload_n C 0 dX4_readLand_0 rfl rfl ?_
  refine gf4_4 C oa0 lf_X4_32 dX4_readLand_1 ?_
  obtain ⟨q1, hcq1, hs⟩ := bnd hs
  refine g_cVN (As := []) (rest := []) C (w_X1_firstUnfit l E _ _ _ (tg4_4 oa0) hcq1) mw_X1_firstUnfit lm_X4_232 (tg4_4 oa0) rfl (ce1 E _ ((tg4_4 oa0)).2) rfl (by decide) rfl (Nat.le_of_ble_eq_true rfl) dX4_readLand_4 rfl ?_
  refine g_istore_n (lv' := [(1, .int q1.1), (0, .ref (ad E a0))]) C dX4_readLand_7 rfl (by decide) rfl ?_
  refine g_iload_n C 0 dX4_readLand_8 rfl rfl ?_
  refine g_if_lt (tgt := 18) C dX4_readLand_9 (by decide) hs (fun hs => ?_) (fun hs => ?_)
  · refine g_aload_n C 1 dX4_readLand_18 rfl rfl ?_
    refine gf4_2 C oa0 lf_X4_19 dX4_readLand_19 ?_
    refine g_aload_n C 1 dX4_readLand_22 rfl rfl ?_
    refine gf4_0 C oa0 lf_X4_10 dX4_readLand_23 ?_
    obtain ⟨h2, hch2, hs⟩ := bnd hs
    refine g_cVN (As := [.ref (ad E (rf a0 0))]) (rest := []) C (w_X3_become l E _ _ _ _ (tg4_2 oa0) (tg4_0 oa0) hch2) mw_X3_become lm_X4_149 (tg4_2 oa0) rfl (ce3 E _ ((tg4_2 oa0)).2) rfl (by decide) rfl (Nat.le_of_ble_eq_true rfl) dX4_readLand_26 rfl ?_
    refine g_iconst C dX4_readLand_29 cc_i_0 ?_
    refine g_istore_n (lv' := [(2, .int (0 : Int32)), (1, .int q1.1), (0, .ref (ad E a0))]) C dX4_readLand_30 rfl (by decide) rfl ?_
    refine g_iconst C dX4_readLand_31 cc_i_0 ?_
    refine g_istore_n (lv' := [(3, .int (0 : Int32)), (2, .int (0 : Int32)), (1, .int q1.1), (0, .ref (ad E a0))]) C dX4_readLand_32 rfl (by decide) rfl ?_
    refine g_iconst C dX4_readLand_33 cc_i_0 ?_
    refine g_istore (lv' := [(4, .int (0 : Int32)), (3, .int (0 : Int32)), (2, .int (0 : Int32)), (1, .int q1.1), (0, .ref (ad E a0))]) C dX4_readLand_34 (by decide) rfl ?_
    refine g_sub [4, 2, 1, 0] rfl ?_
    exact wb_X4_readLand_36 C 1000 h2 a0 (0 : Int32) (0 : Int32) (0 : Int32) oa0 hs hR
  · refine g_sipush C dX4_readLand_12 cc_s_m1000 ?_
    refine g_iload_n C 0 dX4_readLand_15 rfl rfl ?_
    refine g_isub C dX4_readLand_16 ?_
    have e9 := Option.some.inj hs
    subst e9
    exact g_iret C hR dX4_readLand_17
set_option maxHeartbeats 4000000 in
set_option maxRecDepth 100000 in
theorem w_X1_forget (l : Launch) (E : Ep) (h : Hp) (a0 : Nat) (res : Hp) (oa0 : OKr a0 1) (hs : sh_X1_forget h a0 = some res) : MG l E yX1_forget cX1_forget 1 none 0 [.ref (ad E a0)] h none res := by
  refine MG.of (by decide) (Nat.le_of_ble_eq_true rfl) ?_
  intro X C hR
  have C : CX E X RX1 cX1_forget 1 0 := C
  show GG l E X h 0 [(0, .ref (ad E a0))] []
  refine g_aload_n C 0 dX1_forget_0 rfl rfl ?_
  refine g_iconst C dX1_forget_1 cc_i_0 ?_
  refine pf1_1 C oa0 lf_X1_13 dX1_forget_2 ?_
  have e9 := Option.some.inj hs
  subst e9
  exact g_vret C hR dX1_forget_5
set_option maxHeartbeats 4000000 in
set_option maxRecDepth 100000 in
theorem w_X4_land (l : Launch) (E : Ep) (h : Hp) (a0 : Nat) (res : Int32 × Hp) (oa0 : OKr a0 4) (hs : sh_X4_land h a0 = some res) : MG l E yX4_land cX4_land 2 (some .int) 7 [.ref (ad E a0)] h (some (.int res.1)) res.2 := by
  refine MG.of (by decide) (Nat.le_of_ble_eq_true rfl) ?_
  intro X C hR
  have C : CX E X RX4 cX4_land 2 7 := C
  show GG l E X h 0 [(0, .ref (ad E a0))] []
  refine g_aload_n C 0 dX4_land_0 rfl rfl ?_
  obtain ⟨q1, hcq1, hs⟩ := bnd hs
  refine g_cV (As := []) (rest := []) C (w_X4_readLand l E _ _ _ oa0 hcq1) mw_X4_readLand lm_X4_57 oa0 rfl (ce4 E _ (oa0).2) rfl (by decide) rfl (Nat.le_of_ble_eq_true rfl) dX4_land_1 rfl ?_
  refine g_istore_n (lv' := [(1, .int q1.1), (0, .ref (ad E a0))]) C dX4_land_4 rfl (by decide) rfl ?_
  refine g_aload_n C 1 dX4_land_5 rfl rfl ?_
  refine gf4_4 C oa0 lf_X4_32 dX4_land_6 ?_
  obtain ⟨h2, hch2, hs⟩ := bnd hs
  refine g_cVN (As := []) (rest := []) C (w_X1_forget l E _ _ _ (tg4_4 oa0) hch2) mw_X1_forget lm_X4_61 (tg4_4 oa0) rfl (ce1 E _ ((tg4_4 oa0)).2) rfl (by decide) rfl (Nat.le_of_ble_eq_true rfl) dX4_land_9 rfl ?_
  refine g_iload_n C 0 dX4_land_12 rfl rfl ?_
  have e9 := Option.some.inj hs
  subst e9
  exact g_iret C hR dX4_land_13
set_option maxHeartbeats 4000000 in
set_option maxRecDepth 100000 in
theorem wb_X3_exists_17 {l : Launch} {E : Ep} {X : Fx} {res : Int32} (C : CX E X RX3 cX3_exists 2 0) (h : Hp) (s0 : Int32) (hs : b_X3_exists_17  h s0 = some res) (hR : RT E X (some .boolean) (some (.int res)) h) : GG l E X h 17 [] [.int s0] := by
  obtain ⟨v1, hbv1, hs⟩ := bnd hs
  obtain ⟨hzv1, hyv1⟩ := bol_v hbv1
  have e9 := Option.some.inj hs
  subst e9
  refine g_top hyv1 ?_
  exact g_zret C hzv1 hR dX3_exists_17
set_option maxHeartbeats 4000000 in
set_option maxRecDepth 100000 in
theorem wb_X3_exists_16 {l : Launch} {E : Ep} {X : Fx} {res : Int32} (C : CX E X RX3 cX3_exists 2 0) (h : Hp) (hs : b_X3_exists_16  h  = some res) (hR : RT E X (some .boolean) (some (.int res)) h) : GG l E X h 16 [] [] := by
  refine g_iconst C dX3_exists_16 cc_i_0 ?_
  exact wb_X3_exists_17 C h (0 : Int32) hs hR
set_option maxHeartbeats 4000000 in
set_option maxRecDepth 100000 in
theorem w_X3_exists (l : Launch) (E : Ep) (h : Hp) (a0 : Nat) (x1 : Int32) (res : Int32) (oa0 : OKr a0 3) (hs : sh_X3_exists h a0 x1 = some res) : MG l E yX3_exists cX3_exists 2 (some .boolean) 0 [.ref (ad E a0), .int x1] h (some (.int res)) h := by
  refine MG.of (by decide) (Nat.le_of_ble_eq_true rfl) ?_
  intro X C hR
  have C : CX E X RX3 cX3_exists 2 0 := C
  show GG l E X h 0 [(0, .ref (ad E a0)), (1, .int x1)] []
  refine g_iload_n C 1 dX3_exists_0 rfl rfl ?_
  refine g_if_lt (tgt := 16) C dX3_exists_1 (by decide) hs (fun hs => ?_) (fun hs => ?_)
  · refine g_sub [] rfl ?_
    exact wb_X3_exists_16 C h hs hR
  · refine g_iload_n C 1 dX3_exists_4 rfl rfl ?_
    refine g_aload_n C 0 dX3_exists_5 rfl rfl ?_
    refine gf3_7 C oa0 lf_X3_47 dX3_exists_6 ?_
    refine g_icmp_ge (tgt := 16) C dX3_exists_9 (by decide) hs (fun hs => ?_) (fun hs => ?_)
    · refine g_sub [] rfl ?_
      exact wb_X3_exists_16 C h hs hR
    · refine g_iconst C dX3_exists_12 cc_i_1 ?_
      refine g_goto (tgt := 17) C dX3_exists_13 (by decide) ?_
      refine g_sub [] rfl ?_
      exact wb_X3_exists_17 C h (1 : Int32) hs hR
set_option maxHeartbeats 4000000 in
set_option maxRecDepth 100000 in
theorem wb_X0_got_5 {l : Launch} {E : Ep} {X : Fx} {res : Int32} (C : CX E X RX0 cX0_got 5 0) : ∀ (n : Nat) (h : Hp) (a0 : Nat) (x1 : Int32) (x2 : Int32) (x3 : Int32) (x4 : Int32) (oa0 : OKr a0 0), b_X0_got_5  n h a0 x1 x2 x3 x4 = some res → RT E X (some .int) (some (.int res)) h → GG l E X h 5 [(0, .ref (ad E a0)), (1, .int x1), (2, .int x2), (3, .int x3), (4, .int x4)] [] := by
  intro n
  induction n with
  | zero =>
    intro h a0 x1 x2 x3 x4 oa0
    intro hs
    exact absurd hs (by intro e; cases e)
  | succ n ih =>
    intro h a0 x1 x2 x3 x4 oa0 hs hR
    have hk5 := ih
    have hs : f_X0_got_5  (b_X0_got_5  n) h a0 x1 x2 x3 x4 = some res := hs
    generalize b_X0_got_5  n = k5 at hs hk5
    refine g_iload C 4 dX0_got_5 rfl ?_
    refine g_bipush C dX0_got_7 cc_b_6 ?_
    refine g_icmp_ge (tgt := 38) C dX0_got_9 (by decide) hs (fun hs => ?_) (fun hs => ?_)
    · refine g_iload_n C 3 dX0_got_38 rfl rfl ?_
      have e9 := Option.some.inj hs
      subst e9
      exact g_iret C hR dX0_got_39
    · refine g_iload_n C 3 dX0_got_12 rfl rfl ?_
      refine g_aload_n C 0 dX0_got_13 rfl rfl ?_
      refine gf0_0 C oa0 lf_X0_11 dX0_got_14 ?_
      refine g_iload_n C 1 dX0_got_17 rfl rfl ?_
      refine g_bipush C dX0_got_18 cc_b_42 ?_
      refine g_imul C dX0_got_20 ?_
      refine g_iload C 4 dX0_got_21 rfl ?_
      refine g_bipush C dX0_got_23 cc_b_7 ?_
      refine g_imul C dX0_got_25 ?_
      refine g_iadd C dX0_got_26 ?_
      refine g_iload_n C 2 dX0_got_27 rfl rfl ?_
      refine g_iadd C dX0_got_28 ?_
      refine g_iald C (tg0_0 oa0) dX0_got_29 hs (fun v1 hs => ?_)
      refine g_iadd C dX0_got_30 ?_
      refine g_istore_n (lv' := [(3, .int (x3 + v1)), (0, .ref (ad E a0)), (1, .int x1), (2, .int x2), (4, .int x4)]) C dX0_got_31 rfl (by decide) rfl ?_
      refine g_iinc (lv' := [(4, .int (x4 + (1 : Int32))), (3, .int (x3 + v1)), (0, .ref (ad E a0)), (1, .int x1), (2, .int x2)]) (j := 4) C dX0_got_32 rfl (cc_n_1 _) (by decide) rfl ?_
      refine g_goto (tgt := 5) C dX0_got_35 (by decide) ?_
      refine g_sub [2, 3, 4, 1, 0] rfl ?_
      exact hk5 h a0 x1 x2 (x3 + v1) (x4 + (1 : Int32)) oa0 hs hR
set_option maxHeartbeats 4000000 in
set_option maxRecDepth 100000 in
theorem w_X0_got (l : Launch) (E : Ep) (h : Hp) (a0 : Nat) (x1 : Int32) (x2 : Int32) (res : Int32) (oa0 : OKr a0 0) (hs : sh_X0_got h a0 x1 x2 = some res) : MG l E yX0_got cX0_got 5 (some .int) 0 [.ref (ad E a0), .int x1, .int x2] h (some (.int res)) h := by
  refine MG.of (by decide) (Nat.le_of_ble_eq_true rfl) ?_
  intro X C hR
  have C : CX E X RX0 cX0_got 5 0 := C
  show GG l E X h 0 [(0, .ref (ad E a0)), (1, .int x1), (2, .int x2)] []
  refine g_iconst C dX0_got_0 cc_i_0 ?_
  refine g_istore_n (lv' := [(3, .int (0 : Int32)), (0, .ref (ad E a0)), (1, .int x1), (2, .int x2)]) C dX0_got_1 rfl (by decide) rfl ?_
  refine g_iconst C dX0_got_2 cc_i_0 ?_
  refine g_istore (lv' := [(4, .int (0 : Int32)), (3, .int (0 : Int32)), (0, .ref (ad E a0)), (1, .int x1), (2, .int x2)]) C dX0_got_3 (by decide) rfl ?_
  refine g_sub [2, 3, 4, 1, 0] rfl ?_
  exact wb_X0_got_5 C 1000 h a0 x1 x2 (0 : Int32) (0 : Int32) oa0 hs hR
set_option maxHeartbeats 4000000 in
set_option maxRecDepth 100000 in
theorem w_X0_gotToday (l : Launch) (E : Ep) (h : Hp) (a0 : Nat) (x1 : Int32) (res : Int32) (oa0 : OKr a0 0) (hs : sh_X0_gotToday h a0 x1 = some res) : MG l E yX0_gotToday cX0_gotToday 2 (some .int) 1 [.ref (ad E a0), .int x1] h (some (.int res)) h := by
  refine MG.of (by decide) (Nat.le_of_ble_eq_true rfl) ?_
  intro X C hR
  have C : CX E X RX0 cX0_gotToday 2 1 := C
  show GG l E X h 0 [(0, .ref (ad E a0)), (1, .int x1)] []
  refine g_aload_n C 0 dX0_gotToday_0 rfl rfl ?_
  refine g_iconst C dX0_gotToday_1 cc_i_0 ?_
  refine g_iload_n C 1 dX0_gotToday_2 rfl rfl ?_
  obtain ⟨v1, hcv1, hs⟩ := bnd hs
  refine g_cV (As := [.int (0 : Int32), .int x1]) (rest := []) C (w_X0_got l E _ _ _ _ _ oa0 hcv1) mw_X0_got lm_X0_28 oa0 rfl (ce0 E _ (oa0).2) rfl (by decide) rfl (Nat.le_of_ble_eq_true rfl) dX0_gotToday_3 rfl ?_
  have e9 := Option.some.inj hs
  subst e9
  exact g_iret C hR dX0_gotToday_6
set_option maxHeartbeats 4000000 in
set_option maxRecDepth 100000 in
theorem w_X0_countedYesterday (l : Launch) (E : Ep) (h : Hp) (a0 : Nat) (x1 : Int32) (res : Int32) (oa0 : OKr a0 0) (hs : sh_X0_countedYesterday h a0 x1 = some res) : MG l E yX0_countedYesterday cX0_countedYesterday 2 (some .int) 0 [.ref (ad E a0), .int x1] h (some (.int res)) h := by
  refine MG.of (by decide) (Nat.le_of_ble_eq_true rfl) ?_
  intro X C hR
  have C : CX E X RX0 cX0_countedYesterday 2 0 := C
  show GG l E X h 0 [(0, .ref (ad E a0)), (1, .int x1)] []
  refine g_aload_n C 0 dX0_countedYesterday_0 rfl rfl ?_
  refine gf0_1 C oa0 lf_X0_15 dX0_countedYesterday_1 ?_
  refine g_bipush C dX0_countedYesterday_4 cc_b_6 ?_
  refine g_iload_n C 1 dX0_countedYesterday_6 rfl rfl ?_
  refine g_iadd C dX0_countedYesterday_7 ?_
  refine g_iald C (tg0_1 oa0) dX0_countedYesterday_8 hs (fun v1 hs => ?_)
  have e9 := Option.some.inj hs
  subst e9
  exact g_iret C hR dX0_countedYesterday_9
set_option maxHeartbeats 4000000 in
set_option maxRecDepth 100000 in
theorem w_X3_bounded (l : Launch) (E : Ep) (h : Hp) (a0 : Nat) (x1 : Int32) (res : Int32) (oa0 : OKr a0 3) (hs : sh_X3_bounded h a0 x1 = some res) : MG l E yX3_bounded cX3_bounded 2 (some .int) 1 [.ref (ad E a0), .int x1] h (some (.int res)) h := by
  refine MG.of (by decide) (Nat.le_of_ble_eq_true rfl) ?_
  intro X C hR
  have C : CX E X RX3 cX3_bounded 2 1 := C
  show GG l E X h 0 [(0, .ref (ad E a0)), (1, .int x1)] []
  refine g_aload_n C 0 dX3_bounded_0 rfl rfl ?_
  refine gf3_5 C oa0 lf_X3_27 dX3_bounded_1 ?_
  refine g_iconst C dX3_bounded_4 cc_i_3 ?_
  refine g_iald C (tg3_5 oa0) dX3_bounded_5 hs (fun v1 hs => ?_)
  refine g_sipush C dX3_bounded_6 cc_s_9999 ?_
  refine g_iload_n C 1 dX3_bounded_9 rfl rfl ?_
  refine g_mmin C (by decide) dX3_bounded_10 lm_X3_91 kw_mmin_1 kw_math kw_mmin_2 (Nat.le_of_ble_eq_true rfl) ?_
  refine g_mmax C (by decide) dX3_bounded_13 lm_X3_96 kw_mmax_1 kw_math kw_mmax_2 (Nat.le_of_ble_eq_true rfl) ?_
  have e9 := Option.some.inj hs
  subst e9
  exact g_iret C hR dX3_bounded_16
set_option maxHeartbeats 4000000 in
set_option maxRecDepth 100000 in
theorem wb_X0_countedTogether_39 {l : Launch} {E : Ep} {X : Fx} {res : Int32} (C : CX E X RX0 cX0_countedTogether 5 0) (h : Hp) (x3 : Int32) (hs : b_X0_countedTogether_39  h x3 = some res) (hR : RT E X (some .int) (some (.int res)) h) : GG l E X h 39 [(3, .int x3)] [] := by
  refine g_iload_n C 0 dX0_countedTogether_39 rfl rfl ?_
  have e9 := Option.some.inj hs
  subst e9
  exact g_iret C hR dX0_countedTogether_40
set_option maxHeartbeats 4000000 in
set_option maxRecDepth 100000 in
theorem wb_X0_countedTogether_5 {l : Launch} {E : Ep} {X : Fx} {res : Int32} (C : CX E X RX0 cX0_countedTogether 5 0) : ∀ (n : Nat) (h : Hp) (a0 : Nat) (x1 : Int32) (x2 : Int32) (x3 : Int32) (x4 : Int32) (oa0 : OKr a0 0), b_X0_countedTogether_5  n h a0 x1 x2 x3 x4 = some res → RT E X (some .int) (some (.int res)) h → GG l E X h 5 [(0, .ref (ad E a0)), (1, .int x1), (2, .int x2), (3, .int x3), (4, .int x4)] [] := by
  intro n
  induction n with
  | zero =>
    intro h a0 x1 x2 x3 x4 oa0
    intro hs
    exact absurd hs (by intro e; cases e)
  | succ n ih =>
    intro h a0 x1 x2 x3 x4 oa0 hs hR
    have hk5 := ih
    have hs : f_X0_countedTogether_5  (b_X0_countedTogether_5  n) h a0 x1 x2 x3 x4 = some res := hs
    generalize b_X0_countedTogether_5  n = k5 at hs hk5
    refine g_iload C 4 dX0_countedTogether_5 rfl ?_
    refine g_iload_n C 1 dX0_countedTogether_7 rfl rfl ?_
    refine g_icmp_gt (tgt := 39) C dX0_countedTogether_8 (by decide) hs (fun hs => ?_) (fun hs => ?_)
    · refine g_sub [3] rfl ?_
      exact wb_X0_countedTogether_39 C h x3 hs hR
    · refine g_iload C 4 dX0_countedTogether_11 rfl ?_
      refine g_bipush C dX0_countedTogether_13 cc_b_6 ?_
      refine g_icmp_ge (tgt := 39) C dX0_countedTogether_15 (by decide) hs (fun hs => ?_) (fun hs => ?_)
      · refine g_sub [3] rfl ?_
        exact wb_X0_countedTogether_39 C h x3 hs hR
      · refine g_iload_n C 3 dX0_countedTogether_18 rfl rfl ?_
        refine g_aload_n C 0 dX0_countedTogether_19 rfl rfl ?_
        refine gf0_1 C oa0 lf_X0_15 dX0_countedTogether_20 ?_
        refine g_iload C 4 dX0_countedTogether_23 rfl ?_
        refine g_bipush C dX0_countedTogether_25 cc_b_6 ?_
        refine g_imul C dX0_countedTogether_27 ?_
        refine g_iload_n C 2 dX0_countedTogether_28 rfl rfl ?_
        refine g_iadd C dX0_countedTogether_29 ?_
        refine g_iald C (tg0_1 oa0) dX0_countedTogether_30 hs (fun v1 hs => ?_)
        refine g_iadd C dX0_countedTogether_31 ?_
        refine g_istore_n (lv' := [(3, .int (x3 + v1)), (0, .ref (ad E a0)), (1, .int x1), (2, .int x2), (4, .int x4)]) C dX0_countedTogether_32 rfl (by decide) rfl ?_
        refine g_iinc (lv' := [(4, .int (x4 + (1 : Int32))), (3, .int (x3 + v1)), (0, .ref (ad E a0)), (1, .int x1), (2, .int x2)]) (j := 4) C dX0_countedTogether_33 rfl (cc_n_1 _) (by decide) rfl ?_
        refine g_goto (tgt := 5) C dX0_countedTogether_36 (by decide) ?_
        refine g_sub [2, 3, 4, 1, 0] rfl ?_
        exact hk5 h a0 x1 x2 (x3 + v1) (x4 + (1 : Int32)) oa0 hs hR
set_option maxHeartbeats 4000000 in
set_option maxRecDepth 100000 in
theorem w_X0_countedTogether (l : Launch) (E : Ep) (h : Hp) (a0 : Nat) (x1 : Int32) (x2 : Int32) (res : Int32) (oa0 : OKr a0 0) (hs : sh_X0_countedTogether h a0 x1 x2 = some res) : MG l E yX0_countedTogether cX0_countedTogether 5 (some .int) 0 [.ref (ad E a0), .int x1, .int x2] h (some (.int res)) h := by
  refine MG.of (by decide) (Nat.le_of_ble_eq_true rfl) ?_
  intro X C hR
  have C : CX E X RX0 cX0_countedTogether 5 0 := C
  show GG l E X h 0 [(0, .ref (ad E a0)), (1, .int x1), (2, .int x2)] []
  refine g_iconst C dX0_countedTogether_0 cc_i_0 ?_
  refine g_istore_n (lv' := [(3, .int (0 : Int32)), (0, .ref (ad E a0)), (1, .int x1), (2, .int x2)]) C dX0_countedTogether_1 rfl (by decide) rfl ?_
  refine g_iconst C dX0_countedTogether_2 cc_i_1 ?_
  refine g_istore (lv' := [(4, .int (1 : Int32)), (3, .int (0 : Int32)), (0, .ref (ad E a0)), (1, .int x1), (2, .int x2)]) C dX0_countedTogether_3 (by decide) rfl ?_
  refine g_sub [2, 3, 4, 1, 0] rfl ?_
  exact wb_X0_countedTogether_5 C 1000 h a0 x1 x2 (0 : Int32) (1 : Int32) oa0 hs hR
