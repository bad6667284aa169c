set_option maxHeartbeats 4000000 in
set_option maxRecDepth 100000 in
theorem wb_X5_byKind_60 {l : Launch} {E : Ep} {X : Fx} {res : Int32} (C : CX E X RX5 cX5_byKind 2 3) (h : Hp) (a0 : Nat) (x1 : Int32) (oa0 : OKr a0 5) (hs : b_X5_byKind_60  h a0 x1 = some res) (hR : RT E X (some .int) (some (.int res)) h) : GG l E X h 60 [(0, .ref (ad E a0)), (1, .int x1)] [] := by
  refine g_aload_n C 0 dX5_byKind_60 rfl rfl ?_
  refine gf5_10 C oa0 lf_X5_29 dX5_byKind_61 ?_
  refine g_iload_n C 1 dX5_byKind_64 rfl rfl ?_
  refine g_iald C (tg5_10 oa0) dX5_byKind_65 hs (fun v1 hs => ?_)
  have e9 := Option.some.inj hs
  subst e9
  exact g_iret C hR dX5_byKind_66
set_option maxHeartbeats 4000000 in
set_option maxRecDepth 100000 in
theorem wb_X5_byKind_107 {l : Launch} {E : Ep} {X : Fx} {res : Int32} (C : CX E X RX5 cX5_byKind 2 3) (h : Hp) (s0 : Int32) (hs : b_X5_byKind_107  h s0 = some res) (hR : RT E X (some .int) (some (.int res)) h) : GG l E X h 107 [] [.int s0] := by
  have e9 := Option.some.inj hs
  subst e9
  exact g_iret C hR dX5_byKind_107
set_option maxHeartbeats 4000000 in
set_option maxRecDepth 100000 in
theorem wb_X5_byKind_136 {l : Launch} {E : Ep} {X : Fx} {res : Int32} (C : CX E X RX5 cX5_byKind 2 3) (h : Hp) (s0 : Int32) (hs : b_X5_byKind_136  h s0 = some res) (hR : RT E X (some .int) (some (.int res)) h) : GG l E X h 136 [] [.int s0] := by
  have e9 := Option.some.inj hs
  subst e9
  exact g_iret C hR dX5_byKind_136
set_option maxHeartbeats 4000000 in
set_option maxRecDepth 100000 in
theorem w_X5_byKind (l : Launch) (E : Ep) (h : Hp) (a0 : Nat) (x1 : Int32) (res : Int32) (oa0 : OKr a0 5) (hs : sh_X5_byKind h a0 x1 = some res) : MG l E yX5_byKind cX5_byKind 2 (some .int) 3 [.ref (ad E a0), .int x1] h (some (.int res)) h := by
  refine MG.of (by decide) (Nat.le_of_ble_eq_true rfl) ?_
  intro X C hR
  have C : CX E X RX5 cX5_byKind 2 3 := C
  show GG l E X h 0 [(0, .ref (ad E a0)), (1, .int x1)] []
  refine g_aload_n C 0 dX5_byKind_0 rfl rfl ?_
  refine g_iload_n C 1 dX5_byKind_1 rfl rfl ?_
  obtain ⟨v1, hcv1, hs⟩ := bnd hs
  refine g_cV (As := [.int x1]) (rest := []) C (w_X5_target l E _ _ _ _ oa0 hcv1) mw_X5_target lm_X5_105 oa0 rfl (ce5 E _ (oa0).2) rfl (by decide) rfl (Nat.le_of_ble_eq_true rfl) dX5_byKind_2 rfl ?_
  refine g_iload_n C 1 dX5_byKind_5 rfl rfl ?_
  refine g_icmp_ne (tgt := 11) C dX5_byKind_6 (by decide) hs (fun hs => ?_) (fun hs => ?_)
  · refine g_iconst C dX5_byKind_9 cc_i_0 ?_
    have e9 := Option.some.inj hs
    subst e9
    exact g_iret C hR dX5_byKind_10
  · refine g_aload_n C 0 dX5_byKind_11 rfl rfl ?_
    refine gf5_6 C oa0 lf_X5_16 dX5_byKind_12 ?_
    refine g_iload_n C 1 dX5_byKind_15 rfl rfl ?_
    refine g_iald C (tg5_6 oa0) dX5_byKind_16 hs (fun v2 hs => ?_)
    refine g_case hs (fun hx17_1 hs => ?_) (fun hx17_1 hs => ?_)
    · refine g_tabIn (v := (1 : Int32)) (tgt := 60) C dX5_byKind_17 hx17_1 (by decide) (by decide) rfl (by decide) ?_
      exact wb_X5_byKind_60 C h a0 x1 oa0 hs hR
    refine g_case hs (fun hx17_2 hs => ?_) (fun hx17_2 hs => ?_)
    · refine g_tabIn (v := (2 : Int32)) (tgt := 67) C dX5_byKind_17 hx17_2 (by decide) (by decide) rfl (by decide) ?_
      refine g_aload_n C 0 dX5_byKind_67 rfl rfl ?_
      refine gf5_10 C oa0 lf_X5_29 dX5_byKind_68 ?_
      refine g_iload_n C 1 dX5_byKind_71 rfl rfl ?_
      refine g_iald C (tg5_10 oa0) dX5_byKind_72 hs (fun v3 hs => ?_)
      refine g_iconst C dX5_byKind_73 cc_i_2 ?_
      refine g_idivC C dX5_byKind_74 (by decide) ?_
      have e9 := Option.some.inj hs
      subst e9
      exact g_iret C hR dX5_byKind_75
    refine g_case hs (fun hx17_3 hs => ?_) (fun hx17_3 hs => ?_)
    · refine g_tabIn (v := (3 : Int32)) (tgt := 76) C dX5_byKind_17 hx17_3 (by decide) (by decide) rfl (by decide) ?_
      refine g_aload_n C 0 dX5_byKind_76 rfl rfl ?_
      refine g_iload_n C 1 dX5_byKind_77 rfl rfl ?_
      obtain ⟨v4, hcv4, hs⟩ := bnd hs
      refine g_cV (As := [.int x1]) (rest := []) C (w_X5_grown l E _ _ _ _ oa0 hcv4) mw_X5_grown lm_X5_109 oa0 rfl (ce5 E _ (oa0).2) rfl (by decide) rfl (Nat.le_of_ble_eq_true rfl) dX5_byKind_78 rfl ?_
      have e9 := Option.some.inj hs
      subst e9
      exact g_iret C hR dX5_byKind_81
    refine g_case hs (fun hx17_4 hs => ?_) (fun hx17_4 hs => ?_)
    · refine g_tabIn (v := (4 : Int32)) (tgt := 60) C dX5_byKind_17 hx17_4 (by decide) (by decide) rfl (by decide) ?_
      exact wb_X5_byKind_60 C h a0 x1 oa0 hs hR
    refine g_case hs (fun hx17_5 hs => ?_) (fun hx17_5 hs => ?_)
    · refine g_tabIn (v := (5 : Int32)) (tgt := 82) C dX5_byKind_17 hx17_5 (by decide) (by decide) rfl (by decide) ?_
      refine g_aload_n C 0 dX5_byKind_82 rfl rfl ?_
      refine gf5_1 C oa0 lf_X5_78 dX5_byKind_83 ?_
      refine g_bipush C dX5_byKind_86 cc_b_10 ?_
      refine g_aload_n C 0 dX5_byKind_88 rfl rfl ?_
      refine gf5_7 C oa0 lf_X5_20 dX5_byKind_89 ?_
      refine g_iload_n C 1 dX5_byKind_92 rfl rfl ?_
      refine g_iald C (tg5_7 oa0) dX5_byKind_93 hs (fun v5 hs => ?_)
      refine g_imul C dX5_byKind_94 ?_
      refine g_icmp_ge (tgt := 106) C dX5_byKind_95 (by decide) hs (fun hs => ?_) (fun hs => ?_)
      · refine g_iconst C dX5_byKind_106 cc_i_0 ?_
        refine g_sub [] rfl ?_
        exact wb_X5_byKind_107 C h (0 : Int32) hs hR
      · refine g_aload_n C 0 dX5_byKind_98 rfl rfl ?_
        refine g_iload_n C 1 dX5_byKind_99 rfl rfl ?_
        obtain ⟨v6, hcv6, hs⟩ := bnd hs
        refine g_cV (As := [.int x1]) (rest := []) C (w_X5_grown l E _ _ _ _ oa0 hcv6) mw_X5_grown lm_X5_109 oa0 rfl (ce5 E _ (oa0).2) rfl (by decide) rfl (Nat.le_of_ble_eq_true rfl) dX5_byKind_100 rfl ?_
        refine g_goto (tgt := 107) C dX5_byKind_103 (by decide) ?_
        refine g_sub [] rfl ?_
        exact wb_X5_byKind_107 C h v6 hs hR
    refine g_case hs (fun hx17_6 hs => ?_) (fun hx17_6 hs => ?_)
    · refine g_tabIn (v := (6 : Int32)) (tgt := 60) C dX5_byKind_17 hx17_6 (by decide) (by decide) rfl (by decide) ?_
      exact wb_X5_byKind_60 C h a0 x1 oa0 hs hR
    refine g_case hs (fun hx17_7 hs => ?_) (fun hx17_7 hs => ?_)
    · refine g_tabIn (v := (7 : Int32)) (tgt := 108) C dX5_byKind_17 hx17_7 (by decide) (by decide) rfl (by decide) ?_
      refine g_aload_n C 0 dX5_byKind_108 rfl rfl ?_
      refine gf5_1 C oa0 lf_X5_78 dX5_byKind_109 ?_
      refine g_aload_n C 0 dX5_byKind_112 rfl rfl ?_
      refine gf5_7 C oa0 lf_X5_20 dX5_byKind_113 ?_
      refine g_iload_n C 1 dX5_byKind_116 rfl rfl ?_
      refine g_iald C (tg5_7 oa0) dX5_byKind_117 hs (fun v7 hs => ?_)
      refine g_iconst C dX5_byKind_118 cc_i_1 ?_
      refine g_iadd C dX5_byKind_119 ?_
      refine g_irem C dX5_byKind_120 hs (fun v8 hs => ?_)
      refine g_if_ne (tgt := 135) C dX5_byKind_121 (by decide) hs (fun hs => ?_) (fun hs => ?_)
      · refine g_aload_n C 0 dX5_byKind_124 rfl rfl ?_
        refine gf5_10 C oa0 lf_X5_29 dX5_byKind_125 ?_
        refine g_iload_n C 1 dX5_byKind_128 rfl rfl ?_
        refine g_iald C (tg5_10 oa0) dX5_byKind_129 hs (fun v9 hs => ?_)
        refine g_iconst C dX5_byKind_130 cc_i_2 ?_
        refine g_idivC C dX5_byKind_131 (by decide) ?_
        refine g_goto (tgt := 136) C dX5_byKind_132 (by decide) ?_
        refine g_sub [] rfl ?_
        exact wb_X5_byKind_136 C h (v9 / (2 : Int32)) hs hR
      · refine g_iconst C dX5_byKind_135 cc_i_0 ?_
        refine g_sub [] rfl ?_
        exact wb_X5_byKind_136 C h (0 : Int32) hs hR
    refine g_tabOut (tgt := 137) C dX5_byKind_17 (by have z1 := ne_tz (z := 1) (by decide) hx17_1; have z2 := ne_tz (z := 2) (by decide) hx17_2; have z3 := ne_tz (z := 3) (by decide) hx17_3; have z4 := ne_tz (z := 4) (by decide) hx17_4; have z5 := ne_tz (z := 5) (by decide) hx17_5; have z6 := ne_tz (z := 6) (by decide) hx17_6; have z7 := ne_tz (z := 7) (by decide) hx17_7; omega) (by decide) ?_
    refine g_iconst C dX5_byKind_137 cc_i_0 ?_
    have e9 := Option.some.inj hs
    subst e9
    exact g_iret C hR dX5_byKind_138
set_option maxHeartbeats 4000000 in
set_option maxRecDepth 100000 in
theorem wb_X5_giveByKind_36 {l : Launch} {E : Ep} {X : Fx} {res : Hp} (C : CX E X RX5 cX5_giveByKind 3 4) (h : Hp) (hs : b_X5_giveByKind_36  h  = some res) (hR : RT E X none none res) : GG l E X h 36 [] [] := by
  have e9 := Option.some.inj hs
  subst e9
  exact g_vret C hR dX5_giveByKind_36
set_option maxHeartbeats 4000000 in
set_option maxRecDepth 100000 in
theorem wb_X5_giveByKind_32 {l : Launch} {E : Ep} {X : Fx} {res : Hp} (C : CX E X RX5 cX5_giveByKind 3 4) (h : Hp) (x2 : Int32) (b0 : Nat) (s1 : Int32) (s2 : Int32) (ob0 : OKr b0 5) (hs : b_X5_giveByKind_32  h x2 b0 s1 s2 = some res) (hR : RT E X none none res) : GG l E X h 32 [(2, .int x2)] [.int s2, .int s1, .ref (ad E b0)] := by
  refine g_iload_n C 0 dX5_giveByKind_32 rfl rfl ?_
  obtain ⟨h1, hch1, hs⟩ := bnd hs
  refine g_cV (As := [.int s1, .int s2, .int x2]) (rest := []) C (w_X5_addGift l E _ _ _ _ _ _ ob0 hch1) mw_X5_addGift lm_X5_115 ob0 rfl (ce5 E _ (ob0).2) rfl (by decide) rfl (Nat.le_of_ble_eq_true rfl) dX5_giveByKind_33 rfl ?_
  refine g_sub [] rfl ?_
  exact wb_X5_giveByKind_36 C h1 hs hR
set_option maxHeartbeats 4000000 in
set_option maxRecDepth 100000 in
theorem w_X5_giveByKind (l : Launch) (E : Ep) (h : Hp) (a0 : Nat) (x1 : Int32) (res : Hp) (oa0 : OKr a0 5) (hs : sh_X5_giveByKind h a0 x1 = some res) : MG l E yX5_giveByKind cX5_giveByKind 3 none 4 [.ref (ad E a0), .int x1] h none res := by
  refine MG.of (by decide) (Nat.le_of_ble_eq_true rfl) ?_
  intro X C hR
  have C : CX E X RX5 cX5_giveByKind 3 4 := C
  show GG l E X h 0 [(0, .ref (ad E a0)), (1, .int x1)] []
  refine g_aload_n C 0 dX5_giveByKind_0 rfl rfl ?_
  refine g_iload_n C 1 dX5_giveByKind_1 rfl rfl ?_
  obtain ⟨v1, hcv1, hs⟩ := bnd hs
  refine g_cV (As := [.int x1]) (rest := []) C (w_X5_byKind l E _ _ _ _ oa0 hcv1) mw_X5_byKind lm_X5_112 oa0 rfl (ce5 E _ (oa0).2) rfl (by decide) rfl (Nat.le_of_ble_eq_true rfl) dX5_giveByKind_2 rfl ?_
  refine g_istore_n (lv' := [(2, .int v1), (0, .ref (ad E a0)), (1, .int x1)]) C dX5_giveByKind_5 rfl (by decide) rfl ?_
  refine g_iload_n C 0 dX5_giveByKind_6 rfl rfl ?_
  refine g_if_le (tgt := 36) C dX5_giveByKind_7 (by decide) hs (fun hs => ?_) (fun hs => ?_)
  · refine g_sub [] rfl ?_
    exact wb_X5_giveByKind_36 C h hs hR
  · refine g_aload_n C 1 dX5_giveByKind_10 rfl rfl ?_
    refine g_iload_n C 2 dX5_giveByKind_11 rfl rfl ?_
    refine g_aload_n C 1 dX5_giveByKind_12 rfl rfl ?_
    refine g_iload_n C 2 dX5_giveByKind_13 rfl rfl ?_
    obtain ⟨v2, hcv2, hs⟩ := bnd hs
    refine g_cV (As := [.int x1]) (rest := [.int x1, .ref (ad E a0)]) C (w_X5_target l E _ _ _ _ oa0 hcv2) mw_X5_target lm_X5_105 oa0 rfl (ce5 E _ (oa0).2) rfl (by decide) rfl (Nat.le_of_ble_eq_true rfl) dX5_giveByKind_14 rfl ?_
    refine g_bipush C dX5_giveByKind_17 cc_b_9 ?_
    refine g_icmp_ne (tgt := 27) C dX5_giveByKind_19 (by decide) hs (fun hs => ?_) (fun hs => ?_)
    · refine g_bipush C dX5_giveByKind_22 cc_b_6 ?_
      refine g_goto (tgt := 32) C dX5_giveByKind_24 (by decide) ?_
      refine g_sub [0] rfl ?_
      exact wb_X5_giveByKind_32 C h v1 a0 x1 (6 : Int32) oa0 hs hR
    · refine g_aload_n C 1 dX5_giveByKind_27 rfl rfl ?_
      refine g_iload_n C 2 dX5_giveByKind_28 rfl rfl ?_
      obtain ⟨v3, hcv3, hs⟩ := bnd hs
      refine g_cV (As := [.int x1]) (rest := [.int x1, .ref (ad E a0)]) C (w_X5_target l E _ _ _ _ oa0 hcv3) mw_X5_target lm_X5_105 oa0 rfl (ce5 E _ (oa0).2) rfl (by decide) rfl (Nat.le_of_ble_eq_true rfl) dX5_giveByKind_29 rfl ?_
      refine g_sub [0] rfl ?_
      exact wb_X5_giveByKind_32 C h v1 a0 x1 v3 oa0 hs hR
set_option maxHeartbeats 4000000 in
set_option maxRecDepth 100000 in
theorem wb_X5_dayOn_2 {l : Launch} {E : Ep} {X : Fx} {res : Hp} (C : CX E X RX5 cX5_dayOn 2 5) : ∀ (n : Nat) (h : Hp) (a0 : Nat) (x1 : Int32) (oa0 : OKr a0 5), b_X5_dayOn_2  n h a0 x1 = some res → RT E X none none res → GG l E X h 2 [(0, .ref (ad E a0)), (1, .int x1)] [] := by
  intro n
  induction n with
  | zero =>
    intro h a0 x1 oa0
    intro hs
    exact absurd hs (by intro e; cases e)
  | succ n ih =>
    intro h a0 x1 oa0 hs hR
    have hk2 := ih
    have hs : f_X5_dayOn_2  (b_X5_dayOn_2  n) h a0 x1 = some res := hs
    generalize b_X5_dayOn_2  n = k2 at hs hk2
    refine g_iload_n C 1 dX5_dayOn_2 rfl rfl ?_
    refine g_aload_n C 0 dX5_dayOn_3 rfl rfl ?_
    refine gf5_0 C oa0 lf_X5_71 dX5_dayOn_4 ?_
    refine g_icmp_ge (tgt := 21) C dX5_dayOn_7 (by decide) hs (fun hs => ?_) (fun hs => ?_)
    · refine g_aload_n C 0 dX5_dayOn_21 rfl rfl ?_
      obtain ⟨h1, hch1, hs⟩ := bnd hs
      refine g_cV (As := []) (rest := []) C (w_X5_endDay l E _ _ _ oa0 hch1) mw_X5_endDay lm_X5_129 oa0 rfl (ce5 E _ (oa0).2) rfl (by decide) rfl (Nat.le_of_ble_eq_true rfl) dX5_dayOn_22 rfl ?_
      have e9 := Option.some.inj hs
      subst e9
      exact g_vret C hR dX5_dayOn_25
    · refine g_aload_n C 0 dX5_dayOn_10 rfl rfl ?_
      refine g_iload_n C 1 dX5_dayOn_11 rfl rfl ?_
      obtain ⟨h2, hch2, hs⟩ := bnd hs
      refine g_cV (As := [.int x1]) (rest := []) C (w_X5_giveByKind l E _ _ _ _ oa0 hch2) mw_X5_giveByKind lm_X5_125 oa0 rfl (ce5 E _ (oa0).2) rfl (by decide) rfl (Nat.le_of_ble_eq_true rfl) dX5_dayOn_12 rfl ?_
      refine g_iinc (lv' := [(1, .int (x1 + (1 : Int32))), (0, .ref (ad E a0))]) (j := 1) C dX5_dayOn_15 rfl (cc_n_1 _) (by decide) rfl ?_
      refine g_goto (tgt := 2) C dX5_dayOn_18 (by decide) ?_
      refine g_sub [1, 0] rfl ?_
      exact hk2 h2 a0 (x1 + (1 : Int32)) oa0 hs hR
set_option maxHeartbeats 4000000 in
set_option maxRecDepth 100000 in
theorem w_X5_dayOn (l : Launch) (E : Ep) (h : Hp) (a0 : Nat) (res : Hp) (oa0 : OKr a0 5) (hs : sh_X5_dayOn h a0 = some res) : MG l E yX5_dayOn cX5_dayOn 2 none 5 [.ref (ad E a0)] h none res := by
  refine MG.of (by decide) (Nat.le_of_ble_eq_true rfl) ?_
  intro X C hR
  have C : CX E X RX5 cX5_dayOn 2 5 := C
  show GG l E X h 0 [(0, .ref (ad E a0))] []
  refine g_iconst C dX5_dayOn_0 cc_i_0 ?_
  refine g_istore_n (lv' := [(1, .int (0 : Int32)), (0, .ref (ad E a0))]) C dX5_dayOn_1 rfl (by decide) rfl ?_
  refine g_sub [1, 0] rfl ?_
  exact wb_X5_dayOn_2 C 1000 h a0 (0 : Int32) oa0 hs hR
set_option maxHeartbeats 4000000 in
set_option maxRecDepth 100000 in
theorem w_X5_day (l : Launch) (E : Ep) (h : Hp) (a0 : Nat) (res : Int32 × Hp) (oa0 : OKr a0 5) (hs : sh_X5_day h a0 = some res) : MG l E yX5_day cX5_day 1 (some .int) 6 [.ref (ad E a0)] h (some (.int res.1)) res.2 := by
  refine MG.of (by decide) (Nat.le_of_ble_eq_true rfl) ?_
  intro X C hR
  have C : CX E X RX5 cX5_day 1 6 := C
  show GG l E X h 0 [(0, .ref (ad E a0))] []
  refine g_aload_n C 0 dX5_day_0 rfl rfl ?_
  refine g_iconst C dX5_day_1 cc_i_0 ?_
  refine pf5_13 C oa0 lf_X5_68 dX5_day_2 ?_
  refine g_aload_n C 0 dX5_day_5 rfl rfl ?_
  refine gf5_1 C oa0 lf_X5_78 dX5_day_6 ?_
  refine g_sipush C dX5_day_9 cc_s_999 ?_
  refine g_icmp_ne (tgt := 22) C dX5_day_12 (by decide) hs (fun hs => ?_) (fun hs => ?_)
  · refine g_aload_n C 0 dX5_day_15 rfl rfl ?_
    refine g_bipush C dX5_day_16 cc_b_m6 ?_
    obtain ⟨q1, hcq1, hs⟩ := bnd hs
    refine g_cV (As := [.int (-6 : Int32)]) (rest := []) C (w_X5_refuse l E _ _ _ _ oa0 hcq1) mw_X5_refuse lm_X5_152 oa0 rfl (ce5 E _ (oa0).2) rfl (by decide) rfl (Nat.le_of_ble_eq_true rfl) dX5_day_18 rfl ?_
    have e9 := Option.some.inj hs
    subst e9
    exact g_iret C hR dX5_day_21
  · refine g_aload_n C 0 dX5_day_22 rfl rfl ?_
    obtain ⟨h2, hch2, hs⟩ := bnd hs
    refine g_cV (As := []) (rest := []) C (w_X5_dayOn l E _ _ _ oa0 hch2) mw_X5_dayOn lm_X5_149 oa0 rfl (ce5 E _ (oa0).2) rfl (by decide) rfl (Nat.le_of_ble_eq_true rfl) dX5_day_23 rfl ?_
    refine g_aload_n C 0 dX5_day_26 rfl rfl ?_
    refine gf5_1 C oa0 lf_X5_78 dX5_day_27 ?_
    have e9 := Option.some.inj hs
    subst e9
    exact g_iret C hR dX5_day_30
set_option maxHeartbeats 4000000 in
set_option maxRecDepth 100000 in
theorem wb_X5_gives_26 {l : Launch} {E : Ep} {X : Fx} {res : Int32 × Hp} (C : CX E X RX5 cX5_gives 2 4) (h : Hp) (s0 : Int32) (hs : b_X5_gives_26  h s0 = some res) (hR : RT E X (some .int) (some (.int res.1)) res.2) : GG l E X h 26 [] [.int s0] := by
  have e9 := Option.some.inj hs
  subst e9
  exact g_iret C hR dX5_gives_26
set_option maxHeartbeats 4000000 in
set_option maxRecDepth 100000 in
theorem w_X5_gives (l : Launch) (E : Ep) (h : Hp) (a0 : Nat) (x1 : Int32) (res : Int32 × Hp) (oa0 : OKr a0 5) (hs : sh_X5_gives h a0 x1 = some res) : MG l E yX5_gives cX5_gives 2 (some .int) 4 [.ref (ad E a0), .int x1] h (some (.int res.1)) res.2 := by
  refine MG.of (by decide) (Nat.le_of_ble_eq_true rfl) ?_
  intro X C hR
  have C : CX E X RX5 cX5_gives 2 4 := C
  show GG l E X h 0 [(0, .ref (ad E a0)), (1, .int x1)] []
  refine g_aload_n C 0 dX5_gives_0 rfl rfl ?_
  refine g_iconst C dX5_gives_1 cc_i_0 ?_
  refine pf5_13 C oa0 lf_X5_68 dX5_gives_2 ?_
  refine g_aload_n C 0 dX5_gives_5 rfl rfl ?_
  refine g_iload_n C 1 dX5_gives_6 rfl rfl ?_
  obtain ⟨v1, hcv1, hs⟩ := bnd hs
  refine g_cV (As := [.int x1]) (rest := []) C (w_X5_isOne l E _ _ _ _ oa0 hcv1) mw_X5_isOne lm_X5_199 oa0 rfl (ce5 E _ (oa0).2) rfl (by decide) rfl (Nat.le_of_ble_eq_true rfl) dX5_gives_7 rfl ?_
  refine g_if_eq (tgt := 21) C dX5_gives_10 (by decide) hs (fun hs => ?_) (fun hs => ?_)
  · refine g_aload_n C 0 dX5_gives_21 rfl rfl ?_
    refine g_iconst C dX5_gives_22 cc_i_m1 ?_
    obtain ⟨q2, hcq2, hs⟩ := bnd hs
    refine g_cV (As := [.int (-1 : Int32)]) (rest := []) C (w_X5_refuse l E _ _ _ _ oa0 hcq2) mw_X5_refuse lm_X5_152 oa0 rfl (ce5 E _ (oa0).2) rfl (by decide) rfl (Nat.le_of_ble_eq_true rfl) dX5_gives_23 rfl ?_
    refine g_sub [] rfl ?_
    exact wb_X5_gives_26 C q2.2 q2.1 hs hR
  · refine g_aload_n C 0 dX5_gives_13 rfl rfl ?_
    refine g_iload_n C 1 dX5_gives_14 rfl rfl ?_
    obtain ⟨v3, hcv3, hs⟩ := bnd hs
    refine g_cV (As := [.int x1]) (rest := []) C (w_X5_byKind l E _ _ _ _ oa0 hcv3) mw_X5_byKind lm_X5_112 oa0 rfl (ce5 E _ (oa0).2) rfl (by decide) rfl (Nat.le_of_ble_eq_true rfl) dX5_gives_15 rfl ?_
    refine g_goto (tgt := 26) C dX5_gives_18 (by decide) ?_
    refine g_sub [] rfl ?_
    exact wb_X5_gives_26 C (wI h a0 13 (0 : Int32)) v3 hs hR
set_option maxHeartbeats 4000000 in
set_option maxRecDepth 100000 in
theorem wb_X5_wrongDays_21 {l : Launch} {E : Ep} {X : Fx} {res : Int32} (C : CX E X RX5 cX5_wrongDays 3 0) (h : Hp) (s0 : Int32) (hs : b_X5_wrongDays_21  h s0 = some res) (hR : RT E X (some .int) (some (.int res)) h) : GG l E X h 21 [] [.int s0] := by
  have e9 := Option.some.inj hs
  subst e9
  exact g_iret C hR dX5_wrongDays_21
set_option maxHeartbeats 4000000 in
set_option maxRecDepth 100000 in
theorem w_X5_wrongDays (l : Launch) (E : Ep) (h : Hp) (x0 : Int32) (x1 : Int32) (x2 : Int32) (res : Int32) (hs : sh_X5_wrongDays h x0 x1 x2 = some res) : MG l E yX5_wrongDays cX5_wrongDays 3 (some .int) 0 [.int x0, .int x1, .int x2] h (some (.int res)) h := by
  refine MG.of (by decide) (Nat.le_of_ble_eq_true rfl) ?_
  intro X C hR
  have C : CX E X RX5 cX5_wrongDays 3 0 := C
  show GG l E X h 0 [(0, .int x0), (1, .int x1), (2, .int x2)] []
  refine g_iload_n C 0 dX5_wrongDays_0 rfl rfl ?_
  refine g_iload_n C 1 dX5_wrongDays_1 rfl rfl ?_
  refine g_icmp_ge (tgt := 10) C dX5_wrongDays_2 (by decide) hs (fun hs => ?_) (fun hs => ?_)
  · refine g_iload_n C 0 dX5_wrongDays_10 rfl rfl ?_
    refine g_iload_n C 2 dX5_wrongDays_11 rfl rfl ?_
    refine g_icmp_le (tgt := 20) C dX5_wrongDays_12 (by decide) hs (fun hs => ?_) (fun hs => ?_)
    · refine g_iconst C dX5_wrongDays_20 cc_i_0 ?_
      refine g_sub [] rfl ?_
      exact wb_X5_wrongDays_21 C h (0 : Int32) hs hR
    · refine g_bipush C dX5_wrongDays_15 cc_b_m6 ?_
      refine g_goto (tgt := 21) C dX5_wrongDays_17 (by decide) ?_
      refine g_sub [] rfl ?_
      exact wb_X5_wrongDays_21 C h (-6 : Int32) hs hR
  · refine g_bipush C dX5_wrongDays_5 cc_b_m4 ?_
    refine g_goto (tgt := 21) C dX5_wrongDays_7 (by decide) ?_
    refine g_sub [] rfl ?_
    exact wb_X5_wrongDays_21 C h (-4 : Int32) hs hR
set_option maxHeartbeats 4000000 in
set_option maxRecDepth 100000 in
theorem wb_X5_wrongOne_19 {l : Launch} {E : Ep} {X : Fx} {res : Int32} (C : CX E X RX5 cX5_wrongOne 5 2) (h : Hp) (s0 : Int32) (hs : b_X5_wrongOne_19  h s0 = some res) (hR : RT E X (some .int) (some (.int res)) h) : GG l E X h 19 [] [.int s0] := by
  have e9 := Option.some.inj hs
  subst e9
  exact g_iret C hR dX5_wrongOne_19
set_option maxHeartbeats 4000000 in
set_option maxRecDepth 100000 in
theorem w_X5_wrongOne (l : Launch) (E : Ep) (h : Hp) (a0 : Nat) (x1 : Int32) (x2 : Int32) (x3 : Int32) (x4 : Int32) (res : Int32) (oa0 : OKr a0 5) (hs : sh_X5_wrongOne h a0 x1 x2 x3 x4 = some res) : MG l E yX5_wrongOne cX5_wrongOne 5 (some .int) 2 [.ref (ad E a0), .int x1, .int x2, .int x3, .int x4] h (some (.int res)) h := by
  refine MG.of (by decide) (Nat.le_of_ble_eq_true rfl) ?_
  intro X C hR
  have C : CX E X RX5 cX5_wrongOne 5 2 := C
  show GG l E X h 0 [(0, .ref (ad E a0)), (1, .int x1), (2, .int x2), (3, .int x3), (4, .int x4)] []
  refine g_aload_n C 0 dX5_wrongOne_0 rfl rfl ?_
  refine g_iload_n C 1 dX5_wrongOne_1 rfl rfl ?_
  obtain ⟨v1, hcv1, hs⟩ := bnd hs
  refine g_cV (As := [.int x1]) (rest := []) C (w_X5_isOne l E _ _ _ _ oa0 hcv1) mw_X5_isOne lm_X5_199 oa0 rfl (ce5 E _ (oa0).2) rfl (by decide) rfl (Nat.le_of_ble_eq_true rfl) dX5_wrongOne_2 rfl ?_
  refine g_if_ne (tgt := 12) C dX5_wrongOne_5 (by decide) hs (fun hs => ?_) (fun hs => ?_)
  · refine g_iconst C dX5_wrongOne_8 cc_i_m1 ?_
    refine g_goto (tgt := 19) C dX5_wrongOne_9 (by decide) ?_
    refine g_sub [] rfl ?_
    exact wb_X5_wrongOne_19 C h (-1 : Int32) hs hR
  · refine g_iload_n C 2 dX5_wrongOne_12 rfl rfl ?_
    refine g_iload_n C 3 dX5_wrongOne_13 rfl rfl ?_
    refine g_iload C 4 dX5_wrongOne_14 rfl ?_
    obtain ⟨v2, hcv2, hs⟩ := bnd hs
    refine g_cS (As := [.int x2, .int x3, .int x4]) (rest := []) C (w_X5_wrongDays l E _ _ _ _ _ hcv2) mw_X5_wrongDays lm_X5_214 rfl (by decide) rfl (Nat.le_of_ble_eq_true rfl) dX5_wrongOne_16 rfl ?_
    refine g_sub [] rfl ?_
    exact wb_X5_wrongOne_19 C h v2 hs hR
set_option maxHeartbeats 4000000 in
set_option maxRecDepth 100000 in
theorem wb_X5_carry_17 {l : Launch} {E : Ep} {X : Fx} {res : Int32 × Hp} (C : CX E X RX5 cX5_carry 2 0) (h : Hp) (a0 : Nat) (oa0 : OKr a0 5) (hs : b_X5_carry_17  h a0 = some res) (hR : RT E X (some .int) (some (.int res.1)) res.2) : GG l E X h 17 [(0, .ref (ad E a0))] [] := by
  refine g_aload_n C 0 dX5_carry_17 rfl rfl ?_
  refine g_dup C dX5_carry_18 rfl ?_
  refine gf5_17 C oa0 lf_X5_139 dX5_carry_19 ?_
  refine g_iconst C dX5_carry_22 cc_i_1 ?_
  refine g_iadd C dX5_carry_23 ?_
  refine pf5_17 C oa0 lf_X5_139 dX5_carry_24 ?_
  refine g_aload_n C 0 dX5_carry_27 rfl rfl ?_
  refine g_getK C oa0 lf_X5_136 dX5_carry_28 hs (fun v1 ov1 hs => ?_)
  refine g_aload_n C 0 dX5_carry_31 rfl rfl ?_
  refine gf5_17 C oa0 lf_X5_139 dX5_carry_32 ?_
  refine g_iconst C dX5_carry_35 cc_i_1 ?_
  refine g_isub C dX5_carry_36 ?_
  refine g_iald C ov1 dX5_carry_37 hs (fun v2 hs => ?_)
  have e9 := Option.some.inj hs
  subst e9
  exact g_iret C hR dX5_carry_38
set_option maxHeartbeats 4000000 in
set_option maxRecDepth 100000 in
theorem w_X5_carry (l : Launch) (E : Ep) (h : Hp) (a0 : Nat) (x1 : Int32) (res : Int32 × Hp) (oa0 : OKr a0 5) (hs : sh_X5_carry h a0 x1 = some res) : MG l E yX5_carry cX5_carry 2 (some .int) 0 [.ref (ad E a0), .int x1] h (some (.int res.1)) res.2 := by
  refine MG.of (by decide) (Nat.le_of_ble_eq_true rfl) ?_
  intro X C hR
  have C : CX E X RX5 cX5_carry 2 0 := C
  show GG l E X h 0 [(0, .ref (ad E a0)), (1, .int x1)] []
  refine g_aload_n C 0 dX5_carry_0 rfl rfl ?_
  refine gf5_18 C oa0 lf_X5_132 dX5_carry_1 ?_
  refine g_if_eq (tgt := 17) C dX5_carry_4 (by decide) hs (fun hs => ?_) (fun hs => ?_)
  · refine g_sub [0] rfl ?_
    exact wb_X5_carry_17 C h a0 oa0 hs hR
  · refine g_aload_n C 0 dX5_carry_7 rfl rfl ?_
    refine g_getK C oa0 lf_X5_136 dX5_carry_8 hs (fun v1 ov1 hs => ?_)
    refine g_aload_n C 0 dX5_carry_11 rfl rfl ?_
    refine gf5_17 C oa0 lf_X5_139 dX5_carry_12 ?_
    refine g_iload_n C 1 dX5_carry_15 rfl rfl ?_
    refine g_iast C ov1 dX5_carry_16 hs (fun h2 hs => ?_)
    refine g_sub [0] rfl ?_
    exact wb_X5_carry_17 C h2 a0 oa0 hs hR
set_option maxHeartbeats 4000000 in
set_option maxRecDepth 100000 in
theorem wb_X5_carryDays_95 {l : Launch} {E : Ep} {X : Fx} {res : Hp} (C : CX E X RX5 cX5_carryDays 4 1) : ∀ (n : Nat) (h : Hp) (a0 : Nat) (x3 : Int32) (oa0 : OKr a0 5), b_X5_carryDays_95  n h a0 x3 = some res → RT E X none none res → GG l E X h 95 [(0, .ref (ad E a0)), (3, .int x3)] [] := by
  intro n
  induction n with
  | zero =>
    intro h a0 x3 oa0
    intro hs
    exact absurd hs (by intro e; cases e)
  | succ n ih =>
    intro h a0 x3 oa0 hs hR
    have hk95 := ih
    have hs : f_X5_carryDays_95  (b_X5_carryDays_95  n) h a0 x3 = some res := hs
    generalize b_X5_carryDays_95  n = k95 at hs hk95
    refine g_iload_n C 1 dX5_carryDays_95 rfl rfl ?_
    refine g_sipush C dX5_carryDays_96 cc_s_462 ?_
    refine g_icmp_ge (tgt := 124) C dX5_carryDays_99 (by decide) hs (fun hs => ?_) (fun hs => ?_)
    · have e9 := Option.some.inj hs
      subst e9
      exact g_vret C hR dX5_carryDays_124
    · refine g_aload_n C 0 dX5_carryDays_102 rfl rfl ?_
      refine gf5_11 C oa0 lf_X5_32 dX5_carryDays_103 ?_
      refine g_iload_n C 1 dX5_carryDays_106 rfl rfl ?_
      refine g_aload_n C 0 dX5_carryDays_107 rfl rfl ?_
      refine g_aload_n C 0 dX5_carryDays_108 rfl rfl ?_
      refine gf5_11 C oa0 lf_X5_32 dX5_carryDays_109 ?_
      refine g_iload_n C 1 dX5_carryDays_112 rfl rfl ?_
      refine g_iald C (tg5_11 oa0) dX5_carryDays_113 hs (fun v1 hs => ?_)
      obtain ⟨q2, hcq2, hs⟩ := bnd hs
      refine g_cV (As := [.int v1]) (rest := [.int x3, .ref (ad E (rf a0 11))]) C (w_X5_carry l E _ _ _ _ oa0 hcq2) mw_X5_carry lm_X5_142 oa0 rfl (ce5 E _ (oa0).2) rfl (by decide) rfl (Nat.le_of_ble_eq_true rfl) dX5_carryDays_114 rfl ?_
      refine g_iast C (tg5_11 oa0) dX5_carryDays_117 hs (fun h3 hs => ?_)
      refine g_iinc (lv' := [(3, .int (x3 + (1 : Int32))), (0, .ref (ad E a0))]) (j := 1) C dX5_carryDays_118 rfl (cc_n_1 _) (by decide) rfl ?_
      refine g_goto (tgt := 95) C dX5_carryDays_121 (by decide) ?_
      refine g_sub [1, 0] rfl ?_
      exact hk95 h3 a0 (x3 + (1 : Int32)) oa0 hs hR
set_option maxHeartbeats 4000000 in
set_option maxRecDepth 100000 in
theorem wb_X5_carryDays_65 {l : Launch} {E : Ep} {X : Fx} {res : Hp} (C : CX E X RX5 cX5_carryDays 4 1) : ∀ (n : Nat) (h : Hp) (a0 : Nat) (x3 : Int32) (oa0 : OKr a0 5), b_X5_carryDays_65  n h a0 x3 = some res → RT E X none none res → GG l E X h 65 [(0, .ref (ad E a0)), (3, .int x3)] [] := by
  intro n
  induction n with
  | zero =>
    intro h a0 x3 oa0
    intro hs
    exact absurd hs (by intro e; cases e)
  | succ n ih =>
    intro h a0 x3 oa0 hs hR
    have hk65 := ih
    have hs : f_X5_carryDays_65  (b_X5_carryDays_65  n) h a0 x3 = some res := hs
    generalize b_X5_carryDays_65  n = k65 at hs hk65
    refine g_iload_n C 1 dX5_carryDays_65 rfl rfl ?_
    refine g_bipush C dX5_carryDays_66 cc_b_6 ?_
    refine g_icmp_ge (tgt := 93) C dX5_carryDays_68 (by decide) hs (fun hs => ?_) (fun hs => ?_)
    · refine g_iconst C dX5_carryDays_93 cc_i_0 ?_
      refine g_istore_n (lv' := [(3, .int (0 : Int32)), (0, .ref (ad E a0))]) C dX5_carryDays_94 rfl (by decide) rfl ?_
      refine g_sub [1, 0] rfl ?_
      exact wb_X5_carryDays_95 C 1000 h a0 (0 : Int32) oa0 hs hR
    · refine g_aload_n C 0 dX5_carryDays_71 rfl rfl ?_
      refine gf5_10 C oa0 lf_X5_29 dX5_carryDays_72 ?_
      refine g_iload_n C 1 dX5_carryDays_75 rfl rfl ?_
      refine g_aload_n C 0 dX5_carryDays_76 rfl rfl ?_
      refine g_aload_n C 0 dX5_carryDays_77 rfl rfl ?_
      refine gf5_10 C oa0 lf_X5_29 dX5_carryDays_78 ?_
      refine g_iload_n C 1 dX5_carryDays_81 rfl rfl ?_
      refine g_iald C (tg5_10 oa0) dX5_carryDays_82 hs (fun v1 hs => ?_)
      obtain ⟨q2, hcq2, hs⟩ := bnd hs
      refine g_cV (As := [.int v1]) (rest := [.int x3, .ref (ad E (rf a0 10))]) C (w_X5_carry l E _ _ _ _ oa0 hcq2) mw_X5_carry lm_X5_142 oa0 rfl (ce5 E _ (oa0).2) rfl (by decide) rfl (Nat.le_of_ble_eq_true rfl) dX5_carryDays_83 rfl ?_
      refine g_iast C (tg5_10 oa0) dX5_carryDays_86 hs (fun h3 hs => ?_)
      refine g_iinc (lv' := [(3, .int (x3 + (1 : Int32))), (0, .ref (ad E a0))]) (j := 1) C dX5_carryDays_87 rfl (cc_n_1 _) (by decide) rfl ?_
      refine g_goto (tgt := 65) C dX5_carryDays_90 (by decide) ?_
      refine g_sub [1, 0] rfl ?_
      exact hk65 h3 a0 (x3 + (1 : Int32)) oa0 hs hR
set_option maxHeartbeats 4000000 in
set_option maxRecDepth 100000 in
theorem w_X5_carryDays (l : Launch) (E : Ep) (h : Hp) (a0 : Nat) (a1 : Nat) (x2 : Int32) (res : Hp) (oa0 : OKr a0 5) (oa1 : OKr a1 6) (hs : sh_X5_carryDays h a0 a1 x2 = some res) : MG l E yX5_carryDays cX5_carryDays 4 none 1 [.ref (ad E a0), .ref (ad E a1), .int x2] h none res := by
  refine MG.of (by decide) (Nat.le_of_ble_eq_true rfl) ?_
  intro X C hR
  have C : CX E X RX5 cX5_carryDays 4 1 := C
  show GG l E X h 0 [(0, .ref (ad E a0)), (1, .ref (ad E a1)), (2, .int x2)] []
  refine g_aload_n C 0 dX5_carryDays_0 rfl rfl ?_
  refine g_aload_n C 1 dX5_carryDays_1 rfl rfl ?_
  refine g_putK C oa0 lf_X5_136 dX5_carryDays_2 ?_
  refine g_aload_n C 0 dX5_carryDays_5 rfl rfl ?_
  refine g_iload_n C 2 dX5_carryDays_6 rfl rfl ?_
  obtain ⟨v1, hbv1, hs⟩ := bnd hs
  obtain ⟨hzv1, hyv1⟩ := bol_v hbv1
  refine g_top hyv1 ?_
  refine pf5_18 C hzv1 oa0 lf_X5_132 dX5_carryDays_7 ?_
  refine g_aload_n C 0 dX5_carryDays_10 rfl rfl ?_
  refine g_iconst C dX5_carryDays_11 cc_i_0 ?_
  refine pf5_17 C oa0 lf_X5_139 dX5_carryDays_12 ?_
  refine g_aload_n C 0 dX5_carryDays_15 rfl rfl ?_
  refine g_aload_n C 0 dX5_carryDays_16 rfl rfl ?_
  refine g_aload_n C 0 dX5_carryDays_17 rfl rfl ?_
  refine gf5_1 C oa0 lf_X5_78 dX5_carryDays_18 ?_
  obtain ⟨q2, hcq2, hs⟩ := bnd hs
  refine g_cV (As := [.int ((wI (wI (wK h a1) a0 18 v1) a0 17 (0 : Int32)).1 a0 1)]) (rest := [.ref (ad E a0)]) C (w_X5_carry l E _ _ _ _ oa0 hcq2) mw_X5_carry lm_X5_142 oa0 rfl (ce5 E _ (oa0).2) rfl (by decide) rfl (Nat.le_of_ble_eq_true rfl) dX5_carryDays_21 rfl ?_
  refine pf5_1 C oa0 lf_X5_78 dX5_carryDays_24 ?_
  refine g_aload_n C 0 dX5_carryDays_27 rfl rfl ?_
  refine g_aload_n C 0 dX5_carryDays_28 rfl rfl ?_
  refine g_aload_n C 0 dX5_carryDays_29 rfl rfl ?_
  refine gf5_2 C oa0 lf_X5_96 dX5_carryDays_30 ?_
  obtain ⟨q3, hcq3, hs⟩ := bnd hs
  refine g_cV (As := [.int ((wI q2.2 a0 1 q2.1).1 a0 2)]) (rest := [.ref (ad E a0)]) C (w_X5_carry l E _ _ _ _ oa0 hcq3) mw_X5_carry lm_X5_142 oa0 rfl (ce5 E _ (oa0).2) rfl (by decide) rfl (Nat.le_of_ble_eq_true rfl) dX5_carryDays_33 rfl ?_
  refine pf5_2 C oa0 lf_X5_96 dX5_carryDays_36 ?_
  refine g_aload_n C 0 dX5_carryDays_39 rfl rfl ?_
  refine g_aload_n C 0 dX5_carryDays_40 rfl rfl ?_
  refine g_aload_n C 0 dX5_carryDays_41 rfl rfl ?_
  refine gf5_4 C oa0 lf_X5_85 dX5_carryDays_42 ?_
  obtain ⟨q4, hcq4, hs⟩ := bnd hs
  refine g_cV (As := [.int ((wI q3.2 a0 2 q3.1).1 a0 4)]) (rest := [.ref (ad E a0)]) C (w_X5_carry l E _ _ _ _ oa0 hcq4) mw_X5_carry lm_X5_142 oa0 rfl (ce5 E _ (oa0).2) rfl (by decide) rfl (Nat.le_of_ble_eq_true rfl) dX5_carryDays_45 rfl ?_
  refine pf5_4 C oa0 lf_X5_85 dX5_carryDays_48 ?_
  refine g_aload_n C 0 dX5_carryDays_51 rfl rfl ?_
  refine g_aload_n C 0 dX5_carryDays_52 rfl rfl ?_
  refine g_aload_n C 0 dX5_carryDays_53 rfl rfl ?_
  refine gf5_12 C oa0 lf_X5_122 dX5_carryDays_54 ?_
  obtain ⟨q5, hcq5, hs⟩ := bnd hs
  refine g_cV (As := [.int ((wI q4.2 a0 4 q4.1).1 a0 12)]) (rest := [.ref (ad E a0)]) C (w_X5_carry l E _ _ _ _ oa0 hcq5) mw_X5_carry lm_X5_142 oa0 rfl (ce5 E _ (oa0).2) rfl (by decide) rfl (Nat.le_of_ble_eq_true rfl) dX5_carryDays_57 rfl ?_
  refine pf5_12 C oa0 lf_X5_122 dX5_carryDays_60 ?_
  refine g_iconst C dX5_carryDays_63 cc_i_0 ?_
  refine g_istore_n (lv' := [(3, .int (0 : Int32)), (0, .ref (ad E a0)), (1, .ref (ad E a1)), (2, .int x2)]) C dX5_carryDays_64 rfl (by decide) rfl ?_
  refine g_sub [1, 0] rfl ?_
  exact wb_X5_carryDays_65 C 1000 (wI q5.2 a0 12 q5.1) a0 (0 : Int32) oa0 hs hR
set_option maxHeartbeats 4000000 in
set_option maxRecDepth 100000 in
theorem w_X5_open (l : Launch) (E : Ep) (h : Hp) (a0 : Nat) (res : Hp) (oa0 : OKr a0 5) (hs : sh_X5_open h a0 = some res) : MG l E yX5_open cX5_open 1 none 2 [.ref (ad E a0)] h none res := by
  refine MG.of (by decide) (Nat.le_of_ble_eq_true rfl) ?_
  intro X C hR
  have C : CX E X RX5 cX5_open 1 2 := C
  show GG l E X h 0 [(0, .ref (ad E a0))] []
  refine g_aload_n C 0 dX5_open_0 rfl rfl ?_
  refine g_aload_n C 0 dX5_open_1 rfl rfl ?_
  refine gf5_16 C oa0 lf_X5_41 dX5_open_2 ?_
  refine g_iconst C dX5_open_5 cc_i_1 ?_
  obtain ⟨h1, hch1, hs⟩ := bnd hs
  refine g_cV (As := [.ref (ad E (rf a0 16)), .int (1 : Int32)]) (rest := []) C (w_X5_carryDays l E _ _ _ _ _ oa0 (tg5_16 oa0) hch1) mw_X5_carryDays lm_X5_145 oa0 rfl (ce5 E _ (oa0).2) rfl (by decide) rfl (Nat.le_of_ble_eq_true rfl) dX5_open_6 rfl ?_
  have e9 := Option.some.inj hs
  subst e9
  exact g_vret C hR dX5_open_9
set_option maxHeartbeats 4000000 in
set_option maxRecDepth 100000 in
theorem wb_X5_run_2 {l : Launch} {E : Ep} {X : Fx} {res : Hp} (C : CX E X RX5 cX5_run 3 6) : ∀ (n : Nat) (h : Hp) (a0 : Nat) (x1 : Int32) (x2 : Int32) (oa0 : OKr a0 5), b_X5_run_2  n h a0 x1 x2 = some res → RT E X none none res → GG l E X h 2 [(0, .ref (ad E a0)), (1, .int x1), (2, .int x2)] [] := by
  intro n
  induction n with
  | zero =>
    intro h a0 x1 x2 oa0
    intro hs
    exact absurd hs (by intro e; cases e)
  | succ n ih =>
    intro h a0 x1 x2 oa0 hs hR
    have hk2 := ih
    have hs : f_X5_run_2  (b_X5_run_2  n) h a0 x1 x2 = some res := hs
    generalize b_X5_run_2  n = k2 at hs hk2
    refine g_iload_n C 2 dX5_run_2 rfl rfl ?_
    refine g_iload_n C 1 dX5_run_3 rfl rfl ?_
    refine g_icmp_ge (tgt := 17) C dX5_run_4 (by decide) hs (fun hs => ?_) (fun hs => ?_)
    · have e9 := Option.some.inj hs
      subst e9
      exact g_vret C hR dX5_run_17
    · refine g_aload_n C 0 dX5_run_7 rfl rfl ?_
      obtain ⟨h1, hch1, hs⟩ := bnd hs
      refine g_cV (As := []) (rest := []) C (w_X5_dayOn l E _ _ _ oa0 hch1) mw_X5_dayOn lm_X5_149 oa0 rfl (ce5 E _ (oa0).2) rfl (by decide) rfl (Nat.le_of_ble_eq_true rfl) dX5_run_8 rfl ?_
      refine g_iinc (lv' := [(2, .int (x2 + (1 : Int32))), (0, .ref (ad E a0)), (1, .int x1)]) (j := 2) C dX5_run_11 rfl (cc_n_1 _) (by decide) rfl ?_
      refine g_goto (tgt := 2) C dX5_run_14 (by decide) ?_
      refine g_sub [1, 2, 0] rfl ?_
      exact hk2 h1 a0 x1 (x2 + (1 : Int32)) oa0 hs hR
set_option maxHeartbeats 4000000 in
set_option maxRecDepth 100000 in
theorem w_X5_run (l : Launch) (E : Ep) (h : Hp) (a0 : Nat) (x1 : Int32) (res : Hp) (oa0 : OKr a0 5) (hs : sh_X5_run h a0 x1 = some res) : MG l E yX5_run cX5_run 3 none 6 [.ref (ad E a0), .int x1] h none res := by
  refine MG.of (by decide) (Nat.le_of_ble_eq_true rfl) ?_
  intro X C hR
  have C : CX E X RX5 cX5_run 3 6 := C
  show GG l E X h 0 [(0, .ref (ad E a0)), (1, .int x1)] []
  refine g_iconst C dX5_run_0 cc_i_0 ?_
  refine g_istore_n (lv' := [(2, .int (0 : Int32)), (0, .ref (ad E a0)), (1, .int x1)]) C dX5_run_1 rfl (by decide) rfl ?_
  refine g_sub [1, 2, 0] rfl ?_
  exact wb_X5_run_2 C 1000 h a0 x1 (0 : Int32) oa0 hs hR
set_option maxHeartbeats 4000000 in
set_option maxRecDepth 100000 in
theorem w_X5_close (l : Launch) (E : Ep) (h : Hp) (a0 : Nat) (res : Hp) (oa0 : OKr a0 5) (hs : sh_X5_close h a0 = some res) : MG l E yX5_close cX5_close 1 none 2 [.ref (ad E a0)] h none res := by
  refine MG.of (by decide) (Nat.le_of_ble_eq_true rfl) ?_
  intro X C hR
  have C : CX E X RX5 cX5_close 1 2 := C
  show GG l E X h 0 [(0, .ref (ad E a0))] []
  refine g_aload_n C 0 dX5_close_0 rfl rfl ?_
  refine g_aload_n C 0 dX5_close_1 rfl rfl ?_
  refine gf5_16 C oa0 lf_X5_41 dX5_close_2 ?_
  refine g_iconst C dX5_close_5 cc_i_0 ?_
  obtain ⟨h1, hch1, hs⟩ := bnd hs
  refine g_cV (As := [.ref (ad E (rf a0 16)), .int (0 : Int32)]) (rest := []) C (w_X5_carryDays l E _ _ _ _ _ oa0 (tg5_16 oa0) hch1) mw_X5_carryDays lm_X5_145 oa0 rfl (ce5 E _ (oa0).2) rfl (by decide) rfl (Nat.le_of_ble_eq_true rfl) dX5_close_6 rfl ?_
  have e9 := Option.some.inj hs
  subst e9
  exact g_vret C hR dX5_close_9
set_option maxHeartbeats 4000000 in
set_option maxRecDepth 100000 in
theorem w_X5_hasAfter (l : Launch) (E : Ep) (h : Hp) (a0 : Nat) (x1 : Int32) (x2 : Int32) (res : Int32 × Hp) (oa0 : OKr a0 5) (hs : sh_X5_hasAfter h a0 x1 x2 = some res) : MG l E yX5_hasAfter cX5_hasAfter 4 (some .int) 7 [.ref (ad E a0), .int x1, .int x2] h (some (.int res.1)) res.2 := by
  refine MG.of (by decide) (Nat.le_of_ble_eq_true rfl) ?_
  intro X C hR
  have C : CX E X RX5 cX5_hasAfter 4 7 := C
  show GG l E X h 0 [(0, .ref (ad E a0)), (1, .int x1), (2, .int x2)] []
  refine g_aload_n C 0 dX5_hasAfter_0 rfl rfl ?_
  obtain ⟨h1, hch1, hs⟩ := bnd hs
  refine g_cV (As := []) (rest := []) C (w_X5_open l E _ _ _ oa0 hch1) mw_X5_open lm_X5_217 oa0 rfl (ce5 E _ (oa0).2) rfl (by decide) rfl (Nat.le_of_ble_eq_true rfl) dX5_hasAfter_1 rfl ?_
  refine g_aload_n C 0 dX5_hasAfter_4 rfl rfl ?_
  refine g_iload_n C 2 dX5_hasAfter_5 rfl rfl ?_
  obtain ⟨h2, hch2, hs⟩ := bnd hs
  refine g_cV (As := [.int x2]) (rest := []) C (w_X5_run l E _ _ _ _ oa0 hch2) mw_X5_run lm_X5_220 oa0 rfl (ce5 E _ (oa0).2) rfl (by decide) rfl (Nat.le_of_ble_eq_true rfl) dX5_hasAfter_6 rfl ?_
  refine g_aload_n C 0 dX5_hasAfter_9 rfl rfl ?_
  refine gf5_10 C oa0 lf_X5_29 dX5_hasAfter_10 ?_
  refine g_iload_n C 1 dX5_hasAfter_13 rfl rfl ?_
  refine g_iald C (tg5_10 oa0) dX5_hasAfter_14 hs (fun v3 hs => ?_)
  refine g_istore_n (lv' := [(3, .int v3), (0, .ref (ad E a0)), (1, .int x1), (2, .int x2)]) C dX5_hasAfter_15 rfl (by decide) rfl ?_
  refine g_aload_n C 1 dX5_hasAfter_16 rfl rfl ?_
  obtain ⟨h4, hch4, hs⟩ := bnd hs
  refine g_cV (As := []) (rest := []) C (w_X5_close l E _ _ _ oa0 hch4) mw_X5_close lm_X5_223 oa0 rfl (ce5 E _ (oa0).2) rfl (by decide) rfl (Nat.le_of_ble_eq_true rfl) dX5_hasAfter_17 rfl ?_
  refine g_iload_n C 0 dX5_hasAfter_20 rfl rfl ?_
  have e9 := Option.some.inj hs
  subst e9
  exact g_iret C hR dX5_hasAfter_21
set_option maxHeartbeats 4000000 in
set_option maxRecDepth 100000 in
theorem wb_X5_after_33 {l : Launch} {E : Ep} {X : Fx} {res : Int32 × Hp} (C : CX E X RX5 cX5_after 4 8) (h : Hp) (s0 : Int32) (hs : b_X5_after_33  h s0 = some res) (hR : RT E X (some .int) (some (.int res.1)) res.2) : GG l E X h 33 [] [.int s0] := by
  have e9 := Option.some.inj hs
  subst e9
  exact g_iret C hR dX5_after_33
set_option maxHeartbeats 4000000 in
set_option maxRecDepth 100000 in
theorem w_X5_after (l : Launch) (E : Ep) (h : Hp) (a0 : Nat) (x1 : Int32) (x2 : Int32) (res : Int32 × Hp) (oa0 : OKr a0 5) (hs : sh_X5_after h a0 x1 x2 = some res) : MG l E yX5_after cX5_after 4 (some .int) 8 [.ref (ad E a0), .int x1, .int x2] h (some (.int res.1)) res.2 := by
  refine MG.of (by decide) (Nat.le_of_ble_eq_true rfl) ?_
  intro X C hR
  have C : CX E X RX5 cX5_after 4 8 := C
  show GG l E X h 0 [(0, .ref (ad E a0)), (1, .int x1), (2, .int x2)] []
  refine g_aload_n C 0 dX5_after_0 rfl rfl ?_
  refine g_iconst C dX5_after_1 cc_i_0 ?_
  refine pf5_13 C oa0 lf_X5_68 dX5_after_2 ?_
  refine g_aload_n C 0 dX5_after_5 rfl rfl ?_
  refine g_iload_n C 1 dX5_after_6 rfl rfl ?_
  refine g_iload_n C 2 dX5_after_7 rfl rfl ?_
  refine g_iconst C dX5_after_8 cc_i_0 ?_
  refine g_bipush C dX5_after_9 cc_b_60 ?_
  obtain ⟨v1, hcv1, hs⟩ := bnd hs
  refine g_cV (As := [.int x1, .int x2, .int (0 : Int32), .int (60 : Int32)]) (rest := []) C (w_X5_wrongOne l E _ _ _ _ _ _ _ oa0 hcv1) mw_X5_wrongOne lm_X5_226 oa0 rfl (ce5 E _ (oa0).2) rfl (by decide) rfl (Nat.le_of_ble_eq_true rfl) dX5_after_11 rfl ?_
  refine g_istore_n (lv' := [(3, .int v1), (0, .ref (ad E a0)), (1, .int x1), (2, .int x2)]) C dX5_after_14 rfl (by decide) rfl ?_
  refine g_iload_n C 0 dX5_after_15 rfl rfl ?_
  refine g_if_ge (tgt := 27) C dX5_after_16 (by decide) hs (fun hs => ?_) (fun hs => ?_)
  · refine g_aload_n C 1 dX5_after_27 rfl rfl ?_
    refine g_iload_n C 2 dX5_after_28 rfl rfl ?_
    refine g_iload_n C 3 dX5_after_29 rfl rfl ?_
    obtain ⟨q2, hcq2, hs⟩ := bnd hs
    refine g_cV (As := [.int x1, .int x2]) (rest := []) C (w_X5_hasAfter l E _ _ _ _ _ oa0 hcq2) mw_X5_hasAfter lm_X5_230 oa0 rfl (ce5 E _ (oa0).2) rfl (by decide) rfl (Nat.le_of_ble_eq_true rfl) dX5_after_30 rfl ?_
    refine g_sub [] rfl ?_
    exact wb_X5_after_33 C q2.2 q2.1 hs hR
  · refine g_aload_n C 1 dX5_after_19 rfl rfl ?_
    refine g_iload_n C 0 dX5_after_20 rfl rfl ?_
    obtain ⟨q3, hcq3, hs⟩ := bnd hs
    refine g_cV (As := [.int v1]) (rest := []) C (w_X5_refuse l E _ _ _ _ oa0 hcq3) mw_X5_refuse lm_X5_152 oa0 rfl (ce5 E _ (oa0).2) rfl (by decide) rfl (Nat.le_of_ble_eq_true rfl) dX5_after_21 rfl ?_
    refine g_goto (tgt := 33) C dX5_after_24 (by decide) ?_
    refine g_sub [] rfl ?_
    exact wb_X5_after_33 C q3.2 q3.1 hs hR
set_option maxHeartbeats 4000000 in
set_option maxRecDepth 100000 in
theorem wb_X5_all_4 {l : Launch} {E : Ep} {X : Fx} {res : Int32} (C : CX E X RX5 cX5_all 3 0) : ∀ (n : Nat) (h : Hp) (a0 : Nat) (x1 : Int32) (x2 : Int32) (oa0 : OKr a0 5), b_X5_all_4  n h a0 x1 x2 = some res → RT E X (some .int) (some (.int res)) h → GG l E X h 4 [(0, .ref (ad E a0)), (1, .int x1), (2, .int x2)] [] := by
  intro n
  induction n with
  | zero =>
    intro h a0 x1 x2 oa0
    intro hs
    exact absurd hs (by intro e; cases e)
  | succ n ih =>
    intro h a0 x1 x2 oa0 hs hR
    have hk4 := ih
    have hs : f_X5_all_4  (b_X5_all_4  n) h a0 x1 x2 = some res := hs
    generalize b_X5_all_4  n = k4 at hs hk4
    refine g_iload_n C 2 dX5_all_4 rfl rfl ?_
    refine g_aload_n C 0 dX5_all_5 rfl rfl ?_
    refine gf5_0 C oa0 lf_X5_71 dX5_all_6 ?_
    refine g_icmp_ge (tgt := 27) C dX5_all_9 (by decide) hs (fun hs => ?_) (fun hs => ?_)
    · refine g_iload_n C 1 dX5_all_27 rfl rfl ?_
      have e9 := Option.some.inj hs
      subst e9
      exact g_iret C hR dX5_all_28
    · refine g_iload_n C 1 dX5_all_12 rfl rfl ?_
      refine g_aload_n C 0 dX5_all_13 rfl rfl ?_
      refine gf5_10 C oa0 lf_X5_29 dX5_all_14 ?_
      refine g_iload_n C 2 dX5_all_17 rfl rfl ?_
      refine g_iald C (tg5_10 oa0) dX5_all_18 hs (fun v1 hs => ?_)
      refine g_iadd C dX5_all_19 ?_
      refine g_istore_n (lv' := [(1, .int (x1 + v1)), (0, .ref (ad E a0)), (2, .int x2)]) C dX5_all_20 rfl (by decide) rfl ?_
      refine g_iinc (lv' := [(2, .int (x2 + (1 : Int32))), (1, .int (x1 + v1)), (0, .ref (ad E a0))]) (j := 2) C dX5_all_21 rfl (cc_n_1 _) (by decide) rfl ?_
      refine g_goto (tgt := 4) C dX5_all_24 (by decide) ?_
      refine g_sub [2, 1, 0] rfl ?_
      exact hk4 h a0 (x1 + v1) (x2 + (1 : Int32)) oa0 hs hR
set_option maxHeartbeats 4000000 in
set_option maxRecDepth 100000 in
theorem w_X5_all (l : Launch) (E : Ep) (h : Hp) (a0 : Nat) (res : Int32) (oa0 : OKr a0 5) (hs : sh_X5_all h a0 = some res) : MG l E yX5_all cX5_all 3 (some .int) 0 [.ref (ad E a0)] h (some (.int res)) h := by
  refine MG.of (by decide) (Nat.le_of_ble_eq_true rfl) ?_
  intro X C hR
  have C : CX E X RX5 cX5_all 3 0 := C
  show GG l E X h 0 [(0, .ref (ad E a0))] []
  refine g_iconst C dX5_all_0 cc_i_0 ?_
  refine g_istore_n (lv' := [(1, .int (0 : Int32)), (0, .ref (ad E a0))]) C dX5_all_1 rfl (by decide) rfl ?_
  refine g_iconst C dX5_all_2 cc_i_0 ?_
  refine g_istore_n (lv' := [(2, .int (0 : Int32)), (1, .int (0 : Int32)), (0, .ref (ad E a0))]) C dX5_all_3 rfl (by decide) rfl ?_
  refine g_sub [2, 1, 0] rfl ?_
  exact wb_X5_all_4 C 1000 h a0 (0 : Int32) (0 : Int32) oa0 hs hR
set_option maxHeartbeats 4000000 in
set_option maxRecDepth 100000 in
theorem w_X5_allAfter (l : Launch) (E : Ep) (h : Hp) (a0 : Nat) (x1 : Int32) (res : Int32 × Hp) (oa0 : OKr a0 5) (hs : sh_X5_allAfter h a0 x1 = some res) : MG l E yX5_allAfter cX5_allAfter 3 (some .int) 7 [.ref (ad E a0), .int x1] h (some (.int res.1)) res.2 := by
  refine MG.of (by decide) (Nat.le_of_ble_eq_true rfl) ?_
  intro X C hR
  have C : CX E X RX5 cX5_allAfter 3 7 := C
  show GG l E X h 0 [(0, .ref (ad E a0)), (1, .int x1)] []
  refine g_aload_n C 0 dX5_allAfter_0 rfl rfl ?_
  obtain ⟨h1, hch1, hs⟩ := bnd hs
  refine g_cV (As := []) (rest := []) C (w_X5_open l E _ _ _ oa0 hch1) mw_X5_open lm_X5_217 oa0 rfl (ce5 E _ (oa0).2) rfl (by decide) rfl (Nat.le_of_ble_eq_true rfl) dX5_allAfter_1 rfl ?_
  refine g_aload_n C 0 dX5_allAfter_4 rfl rfl ?_
  refine g_iload_n C 1 dX5_allAfter_5 rfl rfl ?_
  obtain ⟨h2, hch2, hs⟩ := bnd hs
  refine g_cV (As := [.int x1]) (rest := []) C (w_X5_run l E _ _ _ _ oa0 hch2) mw_X5_run lm_X5_220 oa0 rfl (ce5 E _ (oa0).2) rfl (by decide) rfl (Nat.le_of_ble_eq_true rfl) dX5_allAfter_6 rfl ?_
  refine g_aload_n C 0 dX5_allAfter_9 rfl rfl ?_
  obtain ⟨v3, hcv3, hs⟩ := bnd hs
  refine g_cV (As := []) (rest := []) C (w_X5_all l E _ _ _ oa0 hcv3) mw_X5_all lm_X5_233 oa0 rfl (ce5 E _ (oa0).2) rfl (by decide) rfl (Nat.le_of_ble_eq_true rfl) dX5_allAfter_10 rfl ?_
  refine g_istore_n (lv' := [(2, .int v3), (0, .ref (ad E a0)), (1, .int x1)]) C dX5_allAfter_13 rfl (by decide) rfl ?_
  refine g_aload_n C 1 dX5_allAfter_14 rfl rfl ?_
  obtain ⟨h4, hch4, hs⟩ := bnd hs
  refine g_cV (As := []) (rest := []) C (w_X5_close l E _ _ _ oa0 hch4) mw_X5_close lm_X5_223 oa0 rfl (ce5 E _ (oa0).2) rfl (by decide) rfl (Nat.le_of_ble_eq_true rfl) dX5_allAfter_15 rfl ?_
  refine g_iload_n C 0 dX5_allAfter_18 rfl rfl ?_
  have e9 := Option.some.inj hs
  subst e9
  exact g_iret C hR dX5_allAfter_19
set_option maxHeartbeats 4000000 in
set_option maxRecDepth 100000 in
theorem wb_X5_all__30 {l : Launch} {E : Ep} {X : Fx} {res : Int32 × Hp} (C : CX E X RX5 cX5_all_ 3 8) (h : Hp) (s0 : Int32) (hs : b_X5_all__30  h s0 = some res) (hR : RT E X (some .int) (some (.int res.1)) res.2) : GG l E X h 30 [] [.int s0] := by
  have e9 := Option.some.inj hs
  subst e9
  exact g_iret C hR dX5_all__30
set_option maxHeartbeats 4000000 in
set_option maxRecDepth 100000 in
theorem w_X5_all_ (l : Launch) (E : Ep) (h : Hp) (a0 : Nat) (x1 : Int32) (res : Int32 × Hp) (oa0 : OKr a0 5) (hs : sh_X5_all_ h a0 x1 = some res) : MG l E yX5_all_ cX5_all_ 3 (some .int) 8 [.ref (ad E a0), .int x1] h (some (.int res.1)) res.2 := by
  refine MG.of (by decide) (Nat.le_of_ble_eq_true rfl) ?_
  intro X C hR
  have C : CX E X RX5 cX5_all_ 3 8 := C
  show GG l E X h 0 [(0, .ref (ad E a0)), (1, .int x1)] []
  refine g_aload_n C 0 dX5_all__0 rfl rfl ?_
  refine g_iconst C dX5_all__1 cc_i_0 ?_
  refine pf5_13 C oa0 lf_X5_68 dX5_all__2 ?_
  refine g_iload_n C 1 dX5_all__5 rfl rfl ?_
  refine g_iconst C dX5_all__6 cc_i_0 ?_
  refine g_bipush C dX5_all__7 cc_b_60 ?_
  obtain ⟨v1, hcv1, hs⟩ := bnd hs
  refine g_cS (As := [.int x1, .int (0 : Int32), .int (60 : Int32)]) (rest := []) C (w_X5_wrongDays l E _ _ _ _ _ hcv1) mw_X5_wrongDays lm_X5_214 rfl (by decide) rfl (Nat.le_of_ble_eq_true rfl) dX5_all__9 rfl ?_
  refine g_istore_n (lv' := [(2, .int v1), (0, .ref (ad E a0)), (1, .int x1)]) C dX5_all__12 rfl (by decide) rfl ?_
  refine g_iload_n C 0 dX5_all__13 rfl rfl ?_
  refine g_if_ge (tgt := 25) C dX5_all__14 (by decide) hs (fun hs => ?_) (fun hs => ?_)
  · refine g_aload_n C 1 dX5_all__25 rfl rfl ?_
    refine g_iload_n C 2 dX5_all__26 rfl rfl ?_
    obtain ⟨q2, hcq2, hs⟩ := bnd hs
    refine g_cV (As := [.int x1]) (rest := []) C (w_X5_allAfter l E _ _ _ _ oa0 hcq2) mw_X5_allAfter lm_X5_236 oa0 rfl (ce5 E _ (oa0).2) rfl (by decide) rfl (Nat.le_of_ble_eq_true rfl) dX5_all__27 rfl ?_
    refine g_sub [] rfl ?_
    exact wb_X5_all__30 C q2.2 q2.1 hs hR
  · refine g_aload_n C 1 dX5_all__17 rfl rfl ?_
    refine g_iload_n C 0 dX5_all__18 rfl rfl ?_
    obtain ⟨q3, hcq3, hs⟩ := bnd hs
    refine g_cV (As := [.int v1]) (rest := []) C (w_X5_refuse l E _ _ _ _ oa0 hcq3) mw_X5_refuse lm_X5_152 oa0 rfl (ce5 E _ (oa0).2) rfl (by decide) rfl (Nat.le_of_ble_eq_true rfl) dX5_all__19 rfl ?_
    refine g_goto (tgt := 30) C dX5_all__22 (by decide) ?_
    refine g_sub [] rfl ?_
    exact wb_X5_all__30 C q3.2 q3.1 hs hR
set_option maxHeartbeats 4000000 in
set_option maxRecDepth 100000 in
theorem wb_X5_enough_78 {l : Launch} {E : Ep} {X : Fx} {res : Int32 × Hp} (C : CX E X RX5 cX5_enough 5 6) (h : Hp) (s0 : Int32) (hs : b_X5_enough_78  h s0 = some res) (hR : RT E X (some .int) (some (.int res.1)) res.2) : GG l E X h 78 [] [.int s0] := by
  have e9 := Option.some.inj hs
  subst e9
  exact g_iret C hR dX5_enough_78
set_option maxHeartbeats 4000000 in
set_option maxRecDepth 100000 in
theorem wb_X5_enough_60 {l : Launch} {E : Ep} {X : Fx} {res : Int32 × Hp} (C : CX E X RX5 cX5_enough 5 6) (h : Hp) (a0 : Nat) (x4 : Int32) (oa0 : OKr a0 5) (hs : b_X5_enough_60  h a0 x4 = some res) (hR : RT E X (some .int) (some (.int res.1)) res.2) : GG l E X h 60 [(0, .ref (ad E a0)), (4, .int x4)] [] := by
  refine g_aload_n C 0 dX5_enough_60 rfl rfl ?_
  obtain ⟨h1, hch1, hs⟩ := bnd hs
  refine g_cV (As := []) (rest := []) C (w_X5_close l E _ _ _ oa0 hch1) mw_X5_close lm_X5_223 oa0 rfl (ce5 E _ (oa0).2) rfl (by decide) rfl (Nat.le_of_ble_eq_true rfl) dX5_enough_61 rfl ?_
  refine g_iload C 1 dX5_enough_64 rfl ?_
  refine g_bipush C dX5_enough_66 cc_b_60 ?_
  refine g_icmp_gt (tgt := 76) C dX5_enough_68 (by decide) hs (fun hs => ?_) (fun hs => ?_)
  · refine g_bipush C dX5_enough_76 cc_b_m9 ?_
    refine g_sub [] rfl ?_
    exact wb_X5_enough_78 C h1 (-9 : Int32) hs hR
  · refine g_iload C 1 dX5_enough_71 rfl ?_
    refine g_goto (tgt := 78) C dX5_enough_73 (by decide) ?_
    refine g_sub [] rfl ?_
    exact wb_X5_enough_78 C h1 x4 hs hR
set_option maxHeartbeats 4000000 in
set_option maxRecDepth 100000 in
theorem wb_X5_enough_33 {l : Launch} {E : Ep} {X : Fx} {res : Int32 × Hp} (C : CX E X RX5 cX5_enough 5 6) : ∀ (n : Nat) (h : Hp) (a0 : Nat) (x1 : Int32) (x2 : Int32) (x4 : Int32) (oa0 : OKr a0 5), b_X5_enough_33  n h a0 x1 x2 x4 = some res → RT E X (some .int) (some (.int res.1)) res.2 → GG l E X h 33 [(0, .ref (ad E a0)), (1, .int x1), (2, .int x2), (4, .int x4)] [] := by
  intro n
  induction n with
  | zero =>
    intro h a0 x1 x2 x4 oa0
    intro hs
    exact absurd hs (by intro e; cases e)
  | succ n ih =>
    intro h a0 x1 x2 x4 oa0 hs hR
    have hk33 := ih
    have hs : f_X5_enough_33  (b_X5_enough_33  n) h a0 x1 x2 x4 = some res := hs
    generalize b_X5_enough_33  n = k33 at hs hk33
    refine g_iload C 3 dX5_enough_33 rfl ?_
    refine g_bipush C dX5_enough_35 cc_b_60 ?_
    refine g_icmp_gt (tgt := 60) C dX5_enough_37 (by decide) hs (fun hs => ?_) (fun hs => ?_)
    · refine g_sub [0, 3] rfl ?_
      exact wb_X5_enough_60 C h a0 x4 oa0 hs hR
    · refine g_aload_n C 0 dX5_enough_40 rfl rfl ?_
      refine gf5_10 C oa0 lf_X5_29 dX5_enough_41 ?_
      refine g_iload_n C 1 dX5_enough_44 rfl rfl ?_
      refine g_iald C (tg5_10 oa0) dX5_enough_45 hs (fun v1 hs => ?_)
      refine g_iload_n C 2 dX5_enough_46 rfl rfl ?_
      refine g_icmp_ge (tgt := 60) C dX5_enough_47 (by decide) hs (fun hs => ?_) (fun hs => ?_)
      · refine g_sub [0, 3] rfl ?_
        exact wb_X5_enough_60 C h a0 x4 oa0 hs hR
      · refine g_aload_n C 0 dX5_enough_50 rfl rfl ?_
        obtain ⟨h2, hch2, hs⟩ := bnd hs
        refine g_cV (As := []) (rest := []) C (w_X5_dayOn l E _ _ _ oa0 hch2) mw_X5_dayOn lm_X5_149 oa0 rfl (ce5 E _ (oa0).2) rfl (by decide) rfl (Nat.le_of_ble_eq_true rfl) dX5_enough_51 rfl ?_
        refine g_iinc (lv' := [(4, .int (x4 + (1 : Int32))), (0, .ref (ad E a0)), (1, .int x1), (2, .int x2)]) (j := 3) C dX5_enough_54 rfl (cc_n_1 _) (by decide) rfl ?_
        refine g_goto (tgt := 33) C dX5_enough_57 (by decide) ?_
        refine g_sub [1, 2, 3, 0] rfl ?_
        exact hk33 h2 a0 x1 x2 (x4 + (1 : Int32)) oa0 hs hR
set_option maxHeartbeats 4000000 in
set_option maxRecDepth 100000 in
theorem w_X5_enough (l : Launch) (E : Ep) (h : Hp) (a0 : Nat) (x1 : Int32) (x2 : Int32) (res : Int32 × Hp) (oa0 : OKr a0 5) (hs : sh_X5_enough h a0 x1 x2 = some res) : MG l E yX5_enough cX5_enough 5 (some .int) 6 [.ref (ad E a0), .int x1, .int x2] h (some (.int res.1)) res.2 := by
  refine MG.of (by decide) (Nat.le_of_ble_eq_true rfl) ?_
  intro X C hR
  have C : CX E X RX5 cX5_enough 5 6 := C
  show GG l E X h 0 [(0, .ref (ad E a0)), (1, .int x1), (2, .int x2)] []
  refine g_aload_n C 0 dX5_enough_0 rfl rfl ?_
  refine g_iconst C dX5_enough_1 cc_i_0 ?_
  refine pf5_13 C oa0 lf_X5_68 dX5_enough_2 ?_
  refine g_aload_n C 0 dX5_enough_5 rfl rfl ?_
  refine g_iload_n C 1 dX5_enough_6 rfl rfl ?_
  refine g_iload_n C 2 dX5_enough_7 rfl rfl ?_
  refine g_iconst C dX5_enough_8 cc_i_0 ?_
  refine g_sipush C dX5_enough_9 cc_s_9999 ?_
  obtain ⟨v1, hcv1, hs⟩ := bnd hs
  refine g_cV (As := [.int x1, .int x2, .int (0 : Int32), .int (9999 : Int32)]) (rest := []) C (w_X5_wrongOne l E _ _ _ _ _ _ _ oa0 hcv1) mw_X5_wrongOne lm_X5_226 oa0 rfl (ce5 E _ (oa0).2) rfl (by decide) rfl (Nat.le_of_ble_eq_true rfl) dX5_enough_12 rfl ?_
  refine g_istore_n (lv' := [(3, .int v1), (0, .ref (ad E a0)), (1, .int x1), (2, .int x2)]) C dX5_enough_15 rfl (by decide) rfl ?_
  refine g_iload_n C 0 dX5_enough_16 rfl rfl ?_
  refine g_if_ge (tgt := 26) C dX5_enough_17 (by decide) hs (fun hs => ?_) (fun hs => ?_)
  · refine g_aload_n C 1 dX5_enough_26 rfl rfl ?_
    obtain ⟨h2, hch2, hs⟩ := bnd hs
    refine g_cV (As := []) (rest := []) C (w_X5_open l E _ _ _ oa0 hch2) mw_X5_open lm_X5_217 oa0 rfl (ce5 E _ (oa0).2) rfl (by decide) rfl (Nat.le_of_ble_eq_true rfl) dX5_enough_27 rfl ?_
    refine g_iconst C dX5_enough_30 cc_i_0 ?_
    refine g_istore (lv' := [(4, .int (0 : Int32)), (3, .int v1), (0, .ref (ad E a0)), (1, .int x1), (2, .int x2)]) C dX5_enough_31 (by decide) rfl ?_
    refine g_sub [2, 3, 4, 0] rfl ?_
    exact wb_X5_enough_33 C 1000 h2 a0 x1 x2 (0 : Int32) oa0 hs hR
  · refine g_aload_n C 1 dX5_enough_20 rfl rfl ?_
    refine g_iload_n C 0 dX5_enough_21 rfl rfl ?_
    obtain ⟨q3, hcq3, hs⟩ := bnd hs
    refine g_cV (As := [.int v1]) (rest := []) C (w_X5_refuse l E _ _ _ _ oa0 hcq3) mw_X5_refuse lm_X5_152 oa0 rfl (ce5 E _ (oa0).2) rfl (by decide) rfl (Nat.le_of_ble_eq_true rfl) dX5_enough_22 rfl ?_
    have e9 := Option.some.inj hs
    subst e9
    exact g_iret C hR dX5_enough_25
set_option maxHeartbeats 4000000 in
set_option maxRecDepth 100000 in
theorem wb_X5_richestNow_37 {l : Launch} {E : Ep} {X : Fx} {res : Int32} (C : CX E X RX5 cX5_richestNow 3 0) (k5 : Hp → Nat → Int32 → Int32 → Option (Int32)) (hk5 : ∀ (h : Hp) (a0 : Nat) (x1 : Int32) (x2 : Int32), OKr a0 5 → k5 h a0 x1 x2 = some res → RT E X (some .int) (some (.int res)) h → GG l E X h 5 [(0, .ref (ad E a0)), (1, .int x1), (2, .int x2)] []) (h : Hp) (a0 : Nat) (x2 : Int32) (s0 : Int32) (oa0 : OKr a0 5) (hs : b_X5_richestNow_37 k5 h a0 x2 s0 = some res) (hR : RT E X (some .int) (some (.int res)) h) : GG l E X h 37 [(0, .ref (ad E a0)), (2, .int x2)] [.int s0] := by
  refine g_istore_n (lv' := [(1, .int s0), (0, .ref (ad E a0)), (2, .int x2)]) C dX5_richestNow_37 rfl (by decide) rfl ?_
  refine g_iinc (lv' := [(2, .int (x2 + (1 : Int32))), (1, .int s0), (0, .ref (ad E a0))]) (j := 2) C dX5_richestNow_38 rfl (cc_n_1 _) (by decide) rfl ?_
  refine g_goto (tgt := 5) C dX5_richestNow_41 (by decide) ?_
  refine g_sub [2, 1, 0] rfl ?_
  exact hk5 h a0 s0 (x2 + (1 : Int32)) oa0 hs hR
set_option maxHeartbeats 4000000 in
set_option maxRecDepth 100000 in
theorem wb_X5_richestNow_32 {l : Launch} {E : Ep} {X : Fx} {res : Int32} (C : CX E X RX5 cX5_richestNow 3 0) (k5 : Hp → Nat → Int32 → Int32 → Option (Int32)) (hk5 : ∀ (h : Hp) (a0 : Nat) (x1 : Int32) (x2 : Int32), OKr a0 5 → k5 h a0 x1 x2 = some res → RT E X (some .int) (some (.int res)) h → GG l E X h 5 [(0, .ref (ad E a0)), (1, .int x1), (2, .int x2)] []) (h : Hp) (a0 : Nat) (x2 : Int32) (oa0 : OKr a0 5) (hs : b_X5_richestNow_32 k5 h a0 x2 = some res) (hR : RT E X (some .int) (some (.int res)) h) : GG l E X h 32 [(0, .ref (ad E a0)), (2, .int x2)] [] := by
  refine g_iload_n C 1 dX5_richestNow_32 rfl rfl ?_
  refine g_goto (tgt := 37) C dX5_richestNow_33 (by decide) ?_
  exact wb_X5_richestNow_37 C k5 hk5 h a0 x2 x2 oa0 hs hR
set_option maxHeartbeats 4000000 in
set_option maxRecDepth 100000 in
theorem wb_X5_richestNow_5 {l : Launch} {E : Ep} {X : Fx} {res : Int32} (C : CX E X RX5 cX5_richestNow 3 0) : ∀ (n : Nat) (h : Hp) (a0 : Nat) (x1 : Int32) (x2 : Int32) (oa0 : OKr a0 5), b_X5_richestNow_5  n h a0 x1 x2 = some res → RT E X (some .int) (some (.int res)) h → GG l E X h 5 [(0, .ref (ad E a0)), (1, .int x1), (2, .int x2)] [] := by
  intro n
  induction n with
  | zero =>
    intro h a0 x1 x2 oa0
    intro hs
    exact absurd hs (by intro e; cases e)
  | succ n ih =>
    intro h a0 x1 x2 oa0 hs hR
    have hk5 := ih
    have hs : f_X5_richestNow_5  (b_X5_richestNow_5  n) h a0 x1 x2 = some res := hs
    generalize b_X5_richestNow_5  n = k5 at hs hk5
    refine g_iload_n C 2 dX5_richestNow_5 rfl rfl ?_
    refine g_aload_n C 0 dX5_richestNow_6 rfl rfl ?_
    refine gf5_0 C oa0 lf_X5_71 dX5_richestNow_7 ?_
    refine g_icmp_ge (tgt := 44) C dX5_richestNow_10 (by decide) hs (fun hs => ?_) (fun hs => ?_)
    · refine g_iload_n C 1 dX5_richestNow_44 rfl rfl ?_
      have e9 := Option.some.inj hs
      subst e9
      exact g_iret C hR dX5_richestNow_45
    · refine g_iload_n C 1 dX5_richestNow_13 rfl rfl ?_
      refine g_if_lt (tgt := 32) C dX5_richestNow_14 (by decide) hs (fun hs => ?_) (fun hs => ?_)
      · refine g_sub [0, 2] rfl ?_
        exact wb_X5_richestNow_32 C k5 hk5 h a0 x2 oa0 hs hR
      · refine g_aload_n C 0 dX5_richestNow_17 rfl rfl ?_
        refine gf5_10 C oa0 lf_X5_29 dX5_richestNow_18 ?_
        refine g_iload_n C 2 dX5_richestNow_21 rfl rfl ?_
        refine g_iald C (tg5_10 oa0) dX5_richestNow_22 hs (fun v1 hs => ?_)
        refine g_aload_n C 0 dX5_richestNow_23 rfl rfl ?_
        refine gf5_10 C oa0 lf_X5_29 dX5_richestNow_24 ?_
        refine g_iload_n C 1 dX5_richestNow_27 rfl rfl ?_
        refine g_iald C (tg5_10 oa0) dX5_richestNow_28 hs (fun v2 hs => ?_)
        refine g_icmp_le (tgt := 36) C dX5_richestNow_29 (by decide) hs (fun hs => ?_) (fun hs => ?_)
        · refine g_iload_n C 1 dX5_richestNow_36 rfl rfl ?_
          refine g_sub [0, 2] rfl ?_
          exact wb_X5_richestNow_37 C k5 hk5 h a0 x2 x1 oa0 hs hR
        · refine g_sub [0, 2] rfl ?_
          exact wb_X5_richestNow_32 C k5 hk5 h a0 x2 oa0 hs hR
set_option maxHeartbeats 4000000 in
set_option maxRecDepth 100000 in
theorem w_X5_richestNow (l : Launch) (E : Ep) (h : Hp) (a0 : Nat) (res : Int32) (oa0 : OKr a0 5) (hs : sh_X5_richestNow h a0 = some res) : MG l E yX5_richestNow cX5_richestNow 3 (some .int) 0 [.ref (ad E a0)] h (some (.int res)) h := by
  refine MG.of (by decide) (Nat.le_of_ble_eq_true rfl) ?_
  intro X C hR
  have C : CX E X RX5 cX5_richestNow 3 0 := C
  show GG l E X h 0 [(0, .ref (ad E a0))] []
  refine g_bipush C dX5_richestNow_0 cc_b_m9 ?_
  refine g_istore_n (lv' := [(1, .int (-9 : Int32)), (0, .ref (ad E a0))]) C dX5_richestNow_2 rfl (by decide) rfl ?_
  refine g_iconst C dX5_richestNow_3 cc_i_0 ?_
  refine g_istore_n (lv' := [(2, .int (0 : Int32)), (1, .int (-9 : Int32)), (0, .ref (ad E a0))]) C dX5_richestNow_4 rfl (by decide) rfl ?_
  refine g_sub [2, 1, 0] rfl ?_
  exact wb_X5_richestNow_5 C 1000 h a0 (-9 : Int32) (0 : Int32) oa0 hs hR
set_option maxHeartbeats 4000000 in
set_option maxRecDepth 100000 in
theorem w_X5_richest (l : Launch) (E : Ep) (h : Hp) (a0 : Nat) (x1 : Int32) (res : Int32 × Hp) (oa0 : OKr a0 5) (hs : sh_X5_richest h a0 x1 = some res) : MG l E yX5_richest cX5_richest 4 (some .int) 7 [.ref (ad E a0), .int x1] h (some (.int res.1)) res.2 := by
  refine MG.of (by decide) (Nat.le_of_ble_eq_true rfl) ?_
  intro X C hR
  have C : CX E X RX5 cX5_richest 4 7 := C
  show GG l E X h 0 [(0, .ref (ad E a0)), (1, .int x1)] []
  refine g_aload_n C 0 dX5_richest_0 rfl rfl ?_
  refine g_iconst C dX5_richest_1 cc_i_0 ?_
  refine pf5_13 C oa0 lf_X5_68 dX5_richest_2 ?_
  refine g_iload_n C 1 dX5_richest_5 rfl rfl ?_
  refine g_iconst C dX5_richest_6 cc_i_0 ?_
  refine g_bipush C dX5_richest_7 cc_b_60 ?_
  obtain ⟨v1, hcv1, hs⟩ := bnd hs
  refine g_cS (As := [.int x1, .int (0 : Int32), .int (60 : Int32)]) (rest := []) C (w_X5_wrongDays l E _ _ _ _ _ hcv1) mw_X5_wrongDays lm_X5_214 rfl (by decide) rfl (Nat.le_of_ble_eq_true rfl) dX5_richest_9 rfl ?_
  refine g_istore_n (lv' := [(2, .int v1), (0, .ref (ad E a0)), (1, .int x1)]) C dX5_richest_12 rfl (by decide) rfl ?_
  refine g_iload_n C 0 dX5_richest_13 rfl rfl ?_
  refine g_if_ge (tgt := 23) C dX5_richest_14 (by decide) hs (fun hs => ?_) (fun hs => ?_)
  · refine g_aload_n C 1 dX5_richest_23 rfl rfl ?_
    obtain ⟨h2, hch2, hs⟩ := bnd hs
    refine g_cV (As := []) (rest := []) C (w_X5_open l E _ _ _ oa0 hch2) mw_X5_open lm_X5_217 oa0 rfl (ce5 E _ (oa0).2) rfl (by decide) rfl (Nat.le_of_ble_eq_true rfl) dX5_richest_24 rfl ?_
    refine g_aload_n C 1 dX5_richest_27 rfl rfl ?_
    refine g_iload_n C 2 dX5_richest_28 rfl rfl ?_
    obtain ⟨h3, hch3, hs⟩ := bnd hs
    refine g_cV (As := [.int x1]) (rest := []) C (w_X5_run l E _ _ _ _ oa0 hch3) mw_X5_run lm_X5_220 oa0 rfl (ce5 E _ (oa0).2) rfl (by decide) rfl (Nat.le_of_ble_eq_true rfl) dX5_richest_29 rfl ?_
    refine g_aload_n C 1 dX5_richest_32 rfl rfl ?_
    obtain ⟨v4, hcv4, hs⟩ := bnd hs
    refine g_cV (As := []) (rest := []) C (w_X5_richestNow l E _ _ _ oa0 hcv4) mw_X5_richestNow lm_X5_239 oa0 rfl (ce5 E _ (oa0).2) rfl (by decide) rfl (Nat.le_of_ble_eq_true rfl) dX5_richest_33 rfl ?_
    refine g_istore_n (lv' := [(3, .int v4), (2, .int v1), (0, .ref (ad E a0)), (1, .int x1)]) C dX5_richest_36 rfl (by decide) rfl ?_
    refine g_aload_n C 2 dX5_richest_37 rfl rfl ?_
    obtain ⟨h5, hch5, hs⟩ := bnd hs
    refine g_cV (As := []) (rest := []) C (w_X5_close l E _ _ _ oa0 hch5) mw_X5_close lm_X5_223 oa0 rfl (ce5 E _ (oa0).2) rfl (by decide) rfl (Nat.le_of_ble_eq_true rfl) dX5_richest_38 rfl ?_
    refine g_iload_n C 0 dX5_richest_41 rfl rfl ?_
    have e9 := Option.some.inj hs
    subst e9
    exact g_iret C hR dX5_richest_42
  · refine g_aload_n C 1 dX5_richest_17 rfl rfl ?_
    refine g_iload_n C 0 dX5_richest_18 rfl rfl ?_
    obtain ⟨q6, hcq6, hs⟩ := bnd hs
    refine g_cV (As := [.int v1]) (rest := []) C (w_X5_refuse l E _ _ _ _ oa0 hcq6) mw_X5_refuse lm_X5_152 oa0 rfl (ce5 E _ (oa0).2) rfl (by decide) rfl (Nat.le_of_ble_eq_true rfl) dX5_richest_19 rfl ?_
    have e9 := Option.some.inj hs
    subst e9
    exact g_iret C hR dX5_richest_22
set_option maxHeartbeats 4000000 in
set_option maxRecDepth 100000 in
theorem w_X5_lost (l : Launch) (E : Ep) (h : Hp) (a0 : Nat) (x1 : Int32) (res : Int32 × Hp) (oa0 : OKr a0 5) (hs : sh_X5_lost h a0 x1 = some res) : MG l E yX5_lost cX5_lost 4 (some .int) 7 [.ref (ad E a0), .int x1] h (some (.int res.1)) res.2 := by
  refine MG.of (by decide) (Nat.le_of_ble_eq_true rfl) ?_
  intro X C hR
  have C : CX E X RX5 cX5_lost 4 7 := C
  show GG l E X h 0 [(0, .ref (ad E a0)), (1, .int x1)] []
  refine g_aload_n C 0 dX5_lost_0 rfl rfl ?_
  refine g_iconst C dX5_lost_1 cc_i_0 ?_
  refine pf5_13 C oa0 lf_X5_68 dX5_lost_2 ?_
  refine g_iload_n C 1 dX5_lost_5 rfl rfl ?_
  refine g_iconst C dX5_lost_6 cc_i_0 ?_
  refine g_bipush C dX5_lost_7 cc_b_60 ?_
  obtain ⟨v1, hcv1, hs⟩ := bnd hs
  refine g_cS (As := [.int x1, .int (0 : Int32), .int (60 : Int32)]) (rest := []) C (w_X5_wrongDays l E _ _ _ _ _ hcv1) mw_X5_wrongDays lm_X5_214 rfl (by decide) rfl (Nat.le_of_ble_eq_true rfl) dX5_lost_9 rfl ?_
  refine g_istore_n (lv' := [(2, .int v1), (0, .ref (ad E a0)), (1, .int x1)]) C dX5_lost_12 rfl (by decide) rfl ?_
  refine g_iload_n C 0 dX5_lost_13 rfl rfl ?_
  refine g_if_ge (tgt := 23) C dX5_lost_14 (by decide) hs (fun hs => ?_) (fun hs => ?_)
  · refine g_aload_n C 1 dX5_lost_23 rfl rfl ?_
    obtain ⟨h2, hch2, hs⟩ := bnd hs
    refine g_cV (As := []) (rest := []) C (w_X5_open l E _ _ _ oa0 hch2) mw_X5_open lm_X5_217 oa0 rfl (ce5 E _ (oa0).2) rfl (by decide) rfl (Nat.le_of_ble_eq_true rfl) dX5_lost_24 rfl ?_
    refine g_aload_n C 1 dX5_lost_27 rfl rfl ?_
    refine g_iconst C dX5_lost_28 cc_i_0 ?_
    refine pf5_12 C oa0 lf_X5_122 dX5_lost_29 ?_
    refine g_aload_n C 1 dX5_lost_32 rfl rfl ?_
    refine g_iload_n C 2 dX5_lost_33 rfl rfl ?_
    obtain ⟨h3, hch3, hs⟩ := bnd hs
    refine g_cV (As := [.int x1]) (rest := []) C (w_X5_run l E _ _ _ _ oa0 hch3) mw_X5_run lm_X5_220 oa0 rfl (ce5 E _ (oa0).2) rfl (by decide) rfl (Nat.le_of_ble_eq_true rfl) dX5_lost_34 rfl ?_
    refine g_aload_n C 1 dX5_lost_37 rfl rfl ?_
    refine gf5_12 C oa0 lf_X5_122 dX5_lost_38 ?_
    refine g_istore_n (lv' := [(3, .int (h3.1 a0 12)), (2, .int v1), (0, .ref (ad E a0)), (1, .int x1)]) C dX5_lost_41 rfl (by decide) rfl ?_
    refine g_aload_n C 2 dX5_lost_42 rfl rfl ?_
    obtain ⟨h4, hch4, hs⟩ := bnd hs
    refine g_cV (As := []) (rest := []) C (w_X5_close l E _ _ _ oa0 hch4) mw_X5_close lm_X5_223 oa0 rfl (ce5 E _ (oa0).2) rfl (by decide) rfl (Nat.le_of_ble_eq_true rfl) dX5_lost_43 rfl ?_
    refine g_iload_n C 0 dX5_lost_46 rfl rfl ?_
    have e9 := Option.some.inj hs
    subst e9
    exact g_iret C hR dX5_lost_47
  · refine g_aload_n C 1 dX5_lost_17 rfl rfl ?_
    refine g_iload_n C 0 dX5_lost_18 rfl rfl ?_
    obtain ⟨q5, hcq5, hs⟩ := bnd hs
    refine g_cV (As := [.int v1]) (rest := []) C (w_X5_refuse l E _ _ _ _ oa0 hcq5) mw_X5_refuse lm_X5_152 oa0 rfl (ce5 E _ (oa0).2) rfl (by decide) rfl (Nat.le_of_ble_eq_true rfl) dX5_lost_19 rfl ?_
    have e9 := Option.some.inj hs
    subst e9
    exact g_iret C hR dX5_lost_22
set_option maxHeartbeats 4000000 in
set_option maxRecDepth 100000 in
theorem wb_X5_grows_56 {l : Launch} {E : Ep} {X : Fx} {res : Int32 × Hp} (C : CX E X RX5 cX5_grows 5 8) (h : Hp) (s0 : Int32) (hs : b_X5_grows_56  h s0 = some res) (hR : RT E X (some .int) (some (.int res.1)) res.2) : GG l E X h 56 [] [.int s0] := by
  have e9 := Option.some.inj hs
  subst e9
  exact g_iret C hR dX5_grows_56
set_option maxHeartbeats 4000000 in
set_option maxRecDepth 100000 in
theorem w_X5_grows (l : Launch) (E : Ep) (h : Hp) (a0 : Nat) (x1 : Int32) (res : Int32 × Hp) (oa0 : OKr a0 5) (hs : sh_X5_grows h a0 x1 = some res) : MG l E yX5_grows cX5_grows 5 (some .int) 8 [.ref (ad E a0), .int x1] h (some (.int res.1)) res.2 := by
  refine MG.of (by decide) (Nat.le_of_ble_eq_true rfl) ?_
  intro X C hR
  have C : CX E X RX5 cX5_grows 5 8 := C
  show GG l E X h 0 [(0, .ref (ad E a0)), (1, .int x1)] []
  refine g_aload_n C 0 dX5_grows_0 rfl rfl ?_
  refine g_iconst C dX5_grows_1 cc_i_0 ?_
  refine pf5_13 C oa0 lf_X5_68 dX5_grows_2 ?_
  refine g_iload_n C 1 dX5_grows_5 rfl rfl ?_
  refine g_iconst C dX5_grows_6 cc_i_1 ?_
  refine g_bipush C dX5_grows_7 cc_b_60 ?_
  obtain ⟨v1, hcv1, hs⟩ := bnd hs
  refine g_cS (As := [.int x1, .int (1 : Int32), .int (60 : Int32)]) (rest := []) C (w_X5_wrongDays l E _ _ _ _ _ hcv1) mw_X5_wrongDays lm_X5_214 rfl (by decide) rfl (Nat.le_of_ble_eq_true rfl) dX5_grows_9 rfl ?_
  refine g_istore_n (lv' := [(2, .int v1), (0, .ref (ad E a0)), (1, .int x1)]) C dX5_grows_12 rfl (by decide) rfl ?_
  refine g_iload_n C 0 dX5_grows_13 rfl rfl ?_
  refine g_if_ge (tgt := 23) C dX5_grows_14 (by decide) hs (fun hs => ?_) (fun hs => ?_)
  · refine g_aload_n C 1 dX5_grows_23 rfl rfl ?_
    obtain ⟨v2, hcv2, hs⟩ := bnd hs
    refine g_cV (As := []) (rest := []) C (w_X5_all l E _ _ _ oa0 hcv2) mw_X5_all lm_X5_233 oa0 rfl (ce5 E _ (oa0).2) rfl (by decide) rfl (Nat.le_of_ble_eq_true rfl) dX5_grows_24 rfl ?_
    refine g_istore_n (lv' := [(3, .int v2), (2, .int v1), (0, .ref (ad E a0)), (1, .int x1)]) C dX5_grows_27 rfl (by decide) rfl ?_
    refine g_aload_n C 2 dX5_grows_28 rfl rfl ?_
    refine g_iload_n C 3 dX5_grows_29 rfl rfl ?_
    obtain ⟨q3, hcq3, hs⟩ := bnd hs
    refine g_cV (As := [.int x1]) (rest := []) C (w_X5_allAfter l E _ _ _ _ oa0 hcq3) mw_X5_allAfter lm_X5_236 oa0 rfl (ce5 E _ (oa0).2) rfl (by decide) rfl (Nat.le_of_ble_eq_true rfl) dX5_grows_30 rfl ?_
    refine g_istore (lv' := [(4, .int q3.1), (3, .int v2), (2, .int v1), (0, .ref (ad E a0)), (1, .int x1)]) C dX5_grows_33 (by decide) rfl ?_
    refine g_iload C 0 dX5_grows_35 rfl ?_
    refine g_iload_n C 1 dX5_grows_37 rfl rfl ?_
    refine g_icmp_le (tgt := 45) C dX5_grows_38 (by decide) hs (fun hs => ?_) (fun hs => ?_)
    · refine g_iload C 0 dX5_grows_45 rfl ?_
      refine g_iload_n C 1 dX5_grows_47 rfl rfl ?_
      refine g_icmp_ne (tgt := 55) C dX5_grows_48 (by decide) hs (fun hs => ?_) (fun hs => ?_)
      · refine g_iconst C dX5_grows_51 cc_i_0 ?_
        refine g_goto (tgt := 56) C dX5_grows_52 (by decide) ?_
        refine g_sub [] rfl ?_
        exact wb_X5_grows_56 C q3.2 (0 : Int32) hs hR
      · refine g_iconst C dX5_grows_55 cc_i_2 ?_
        refine g_sub [] rfl ?_
        exact wb_X5_grows_56 C q3.2 (2 : Int32) hs hR
    · refine g_iconst C dX5_grows_41 cc_i_1 ?_
      refine g_goto (tgt := 56) C dX5_grows_42 (by decide) ?_
      refine g_sub [] rfl ?_
      exact wb_X5_grows_56 C q3.2 (1 : Int32) hs hR
  · refine g_aload_n C 1 dX5_grows_17 rfl rfl ?_
    refine g_iload_n C 0 dX5_grows_18 rfl rfl ?_
    obtain ⟨q4, hcq4, hs⟩ := bnd hs
    refine g_cV (As := [.int v1]) (rest := []) C (w_X5_refuse l E _ _ _ _ oa0 hcq4) mw_X5_refuse lm_X5_152 oa0 rfl (ce5 E _ (oa0).2) rfl (by decide) rfl (Nat.le_of_ble_eq_true rfl) dX5_grows_19 rfl ?_
    have e9 := Option.some.inj hs
    subst e9
    exact g_iret C hR dX5_grows_22
set_option maxHeartbeats 4000000 in
set_option maxRecDepth 100000 in
theorem wb_X5_isAsThen_34 {l : Launch} {E : Ep} {X : Fx} {res : Int32} (C : CX E X RX5 cX5_isAsThen 3 0) (k4 : Hp → Nat → Int32 → Int32 → Option (Int32)) (hk4 : ∀ (h : Hp) (a0 : Nat) (x1 : Int32) (x2 : Int32), OKr a0 5 → k4 h a0 x1 x2 = some res → RT E X (some .boolean) (some (.int res)) h → GG l E X h 4 [(0, .ref (ad E a0)), (1, .int x1), (2, .int x2)] []) (h : Hp) (a0 : Nat) (x2 : Int32) (s0 : Int32) (oa0 : OKr a0 5) (hs : b_X5_isAsThen_34 k4 h a0 x2 s0 = some res) (hR : RT E X (some .boolean) (some (.int res)) h) : GG l E X h 34 [(0, .ref (ad E a0)), (2, .int x2)] [.int s0] := by
  refine g_istore_n (lv' := [(1, .int s0), (0, .ref (ad E a0)), (2, .int x2)]) C dX5_isAsThen_34 rfl (by decide) rfl ?_
  refine g_iinc (lv' := [(2, .int (x2 + (1 : Int32))), (1, .int s0), (0, .ref (ad E a0))]) (j := 2) C dX5_isAsThen_35 rfl (cc_n_1 _) (by decide) rfl ?_
  refine g_goto (tgt := 4) C dX5_isAsThen_38 (by decide) ?_
  refine g_sub [2, 1, 0] rfl ?_
  exact hk4 h a0 s0 (x2 + (1 : Int32)) oa0 hs hR
set_option maxHeartbeats 4000000 in
set_option maxRecDepth 100000 in
theorem wb_X5_isAsThen_33 {l : Launch} {E : Ep} {X : Fx} {res : Int32} (C : CX E X RX5 cX5_isAsThen 3 0) (k4 : Hp → Nat → Int32 → Int32 → Option (Int32)) (hk4 : ∀ (h : Hp) (a0 : Nat) (x1 : Int32) (x2 : Int32), OKr a0 5 → k4 h a0 x1 x2 = some res → RT E X (some .boolean) (some (.int res)) h → GG l E X h 4 [(0, .ref (ad E a0)), (1, .int x1), (2, .int x2)] []) (h : Hp) (a0 : Nat) (x2 : Int32) (oa0 : OKr a0 5) (hs : b_X5_isAsThen_33 k4 h a0 x2 = some res) (hR : RT E X (some .boolean) (some (.int res)) h) : GG l E X h 33 [(0, .ref (ad E a0)), (2, .int x2)] [] := by
  refine g_iconst C dX5_isAsThen_33 cc_i_0 ?_
  exact wb_X5_isAsThen_34 C k4 hk4 h a0 x2 (0 : Int32) oa0 hs hR
set_option maxHeartbeats 4000000 in
set_option maxRecDepth 100000 in
theorem wb_X5_isAsThen_4 {l : Launch} {E : Ep} {X : Fx} {res : Int32} (C : CX E X RX5 cX5_isAsThen 3 0) : ∀ (n : Nat) (h : Hp) (a0 : Nat) (x1 : Int32) (x2 : Int32) (oa0 : OKr a0 5), b_X5_isAsThen_4  n h a0 x1 x2 = some res → RT E X (some .boolean) (some (.int res)) h → GG l E X h 4 [(0, .ref (ad E a0)), (1, .int x1), (2, .int x2)] [] := by
  intro n
  induction n with
  | zero =>
    intro h a0 x1 x2 oa0
    intro hs
    exact absurd hs (by intro e; cases e)
  | succ n ih =>
    intro h a0 x1 x2 oa0 hs hR
    have hk4 := ih
    have hs : f_X5_isAsThen_4  (b_X5_isAsThen_4  n) h a0 x1 x2 = some res := hs
    generalize b_X5_isAsThen_4  n = k4 at hs hk4
    refine g_iload_n C 2 dX5_isAsThen_4 rfl rfl ?_
    refine g_bipush C dX5_isAsThen_5 cc_b_6 ?_
    refine g_icmp_ge (tgt := 41) C dX5_isAsThen_7 (by decide) hs (fun hs => ?_) (fun hs => ?_)
    · refine g_iload_n C 1 dX5_isAsThen_41 rfl rfl ?_
      obtain ⟨v1, hbv1, hs⟩ := bnd hs
      obtain ⟨hzv1, hyv1⟩ := bol_v hbv1
      have e9 := Option.some.inj hs
      subst e9
      refine g_top hyv1 ?_
      exact g_zret C hzv1 hR dX5_isAsThen_42
    · refine g_iload_n C 1 dX5_isAsThen_10 rfl rfl ?_
      refine g_if_eq (tgt := 33) C dX5_isAsThen_11 (by decide) hs (fun hs => ?_) (fun hs => ?_)
      · refine g_sub [0, 2] rfl ?_
        exact wb_X5_isAsThen_33 C k4 hk4 h a0 x2 oa0 hs hR
      · refine g_aload_n C 0 dX5_isAsThen_14 rfl rfl ?_
        refine gf5_10 C oa0 lf_X5_29 dX5_isAsThen_15 ?_
        refine g_iload_n C 2 dX5_isAsThen_18 rfl rfl ?_
        refine g_iald C (tg5_10 oa0) dX5_isAsThen_19 hs (fun v2 hs => ?_)
        refine g_aload_n C 0 dX5_isAsThen_20 rfl rfl ?_
        refine gf5_29 C oa0 lf_X5_56 dX5_isAsThen_21 ?_
        refine g_iload_n C 2 dX5_isAsThen_24 rfl rfl ?_
        refine g_iald C (tg5_29 oa0) dX5_isAsThen_25 hs (fun v3 hs => ?_)
        refine g_icmp_ne (tgt := 33) C dX5_isAsThen_26 (by decide) hs (fun hs => ?_) (fun hs => ?_)
        · refine g_iconst C dX5_isAsThen_29 cc_i_1 ?_
          refine g_goto (tgt := 34) C dX5_isAsThen_30 (by decide) ?_
          refine g_sub [0, 2] rfl ?_
          exact wb_X5_isAsThen_34 C k4 hk4 h a0 x2 (1 : Int32) oa0 hs hR
        · refine g_sub [0, 2] rfl ?_
          exact wb_X5_isAsThen_33 C k4 hk4 h a0 x2 oa0 hs hR
set_option maxHeartbeats 4000000 in
set_option maxRecDepth 100000 in
theorem w_X5_isAsThen (l : Launch) (E : Ep) (h : Hp) (a0 : Nat) (res : Int32) (oa0 : OKr a0 5) (hs : sh_X5_isAsThen h a0 = some res) : MG l E yX5_isAsThen cX5_isAsThen 3 (some .boolean) 0 [.ref (ad E a0)] h (some (.int res)) h := by
  refine MG.of (by decide) (Nat.le_of_ble_eq_true rfl) ?_
  intro X C hR
  have C : CX E X RX5 cX5_isAsThen 3 0 := C
  show GG l E X h 0 [(0, .ref (ad E a0))] []
  refine g_iconst C dX5_isAsThen_0 cc_i_1 ?_
  refine g_istore_n (lv' := [(1, .int (1 : Int32)), (0, .ref (ad E a0))]) C dX5_isAsThen_1 rfl (by decide) rfl ?_
  refine g_iconst C dX5_isAsThen_2 cc_i_0 ?_
  refine g_istore_n (lv' := [(2, .int (0 : Int32)), (1, .int (1 : Int32)), (0, .ref (ad E a0))]) C dX5_isAsThen_3 rfl (by decide) rfl ?_
  refine g_sub [2, 1, 0] rfl ?_
  exact wb_X5_isAsThen_4 C 1000 h a0 (1 : Int32) (0 : Int32) oa0 hs hR
set_option maxHeartbeats 4000000 in
set_option maxRecDepth 100000 in
theorem wb_X5_rest_88 {l : Launch} {E : Ep} {X : Fx} {res : Int32 × Hp} (C : CX E X RX5 cX5_rest 5 6) (k16 : Hp → Nat → Int32 → Int32 → Int32 → Option (Int32 × Hp)) (hk16 : ∀ (h : Hp) (a0 : Nat) (x1 : Int32) (x2 : Int32) (x3 : Int32), OKr a0 5 → k16 h a0 x1 x2 x3 = some res → RT E X (some .int) (some (.int res.1)) res.2 → GG l E X h 16 [(0, .ref (ad E a0)), (1, .int x1), (2, .int x2), (3, .int x3)] []) (h : Hp) (a0 : Nat) (x1 : Int32) (x3 : Int32) (s0 : Int32) (oa0 : OKr a0 5) (hs : b_X5_rest_88 k16 h a0 x1 x3 s0 = some res) (hR : RT E X (some .int) (some (.int res.1)) res.2) : GG l E X h 88 [(0, .ref (ad E a0)), (1, .int x1), (3, .int x3)] [.int s0] := by
  refine g_istore_n (lv' := [(2, .int s0), (0, .ref (ad E a0)), (1, .int x1), (3, .int x3)]) C dX5_rest_88 rfl (by decide) rfl ?_
  refine g_iinc (lv' := [(3, .int (x3 + (1 : Int32))), (2, .int s0), (0, .ref (ad E a0)), (1, .int x1)]) (j := 3) C dX5_rest_89 rfl (cc_n_1 _) (by decide) rfl ?_
  refine g_goto (tgt := 16) C dX5_rest_92 (by decide) ?_
  refine g_sub [2, 3, 1, 0] rfl ?_
  exact hk16 h a0 x1 s0 (x3 + (1 : Int32)) oa0 hs hR
set_option maxHeartbeats 4000000 in
set_option maxRecDepth 100000 in
theorem wb_X5_rest_74 {l : Launch} {E : Ep} {X : Fx} {res : Int32 × Hp} (C : CX E X RX5 cX5_rest 5 6) (k16 : Hp → Nat → Int32 → Int32 → Int32 → Option (Int32 × Hp)) (hk16 : ∀ (h : Hp) (a0 : Nat) (x1 : Int32) (x2 : Int32) (x3 : Int32), OKr a0 5 → k16 h a0 x1 x2 x3 = some res → RT E X (some .int) (some (.int res.1)) res.2 → GG l E X h 16 [(0, .ref (ad E a0)), (1, .int x1), (2, .int x2), (3, .int x3)] []) (h : Hp) (a0 : Nat) (x3 : Int32) (s0 : Int32) (oa0 : OKr a0 5) (hs : b_X5_rest_74 k16 h a0 x3 s0 = some res) (hR : RT E X (some .int) (some (.int res.1)) res.2) : GG l E X h 74 [(0, .ref (ad E a0)), (3, .int x3)] [.int s0] := by
  refine g_istore_n (lv' := [(1, .int s0), (0, .ref (ad E a0)), (3, .int x3)]) C dX5_rest_74 rfl (by decide) rfl ?_
  refine g_iload_n C 0 dX5_rest_75 rfl rfl ?_
  refine g_iconst C dX5_rest_76 cc_i_2 ?_
  refine g_icmp_ne (tgt := 86) C dX5_rest_77 (by decide) hs (fun hs => ?_) (fun hs => ?_)
  · refine g_iload_n C 2 dX5_rest_80 rfl rfl ?_
    refine g_iconst C dX5_rest_81 cc_i_1 ?_
    refine g_isub C dX5_rest_82 ?_
    refine g_goto (tgt := 88) C dX5_rest_83 (by decide) ?_
    refine g_sub [1, 0, 2] rfl ?_
    exact wb_X5_rest_88 C k16 hk16 h a0 s0 x3 (x3 - (1 : Int32)) oa0 hs hR
  · refine g_bipush C dX5_rest_86 cc_b_m9 ?_
    refine g_sub [1, 0, 2] rfl ?_
    exact wb_X5_rest_88 C k16 hk16 h a0 s0 x3 (-9 : Int32) oa0 hs hR
set_option maxHeartbeats 4000000 in
set_option maxRecDepth 100000 in
theorem wb_X5_rest_29 {l : Launch} {E : Ep} {X : Fx} {res : Int32 × Hp} (C : CX E X RX5 cX5_rest 5 6) (k16 : Hp → Nat → Int32 → Int32 → Int32 → Option (Int32 × Hp)) (hk16 : ∀ (h : Hp) (a0 : Nat) (x1 : Int32) (x2 : Int32) (x3 : Int32), OKr a0 5 → k16 h a0 x1 x2 x3 = some res → RT E X (some .int) (some (.int res.1)) res.2 → GG l E X h 16 [(0, .ref (ad E a0)), (1, .int x1), (2, .int x2), (3, .int x3)] []) : ∀ (n : Nat) (h : Hp) (a0 : Nat) (x1 : Int32) (x3 : Int32) (x4 : Int32) (oa0 : OKr a0 5), b_X5_rest_29 k16 n h a0 x1 x3 x4 = some res → RT E X (some .int) (some (.int res.1)) res.2 → GG l E X h 29 [(0, .ref (ad E a0)), (1, .int x1), (3, .int x3), (4, .int x4)] [] := by
  intro n
  induction n with
  | zero =>
    intro h a0 x1 x3 x4 oa0
    intro hs
    exact absurd hs (by intro e; cases e)
  | succ n ih =>
    intro h a0 x1 x3 x4 oa0 hs hR
    have hk29 := ih
    have hs : f_X5_rest_29 k16 (b_X5_rest_29 k16 n) h a0 x1 x3 x4 = some res := hs
    generalize b_X5_rest_29 k16 n = k29 at hs hk29
    refine g_iload C 3 dX5_rest_29 rfl ?_
    refine g_bipush C dX5_rest_31 cc_b_6 ?_
    refine g_icmp_ge (tgt := 56) C dX5_rest_33 (by decide) hs (fun hs => ?_) (fun hs => ?_)
    · refine g_aload_n C 0 dX5_rest_56 rfl rfl ?_
      obtain ⟨h1, hch1, hs⟩ := bnd hs
      refine g_cV (As := []) (rest := []) C (w_X5_dayOn l E _ _ _ oa0 hch1) mw_X5_dayOn lm_X5_149 oa0 rfl (ce5 E _ (oa0).2) rfl (by decide) rfl (Nat.le_of_ble_eq_true rfl) dX5_rest_57 rfl ?_
      refine g_aload_n C 0 dX5_rest_60 rfl rfl ?_
      obtain ⟨v2, hcv2, hs⟩ := bnd hs
      refine g_cV (As := []) (rest := []) C (w_X5_isAsThen l E _ _ _ oa0 hcv2) mw_X5_isAsThen lm_X5_242 oa0 rfl (ce5 E _ (oa0).2) rfl (by decide) rfl (Nat.le_of_ble_eq_true rfl) dX5_rest_61 rfl ?_
      refine g_if_eq (tgt := 73) C dX5_rest_64 (by decide) hs (fun hs => ?_) (fun hs => ?_)
      · refine g_iconst C dX5_rest_73 cc_i_0 ?_
        refine g_sub [0, 2] rfl ?_
        exact wb_X5_rest_74 C k16 hk16 h1 a0 x3 (0 : Int32) oa0 hs hR
      · refine g_iload_n C 1 dX5_rest_67 rfl rfl ?_
        refine g_iconst C dX5_rest_68 cc_i_1 ?_
        refine g_iadd C dX5_rest_69 ?_
        refine g_goto (tgt := 74) C dX5_rest_70 (by decide) ?_
        refine g_sub [0, 2] rfl ?_
        exact wb_X5_rest_74 C k16 hk16 h1 a0 x3 (x1 + (1 : Int32)) oa0 hs hR
    · refine g_aload_n C 0 dX5_rest_36 rfl rfl ?_
      refine gf5_29 C oa0 lf_X5_56 dX5_rest_37 ?_
      refine g_iload C 3 dX5_rest_40 rfl ?_
      refine g_aload_n C 0 dX5_rest_42 rfl rfl ?_
      refine gf5_10 C oa0 lf_X5_29 dX5_rest_43 ?_
      refine g_iload C 3 dX5_rest_46 rfl ?_
      refine g_iald C (tg5_10 oa0) dX5_rest_48 hs (fun v3 hs => ?_)
      refine g_iast C (tg5_29 oa0) dX5_rest_49 hs (fun h4 hs => ?_)
      refine g_iinc (lv' := [(4, .int (x4 + (1 : Int32))), (0, .ref (ad E a0)), (1, .int x1), (3, .int x3)]) (j := 3) C dX5_rest_50 rfl (cc_n_1 _) (by decide) rfl ?_
      refine g_goto (tgt := 29) C dX5_rest_53 (by decide) ?_
      refine g_sub [1, 2, 3, 0] rfl ?_
      exact hk29 h4 a0 x1 x3 (x4 + (1 : Int32)) oa0 hs hR
set_option maxHeartbeats 4000000 in
set_option maxRecDepth 100000 in
theorem wb_X5_rest_95 {l : Launch} {E : Ep} {X : Fx} {res : Int32 × Hp} (C : CX E X RX5 cX5_rest 5 6) (h : Hp) (a0 : Nat) (x2 : Int32) (oa0 : OKr a0 5) (hs : b_X5_rest_95  h a0 x2 = some res) (hR : RT E X (some .int) (some (.int res.1)) res.2) : GG l E X h 95 [(0, .ref (ad E a0)), (2, .int x2)] [] := by
  refine g_aload_n C 0 dX5_rest_95 rfl rfl ?_
  obtain ⟨h1, hch1, hs⟩ := bnd hs
  refine g_cV (As := []) (rest := []) C (w_X5_close l E _ _ _ oa0 hch1) mw_X5_close lm_X5_223 oa0 rfl (ce5 E _ (oa0).2) rfl (by decide) rfl (Nat.le_of_ble_eq_true rfl) dX5_rest_96 rfl ?_
  refine g_iload_n C 1 dX5_rest_99 rfl rfl ?_
  have e9 := Option.some.inj hs
  subst e9
  exact g_iret C hR dX5_rest_100
set_option maxHeartbeats 4000000 in
set_option maxRecDepth 100000 in
theorem wb_X5_rest_16 {l : Launch} {E : Ep} {X : Fx} {res : Int32 × Hp} (C : CX E X RX5 cX5_rest 5 6) : ∀ (n : Nat) (h : Hp) (a0 : Nat) (x1 : Int32) (x2 : Int32) (x3 : Int32) (oa0 : OKr a0 5), b_X5_rest_16  n h a0 x1 x2 x3 = some res → RT E X (some .int) (some (.int res.1)) res.2 → GG l E X h 16 [(0, .ref (ad E a0)), (1, .int x1), (2, .int x2), (3, .int x3)] [] := by
  intro n
  induction n with
  | zero =>
    intro h a0 x1 x2 x3 oa0
    intro hs
    exact absurd hs (by intro e; cases e)
  | succ n ih =>
    intro h a0 x1 x2 x3 oa0 hs hR
    have hk16 := ih
    have hs : f_X5_rest_16  (b_X5_rest_16  n) h a0 x1 x2 x3 = some res := hs
    generalize b_X5_rest_16  n = k16 at hs hk16
    refine g_iload_n C 3 dX5_rest_16 rfl rfl ?_
    refine g_bipush C dX5_rest_17 cc_b_60 ?_
    refine g_icmp_ge (tgt := 95) C dX5_rest_19 (by decide) hs (fun hs => ?_) (fun hs => ?_)
    · refine g_sub [0, 2] rfl ?_
      exact wb_X5_rest_95 C h a0 x2 oa0 hs hR
    · refine g_iload_n C 2 dX5_rest_22 rfl rfl ?_
      refine g_if_ge (tgt := 95) C dX5_rest_23 (by decide) hs (fun hs => ?_) (fun hs => ?_)
      · refine g_sub [0, 2] rfl ?_
        exact wb_X5_rest_95 C h a0 x2 oa0 hs hR
      · refine g_iconst C dX5_rest_26 cc_i_0 ?_
        refine g_istore (lv' := [(4, .int (0 : Int32)), (0, .ref (ad E a0)), (1, .int x1), (2, .int x2), (3, .int x3)]) C dX5_rest_27 (by decide) rfl ?_
        refine g_sub [1, 2, 4, 0] rfl ?_
        exact wb_X5_rest_29 C k16 hk16 1000 h a0 x1 x3 (0 : Int32) oa0 hs hR
set_option maxHeartbeats 4000000 in
set_option maxRecDepth 100000 in
theorem w_X5_rest (l : Launch) (E : Ep) (h : Hp) (a0 : Nat) (res : Int32 × Hp) (oa0 : OKr a0 5) (hs : sh_X5_rest h a0 = some res) : MG l E yX5_rest cX5_rest 5 (some .int) 6 [.ref (ad E a0)] h (some (.int res.1)) res.2 := by
  refine MG.of (by decide) (Nat.le_of_ble_eq_true rfl) ?_
  intro X C hR
  have C : CX E X RX5 cX5_rest 5 6 := C
  show GG l E X h 0 [(0, .ref (ad E a0))] []
  refine g_aload_n C 0 dX5_rest_0 rfl rfl ?_
  refine g_iconst C dX5_rest_1 cc_i_0 ?_
  refine pf5_13 C oa0 lf_X5_68 dX5_rest_2 ?_
  refine g_aload_n C 0 dX5_rest_5 rfl rfl ?_
  obtain ⟨h1, hch1, hs⟩ := bnd hs
  refine g_cV (As := []) (rest := []) C (w_X5_open l E _ _ _ oa0 hch1) mw_X5_open lm_X5_217 oa0 rfl (ce5 E _ (oa0).2) rfl (by decide) rfl (Nat.le_of_ble_eq_true rfl) dX5_rest_6 rfl ?_
  refine g_iconst C dX5_rest_9 cc_i_0 ?_
  refine g_istore_n (lv' := [(1, .int (0 : Int32)), (0, .ref (ad E a0))]) C dX5_rest_10 rfl (by decide) rfl ?_
  refine g_bipush C dX5_rest_11 cc_b_m9 ?_
  refine g_istore_n (lv' := [(2, .int (-9 : Int32)), (1, .int (0 : Int32)), (0, .ref (ad E a0))]) C dX5_rest_13 rfl (by decide) rfl ?_
  refine g_iconst C dX5_rest_14 cc_i_0 ?_
  refine g_istore_n (lv' := [(3, .int (0 : Int32)), (2, .int (-9 : Int32)), (1, .int (0 : Int32)), (0, .ref (ad E a0))]) C dX5_rest_15 rfl (by decide) rfl ?_
  refine g_sub [3, 2, 1, 0] rfl ?_
  exact wb_X5_rest_16 C 1000 h1 a0 (0 : Int32) (-9 : Int32) (0 : Int32) oa0 hs hR
set_option maxHeartbeats 4000000 in
set_option maxRecDepth 100000 in
theorem wb_X5_power_4 {l : Launch} {E : Ep} {X : Fx} {res : Int32} (C : CX E X RX5 cX5_power 3 0) : ∀ (n : Nat) (h : Hp) (x0 : Int32) (x1 : Int32) (x2 : Int32), b_X5_power_4  n h x0 x1 x2 = some res → RT E X (some .int) (some (.int res)) h → GG l E X h 4 [(0, .int x0), (1, .int x1), (2, .int x2)] [] := by
  intro n
  induction n with
  | zero =>
    intro h x0 x1 x2
    intro hs
    exact absurd hs (by intro e; cases e)
  | succ n ih =>
    intro h x0 x1 x2 hs hR
    have hk4 := ih
    have hs : f_X5_power_4  (b_X5_power_4  n) h x0 x1 x2 = some res := hs
    generalize b_X5_power_4  n = k4 at hs hk4
    refine g_iload_n C 2 dX5_power_4 rfl rfl ?_
    refine g_iload_n C 0 dX5_power_5 rfl rfl ?_
    refine g_icmp_ge (tgt := 19) C dX5_power_6 (by decide) hs (fun hs => ?_) (fun hs => ?_)
    · refine g_iload_n C 1 dX5_power_19 rfl rfl ?_
      have e9 := Option.some.inj hs
      subst e9
      exact g_iret C hR dX5_power_20
    · refine g_iload_n C 1 dX5_power_9 rfl rfl ?_
      refine g_iconst C dX5_power_10 cc_i_3 ?_
      refine g_imul C dX5_power_11 ?_
      refine g_istore_n (lv' := [(1, .int (x1 * (3 : Int32))), (0, .int x0), (2, .int x2)]) C dX5_power_12 rfl (by decide) rfl ?_
      refine g_iinc (lv' := [(2, .int (x2 + (1 : Int32))), (1, .int (x1 * (3 : Int32))), (0, .int x0)]) (j := 2) C dX5_power_13 rfl (cc_n_1 _) (by decide) rfl ?_
      refine g_goto (tgt := 4) C dX5_power_16 (by decide) ?_
      refine g_sub [2, 1, 0] rfl ?_
      exact hk4 h x0 (x1 * (3 : Int32)) (x2 + (1 : Int32)) hs hR
set_option maxHeartbeats 4000000 in
set_option maxRecDepth 100000 in
theorem w_X5_power (l : Launch) (E : Ep) (h : Hp) (x0 : Int32) (res : Int32) (hs : sh_X5_power h x0 = some res) : MG l E yX5_power cX5_power 3 (some .int) 0 [.int x0] h (some (.int res)) h := by
  refine MG.of (by decide) (Nat.le_of_ble_eq_true rfl) ?_
  intro X C hR
  have C : CX E X RX5 cX5_power 3 0 := C
  show GG l E X h 0 [(0, .int x0)] []
  refine g_iconst C dX5_power_0 cc_i_1 ?_
  refine g_istore_n (lv' := [(1, .int (1 : Int32)), (0, .int x0)]) C dX5_power_1 rfl (by decide) rfl ?_
  refine g_iconst C dX5_power_2 cc_i_0 ?_
  refine g_istore_n (lv' := [(2, .int (0 : Int32)), (1, .int (1 : Int32)), (0, .int x0)]) C dX5_power_3 rfl (by decide) rfl ?_
  refine g_sub [2, 1, 0] rfl ?_
  exact wb_X5_power_4 C 1000 h x0 (1 : Int32) (0 : Int32) hs hR
set_option maxHeartbeats 4000000 in
set_option maxRecDepth 100000 in
theorem wb_X5_choose_83 {l : Launch} {E : Ep} {X : Fx} {res : Hp} (C : CX E X RX5 cX5_choose 4 1) (h : Hp) (hs : b_X5_choose_83  h  = some res) (hR : RT E X none none res) : GG l E X h 83 [] [] := by
  have e9 := Option.some.inj hs
  subst e9
  exact g_vret C hR dX5_choose_83
set_option maxHeartbeats 4000000 in
set_option maxRecDepth 100000 in
theorem wb_X5_choose_69 {l : Launch} {E : Ep} {X : Fx} {res : Hp} (C : CX E X RX5 cX5_choose 4 1) (h : Hp) (a0 : Nat) (x3 : Int32) (b0 : Nat) (s1 : Int32) (s2 : Int32) (oa0 : OKr a0 5) (ob0 : OKr b0 5) (hs : b_X5_choose_69  h a0 x3 b0 s1 s2 = some res) (hR : RT E X none none res) : GG l E X h 69 [(0, .ref (ad E a0)), (3, .int x3)] [.int s2, .int s1, .ref (ad E b0)] := by
  refine g_iload_n C 1 dX5_choose_69 rfl rfl ?_
  obtain ⟨h1, hch1, hs⟩ := bnd hs
  refine g_cV (As := [.int s1, .int s2, .int x3]) (rest := []) C (w_X5_addGift l E _ _ _ _ _ _ ob0 hch1) mw_X5_addGift lm_X5_115 ob0 rfl (ce5 E _ (ob0).2) rfl (by decide) rfl (Nat.le_of_ble_eq_true rfl) dX5_choose_70 rfl ?_
  refine g_aload_n C 0 dX5_choose_73 rfl rfl ?_
  refine g_dup C dX5_choose_74 rfl ?_
  refine gf5_30 C oa0 lf_X5_246 dX5_choose_75 ?_
  refine g_iload_n C 1 dX5_choose_78 rfl rfl ?_
  refine g_iadd C dX5_choose_79 ?_
  refine pf5_30 C oa0 lf_X5_246 dX5_choose_80 ?_
  refine g_sub [] rfl ?_
  exact wb_X5_choose_83 C (wI h1 a0 30 ((h1.1 a0 30) + x3)) hs hR
set_option maxHeartbeats 4000000 in
set_option maxRecDepth 100000 in
theorem wb_X5_choose_58 {l : Launch} {E : Ep} {X : Fx} {res : Hp} (C : CX E X RX5 cX5_choose 4 1) (h : Hp) (a0 : Nat) (x3 : Int32) (b0 : Nat) (s1 : Int32) (oa0 : OKr a0 5) (ob0 : OKr b0 5) (hs : b_X5_choose_58  h a0 x3 b0 s1 = some res) (hR : RT E X none none res) : GG l E X h 58 [(0, .ref (ad E a0)), (3, .int x3)] [.int s1, .ref (ad E b0)] := by
  refine g_bipush C dX5_choose_58 cc_b_6 ?_
  refine g_goto (tgt := 69) C dX5_choose_60 (by decide) ?_
  exact wb_X5_choose_69 C h a0 x3 b0 s1 (6 : Int32) oa0 ob0 hs hR
set_option maxHeartbeats 4000000 in
set_option maxRecDepth 100000 in
theorem wb_X5_choose_30 {l : Launch} {E : Ep} {X : Fx} {res : Hp} (C : CX E X RX5 cX5_choose 4 1) (h : Hp) (a0 : Nat) (x1 : Int32) (s0 : Int32) (oa0 : OKr a0 5) (hs : b_X5_choose_30  h a0 x1 s0 = some res) (hR : RT E X none none res) : GG l E X h 30 [(0, .ref (ad E a0)), (1, .int x1)] [.int s0] := by
  refine g_istore_n (lv' := [(3, .int s0), (0, .ref (ad E a0)), (1, .int x1)]) C dX5_choose_30 rfl (by decide) rfl ?_
  refine g_iload_n C 0 dX5_choose_31 rfl rfl ?_
  refine g_if_le (tgt := 83) C dX5_choose_32 (by decide) hs (fun hs => ?_) (fun hs => ?_)
  · refine g_sub [] rfl ?_
    exact wb_X5_choose_83 C h hs hR
  · refine g_aload_n C 1 dX5_choose_35 rfl rfl ?_
    refine g_iload_n C 2 dX5_choose_36 rfl rfl ?_
    refine g_aload_n C 1 dX5_choose_37 rfl rfl ?_
    refine gf5_9 C oa0 lf_X5_26 dX5_choose_38 ?_
    refine g_iload_n C 2 dX5_choose_41 rfl rfl ?_
    refine g_iald C (tg5_9 oa0) dX5_choose_42 hs (fun v1 hs => ?_)
    refine g_iload_n C 2 dX5_choose_43 rfl rfl ?_
    refine g_icmp_eq (tgt := 58) C dX5_choose_44 (by decide) hs (fun hs => ?_) (fun hs => ?_)
    · refine g_sub [1, 0] rfl ?_
      exact wb_X5_choose_58 C h a0 s0 a0 x1 oa0 oa0 hs hR
    · refine g_aload_n C 1 dX5_choose_47 rfl rfl ?_
      refine gf5_9 C oa0 lf_X5_26 dX5_choose_48 ?_
      refine g_iload_n C 2 dX5_choose_51 rfl rfl ?_
      refine g_iald C (tg5_9 oa0) dX5_choose_52 hs (fun v2 hs => ?_)
      refine g_bipush C dX5_choose_53 cc_b_9 ?_
      refine g_icmp_ne (tgt := 63) C dX5_choose_55 (by decide) hs (fun hs => ?_) (fun hs => ?_)
      · refine g_sub [1, 0] rfl ?_
        exact wb_X5_choose_58 C h a0 s0 a0 x1 oa0 oa0 hs hR
      · refine g_aload_n C 1 dX5_choose_63 rfl rfl ?_
        refine gf5_9 C oa0 lf_X5_26 dX5_choose_64 ?_
        refine g_iload_n C 2 dX5_choose_67 rfl rfl ?_
        refine g_iald C (tg5_9 oa0) dX5_choose_68 hs (fun v3 hs => ?_)
        refine g_sub [1, 0] rfl ?_
        exact wb_X5_choose_69 C h a0 s0 a0 x1 v3 oa0 oa0 hs hR
set_option maxHeartbeats 4000000 in
set_option maxRecDepth 100000 in
theorem w_X5_choose (l : Launch) (E : Ep) (h : Hp) (a0 : Nat) (x1 : Int32) (x2 : Int32) (res : Hp) (oa0 : OKr a0 5) (hs : sh_X5_choose h a0 x1 x2 = some res) : MG l E yX5_choose cX5_choose 4 none 1 [.ref (ad E a0), .int x1, .int x2] h none res := by
  refine MG.of (by decide) (Nat.le_of_ble_eq_true rfl) ?_
  intro X C hR
  have C : CX E X RX5 cX5_choose 4 1 := C
  show GG l E X h 0 [(0, .ref (ad E a0)), (1, .int x1), (2, .int x2)] []
  refine g_iload_n C 2 dX5_choose_0 rfl rfl ?_
  refine g_if_ne (tgt := 8) C dX5_choose_1 (by decide) hs (fun hs => ?_) (fun hs => ?_)
  · refine g_iconst C dX5_choose_4 cc_i_0 ?_
    refine g_goto (tgt := 30) C dX5_choose_5 (by decide) ?_
    refine g_sub [0, 1] rfl ?_
    exact wb_X5_choose_30 C h a0 x1 (0 : Int32) oa0 hs hR
  · refine g_iload_n C 2 dX5_choose_8 rfl rfl ?_
    refine g_iconst C dX5_choose_9 cc_i_1 ?_
    refine g_icmp_ne (tgt := 24) C dX5_choose_10 (by decide) hs (fun hs => ?_) (fun hs => ?_)
    · refine g_aload_n C 0 dX5_choose_13 rfl rfl ?_
      refine gf5_10 C oa0 lf_X5_29 dX5_choose_14 ?_
      refine g_iload_n C 1 dX5_choose_17 rfl rfl ?_
      refine g_iald C (tg5_10 oa0) dX5_choose_18 hs (fun v1 hs => ?_)
      refine g_iconst C dX5_choose_19 cc_i_2 ?_
      refine g_idivC C dX5_choose_20 (by decide) ?_
      refine g_goto (tgt := 30) C dX5_choose_21 (by decide) ?_
      refine g_sub [0, 1] rfl ?_
      exact wb_X5_choose_30 C h a0 x1 (v1 / (2 : Int32)) oa0 hs hR
    · refine g_aload_n C 0 dX5_choose_24 rfl rfl ?_
      refine gf5_10 C oa0 lf_X5_29 dX5_choose_25 ?_
      refine g_iload_n C 1 dX5_choose_28 rfl rfl ?_
      refine g_iald C (tg5_10 oa0) dX5_choose_29 hs (fun v2 hs => ?_)
      refine g_sub [0, 1] rfl ?_
      exact wb_X5_choose_30 C h a0 x1 v2 oa0 hs hR
set_option maxHeartbeats 4000000 in
set_option maxRecDepth 100000 in
theorem wb_X5_byRow_68 {l : Launch} {E : Ep} {X : Fx} {res : Int32 × Hp} (C : CX E X RX5 cX5_byRow 7 5) (k18 : Hp → Nat → Int32 → Int32 → Int32 → Int32 → Int32 → Option (Int32 × Hp)) (hk18 : ∀ (h : Hp) (a0 : Nat) (x1 : Int32) (x2 : Int32) (x3 : Int32) (x4 : Int32) (x5 : Int32), OKr a0 5 → k18 h a0 x1 x2 x3 x4 x5 = some res → RT E X (some .int) (some (.int res.1)) res.2 → GG l E X h 18 [(0, .ref (ad E a0)), (1, .int x1), (2, .int x2), (3, .int x3), (4, .int x4), (5, .int x5)] []) (k33 : Hp → Nat → Int32 → Int32 → Int32 → Int32 → Int32 → Int32 → Option (Int32 × Hp)) (hk33 : ∀ (h : Hp) (a0 : Nat) (x1 : Int32) (x2 : Int32) (x3 : Int32) (x4 : Int32) (x5 : Int32) (x6 : Int32), OKr a0 5 → k33 h a0 x1 x2 x3 x4 x5 x6 = some res → RT E X (some .int) (some (.int res.1)) res.2 → GG l E X h 33 [(0, .ref (ad E a0)), (1, .int x1), (2, .int x2), (3, .int x3), (4, .int x4), (5, .int x5), (6, .int x6)] []) (h : Hp) (a0 : Nat) (x1 : Int32) (x2 : Int32) (x3 : Int32) (x4 : Int32) (x5 : Int32) (x6 : Int32) (oa0 : OKr a0 5) (hs : b_X5_byRow_68 k18 k33 h a0 x1 x2 x3 x4 x5 x6 = some res) (hR : RT E X (some .int) (some (.int res.1)) res.2) : GG l E X h 68 [(0, .ref (ad E a0)), (1, .int x1), (2, .int x2), (3, .int x3), (4, .int x4), (5, .int x5), (6, .int x6)] [] := by
  refine g_iinc (lv' := [(6, .int (x6 + (1 : Int32))), (0, .ref (ad E a0)), (1, .int x1), (2, .int x2), (3, .int x3), (4, .int x4), (5, .int x5)]) (j := 6) C dX5_byRow_68 rfl (cc_n_1 _) (by decide) rfl ?_
  refine g_goto (tgt := 33) C dX5_byRow_71 (by decide) ?_
  refine g_sub [1, 2, 3, 4, 5, 6, 0] rfl ?_
  exact hk33 h a0 x1 x2 x3 x4 x5 (x6 + (1 : Int32)) oa0 hs hR
set_option maxHeartbeats 4000000 in
set_option maxRecDepth 100000 in
theorem wb_X5_byRow_33 {l : Launch} {E : Ep} {X : Fx} {res : Int32 × Hp} (C : CX E X RX5 cX5_byRow 7 5) (k18 : Hp → Nat → Int32 → Int32 → Int32 → Int32 → Int32 → Option (Int32 × Hp)) (hk18 : ∀ (h : Hp) (a0 : Nat) (x1 : Int32) (x2 : Int32) (x3 : Int32) (x4 : Int32) (x5 : Int32), OKr a0 5 → k18 h a0 x1 x2 x3 x4 x5 = some res → RT E X (some .int) (some (.int res.1)) res.2 → GG l E X h 18 [(0, .ref (ad E a0)), (1, .int x1), (2, .int x2), (3, .int x3), (4, .int x4), (5, .int x5)] []) : ∀ (n : Nat) (h : Hp) (a0 : Nat) (x1 : Int32) (x2 : Int32) (x3 : Int32) (x4 : Int32) (x5 : Int32) (x6 : Int32) (oa0 : OKr a0 5), b_X5_byRow_33 k18 n h a0 x1 x2 x3 x4 x5 x6 = some res → RT E X (some .int) (some (.int res.1)) res.2 → GG l E X h 33 [(0, .ref (ad E a0)), (1, .int x1), (2, .int x2), (3, .int x3), (4, .int x4), (5, .int x5), (6, .int x6)] [] := by
  intro n
  induction n with
  | zero =>
    intro h a0 x1 x2 x3 x4 x5 x6 oa0
    intro hs
    exact absurd hs (by intro e; cases e)
  | succ n ih =>
    intro h a0 x1 x2 x3 x4 x5 x6 oa0 hs hR
    have hk33 := ih
    have hs : f_X5_byRow_33 k18 (b_X5_byRow_33 k18 n) h a0 x1 x2 x3 x4 x5 x6 = some res := hs
    generalize b_X5_byRow_33 k18 n = k33 at hs hk33
    refine g_iload C 6 dX5_byRow_33 rfl ?_
    refine g_aload_n C 0 dX5_byRow_35 rfl rfl ?_
    refine gf5_0 C oa0 lf_X5_71 dX5_byRow_36 ?_
    refine g_icmp_ge (tgt := 74) C dX5_byRow_39 (by decide) hs (fun hs => ?_) (fun hs => ?_)
    · refine g_aload_n C 0 dX5_byRow_74 rfl rfl ?_
      obtain ⟨h1, hch1, hs⟩ := bnd hs
      refine g_cV (As := []) (rest := []) C (w_X5_endDay l E _ _ _ oa0 hch1) mw_X5_endDay lm_X5_129 oa0 rfl (ce5 E _ (oa0).2) rfl (by decide) rfl (Nat.le_of_ble_eq_true rfl) dX5_byRow_75 rfl ?_
      refine g_iinc (lv' := [(5, .int (x5 + (1 : Int32))), (0, .ref (ad E a0)), (1, .int x1), (2, .int x2), (3, .int x3), (4, .int x4), (6, .int x6)]) (j := 5) C dX5_byRow_78 rfl (cc_n_1 _) (by decide) rfl ?_
      refine g_goto (tgt := 18) C dX5_byRow_81 (by decide) ?_
      refine g_sub [1, 2, 3, 4, 5, 0] rfl ?_
      exact hk18 h1 a0 x1 x2 x3 x4 (x5 + (1 : Int32)) oa0 hs hR
    · refine g_iload C 6 dX5_byRow_42 rfl ?_
      refine g_iload_n C 1 dX5_byRow_44 rfl rfl ?_
      refine g_icmp_ne (tgt := 62) C dX5_byRow_45 (by decide) hs (fun hs => ?_) (fun hs => ?_)
      · refine g_aload_n C 0 dX5_byRow_48 rfl rfl ?_
        refine g_iload_n C 1 dX5_byRow_49 rfl rfl ?_
        refine g_iload_n C 3 dX5_byRow_50 rfl rfl ?_
        refine g_iload C 4 dX5_byRow_51 rfl ?_
        refine g_idiv C dX5_byRow_53 hs (fun v2 hs => ?_)
        refine g_iconst C dX5_byRow_54 cc_i_3 ?_
        refine g_iremC C dX5_byRow_55 (by decide) ?_
        obtain ⟨h3, hch3, hs⟩ := bnd hs
        refine g_cV (As := [.int x1, .int (v2 - v2 / (3 : Int32) * (3 : Int32))]) (rest := []) C (w_X5_choose l E _ _ _ _ _ oa0 hch3) mw_X5_choose lm_X5_252 oa0 rfl (ce5 E _ (oa0).2) rfl (by decide) rfl (Nat.le_of_ble_eq_true rfl) dX5_byRow_56 rfl ?_
        refine g_goto (tgt := 68) C dX5_byRow_59 (by decide) ?_
        exact wb_X5_byRow_68 C k18 hk18 k33 hk33 h3 a0 x1 x2 x3 x4 x5 x6 oa0 hs hR
      · refine g_aload_n C 0 dX5_byRow_62 rfl rfl ?_
        refine g_iload C 6 dX5_byRow_63 rfl ?_
        obtain ⟨h4, hch4, hs⟩ := bnd hs
        refine g_cV (As := [.int x6]) (rest := []) C (w_X5_giveByKind l E _ _ _ _ oa0 hch4) mw_X5_giveByKind lm_X5_125 oa0 rfl (ce5 E _ (oa0).2) rfl (by decide) rfl (Nat.le_of_ble_eq_true rfl) dX5_byRow_65 rfl ?_
        exact wb_X5_byRow_68 C k18 hk18 k33 hk33 h4 a0 x1 x2 x3 x4 x5 x6 oa0 hs hR
set_option maxHeartbeats 4000000 in
set_option maxRecDepth 100000 in
theorem wb_X5_byRow_18 {l : Launch} {E : Ep} {X : Fx} {res : Int32 × Hp} (C : CX E X RX5 cX5_byRow 7 5) : ∀ (n : Nat) (h : Hp) (a0 : Nat) (x1 : Int32) (x2 : Int32) (x3 : Int32) (x4 : Int32) (x5 : Int32) (oa0 : OKr a0 5), b_X5_byRow_18  n h a0 x1 x2 x3 x4 x5 = some res → RT E X (some .int) (some (.int res.1)) res.2 → GG l E X h 18 [(0, .ref (ad E a0)), (1, .int x1), (2, .int x2), (3, .int x3), (4, .int x4), (5, .int x5)] [] := by
  intro n
  induction n with
  | zero =>
    intro h a0 x1 x2 x3 x4 x5 oa0
    intro hs
    exact absurd hs (by intro e; cases e)
  | succ n ih =>
    intro h a0 x1 x2 x3 x4 x5 oa0 hs hR
    have hk18 := ih
    have hs : f_X5_byRow_18  (b_X5_byRow_18  n) h a0 x1 x2 x3 x4 x5 = some res := hs
    generalize b_X5_byRow_18  n = k18 at hs hk18
    refine g_iload C 5 dX5_byRow_18 rfl ?_
    refine g_iload_n C 2 dX5_byRow_20 rfl rfl ?_
    refine g_icmp_ge (tgt := 84) C dX5_byRow_21 (by decide) hs (fun hs => ?_) (fun hs => ?_)
    · refine g_aload_n C 0 dX5_byRow_84 rfl rfl ?_
      refine gf5_10 C oa0 lf_X5_29 dX5_byRow_85 ?_
      refine g_iload_n C 1 dX5_byRow_88 rfl rfl ?_
      refine g_iald C (tg5_10 oa0) dX5_byRow_89 hs (fun v1 hs => ?_)
      refine g_istore (lv' := [(5, .int v1), (0, .ref (ad E a0)), (1, .int x1), (2, .int x2), (3, .int x3), (4, .int x4)]) C dX5_byRow_90 (by decide) rfl ?_
      refine g_aload_n C 1 dX5_byRow_92 rfl rfl ?_
      obtain ⟨h2, hch2, hs⟩ := bnd hs
      refine g_cV (As := []) (rest := []) C (w_X5_close l E _ _ _ oa0 hch2) mw_X5_close lm_X5_223 oa0 rfl (ce5 E _ (oa0).2) rfl (by decide) rfl (Nat.le_of_ble_eq_true rfl) dX5_byRow_93 rfl ?_
      refine g_iload C 0 dX5_byRow_96 rfl ?_
      have e9 := Option.some.inj hs
      subst e9
      exact g_iret C hR dX5_byRow_98
    · refine g_iload C 4 dX5_byRow_24 rfl ?_
      refine g_iconst C dX5_byRow_26 cc_i_3 ?_
      refine g_idivC C dX5_byRow_27 (by decide) ?_
      refine g_istore (lv' := [(4, .int (x4 / (3 : Int32))), (0, .ref (ad E a0)), (1, .int x1), (2, .int x2), (3, .int x3), (5, .int x5)]) C dX5_byRow_28 (by decide) rfl ?_
      refine g_iconst C dX5_byRow_30 cc_i_0 ?_
      refine g_istore (lv' := [(6, .int (0 : Int32)), (4, .int (x4 / (3 : Int32))), (0, .ref (ad E a0)), (1, .int x1), (2, .int x2), (3, .int x3), (5, .int x5)]) C dX5_byRow_31 (by decide) rfl ?_
      refine g_sub [2, 3, 4, 5, 1, 6, 0] rfl ?_
      exact wb_X5_byRow_33 C k18 hk18 1000 h a0 x1 x2 x3 (x4 / (3 : Int32)) x5 (0 : Int32) oa0 hs hR
set_option maxHeartbeats 4000000 in
set_option maxRecDepth 100000 in
theorem w_X5_byRow (l : Launch) (E : Ep) (h : Hp) (a0 : Nat) (x1 : Int32) (x2 : Int32) (x3 : Int32) (res : Int32 × Hp) (oa0 : OKr a0 5) (hs : sh_X5_byRow h a0 x1 x2 x3 = some res) : MG l E yX5_byRow cX5_byRow 7 (some .int) 5 [.ref (ad E a0), .int x1, .int x2, .int x3] h (some (.int res.1)) res.2 := by
  refine MG.of (by decide) (Nat.le_of_ble_eq_true rfl) ?_
  intro X C hR
  have C : CX E X RX5 cX5_byRow 7 5 := C
  show GG l E X h 0 [(0, .ref (ad E a0)), (1, .int x1), (2, .int x2), (3, .int x3)] []
  refine g_aload_n C 0 dX5_byRow_0 rfl rfl ?_
  obtain ⟨h1, hch1, hs⟩ := bnd hs
  refine g_cV (As := []) (rest := []) C (w_X5_open l E _ _ _ oa0 hch1) mw_X5_open lm_X5_217 oa0 rfl (ce5 E _ (oa0).2) rfl (by decide) rfl (Nat.le_of_ble_eq_true rfl) dX5_byRow_1 rfl ?_
  refine g_aload_n C 0 dX5_byRow_4 rfl rfl ?_
  refine g_iconst C dX5_byRow_5 cc_i_0 ?_
  refine pf5_30 C oa0 lf_X5_246 dX5_byRow_6 ?_
  refine g_iload_n C 2 dX5_byRow_9 rfl rfl ?_
  obtain ⟨v2, hcv2, hs⟩ := bnd hs
  refine g_cS (As := [.int x2]) (rest := []) C (w_X5_power l E _ _ _ hcv2) mw_X5_power lm_X5_249 rfl (by decide) rfl (Nat.le_of_ble_eq_true rfl) dX5_byRow_10 rfl ?_
  refine g_istore (lv' := [(4, .int v2), (0, .ref (ad E a0)), (1, .int x1), (2, .int x2), (3, .int x3)]) C dX5_byRow_13 (by decide) rfl ?_
  refine g_iconst C dX5_byRow_15 cc_i_0 ?_
  refine g_istore (lv' := [(5, .int (0 : Int32)), (4, .int v2), (0, .ref (ad E a0)), (1, .int x1), (2, .int x2), (3, .int x3)]) C dX5_byRow_16 (by decide) rfl ?_
  refine g_sub [2, 3, 4, 5, 1, 0] rfl ?_
  exact wb_X5_byRow_18 C 1000 (wI h1 a0 30 (0 : Int32)) a0 x1 x2 x3 v2 (0 : Int32) oa0 hs hR
set_option maxHeartbeats 4000000 in
set_option maxRecDepth 100000 in
theorem wb_X5_findMost_69 {l : Launch} {E : Ep} {X : Fx} {res : Hp} (C : CX E X RX5 cX5_findMost 5 6) (k12 : Hp → Nat → Int32 → Int32 → Int32 → Option (Hp)) (hk12 : ∀ (h : Hp) (a0 : Nat) (x1 : Int32) (x2 : Int32) (x3 : Int32), OKr a0 5 → k12 h a0 x1 x2 x3 = some res → RT E X none none res → GG l E X h 12 [(0, .ref (ad E a0)), (1, .int x1), (2, .int x2), (3, .int x3)] []) (h : Hp) (a0 : Nat) (x1 : Int32) (x2 : Int32) (x3 : Int32) (b0 : Nat) (s1 : Int32) (oa0 : OKr a0 5) (ob0 : OKr b0 5) (hs : b_X5_findMost_69 k12 h a0 x1 x2 x3 b0 s1 = some res) (hR : RT E X none none res) : GG l E X h 69 [(0, .ref (ad E a0)), (1, .int x1), (2, .int x2), (3, .int x3)] [.int s1, .ref (ad E b0)] := by
  refine pf5_32 C ob0 lf_X5_259 dX5_findMost_69 ?_
  refine g_iinc (lv' := [(3, .int (x3 + (1 : Int32))), (0, .ref (ad E a0)), (1, .int x1), (2, .int x2)]) (j := 3) C dX5_findMost_72 rfl (cc_n_1 _) (by decide) rfl ?_
  refine g_goto (tgt := 12) C dX5_findMost_75 (by decide) ?_
  refine g_sub [1, 2, 3, 0] rfl ?_
  exact hk12 (wI h b0 32 s1) a0 x1 x2 (x3 + (1 : Int32)) oa0 hs hR
set_option maxHeartbeats 4000000 in
set_option maxRecDepth 100000 in
theorem wb_X5_findMost_47 {l : Launch} {E : Ep} {X : Fx} {res : Hp} (C : CX E X RX5 cX5_findMost 5 6) (k12 : Hp → Nat → Int32 → Int32 → Int32 → Option (Hp)) (hk12 : ∀ (h : Hp) (a0 : Nat) (x1 : Int32) (x2 : Int32) (x3 : Int32), OKr a0 5 → k12 h a0 x1 x2 x3 = some res → RT E X none none res → GG l E X h 12 [(0, .ref (ad E a0)), (1, .int x1), (2, .int x2), (3, .int x3)] []) (h : Hp) (a0 : Nat) (x1 : Int32) (x2 : Int32) (x3 : Int32) (x4 : Int32) (b0 : Nat) (s1 : Int32) (oa0 : OKr a0 5) (ob0 : OKr b0 5) (hs : b_X5_findMost_47 k12 h a0 x1 x2 x3 x4 b0 s1 = some res) (hR : RT E X none none res) : GG l E X h 47 [(0, .ref (ad E a0)), (1, .int x1), (2, .int x2), (3, .int x3), (4, .int x4)] [.int s1, .ref (ad E b0)] := by
  refine pf5_31 C ob0 lf_X5_256 dX5_findMost_47 ?_
  refine g_aload_n C 0 dX5_findMost_50 rfl rfl ?_
  refine g_iload C 4 dX5_findMost_51 rfl ?_
  refine g_aload_n C 0 dX5_findMost_53 rfl rfl ?_
  refine gf5_32 C oa0 lf_X5_259 dX5_findMost_54 ?_
  refine g_icmp_le (tgt := 65) C dX5_findMost_57 (by decide) hs (fun hs => ?_) (fun hs => ?_)
  · refine g_aload_n C 0 dX5_findMost_65 rfl rfl ?_
    refine gf5_32 C oa0 lf_X5_259 dX5_findMost_66 ?_
    refine g_sub [0, 1, 2, 3] rfl ?_
    exact wb_X5_findMost_69 C k12 hk12 (wI h b0 31 s1) a0 x1 x2 x3 a0 ((wI h b0 31 s1).1 a0 32) oa0 oa0 hs hR
  · refine g_iload C 4 dX5_findMost_60 rfl ?_
    refine g_goto (tgt := 69) C dX5_findMost_62 (by decide) ?_
    refine g_sub [0, 1, 2, 3] rfl ?_
    exact wb_X5_findMost_69 C k12 hk12 (wI h b0 31 s1) a0 x1 x2 x3 a0 x4 oa0 oa0 hs hR
set_option maxHeartbeats 4000000 in
set_option maxRecDepth 100000 in
theorem wb_X5_findMost_12 {l : Launch} {E : Ep} {X : Fx} {res : Hp} (C : CX E X RX5 cX5_findMost 5 6) : ∀ (n : Nat) (h : Hp) (a0 : Nat) (x1 : Int32) (x2 : Int32) (x3 : Int32) (oa0 : OKr a0 5), b_X5_findMost_12  n h a0 x1 x2 x3 = some res → RT E X none none res → GG l E X h 12 [(0, .ref (ad E a0)), (1, .int x1), (2, .int x2), (3, .int x3)] [] := by
  intro n
  induction n with
  | zero =>
    intro h a0 x1 x2 x3 oa0
    intro hs
    exact absurd hs (by intro e; cases e)
  | succ n ih =>
    intro h a0 x1 x2 x3 oa0 hs hR
    have hk12 := ih
    have hs : f_X5_findMost_12  (b_X5_findMost_12  n) h a0 x1 x2 x3 = some res := hs
    generalize b_X5_findMost_12  n = k12 at hs hk12
    refine g_iload_n C 3 dX5_findMost_12 rfl rfl ?_
    refine g_iload_n C 2 dX5_findMost_13 rfl rfl ?_
    obtain ⟨v1, hcv1, hs⟩ := bnd hs
    refine g_cS (As := [.int x2]) (rest := [.int x3]) C (w_X5_power l E _ _ _ hcv1) mw_X5_power lm_X5_249 rfl (by decide) rfl (Nat.le_of_ble_eq_true rfl) dX5_findMost_14 rfl ?_
    refine g_icmp_ge (tgt := 78) C dX5_findMost_17 (by decide) hs (fun hs => ?_) (fun hs => ?_)
    · have e9 := Option.some.inj hs
      subst e9
      exact g_vret C hR dX5_findMost_78
    · refine g_aload_n C 0 dX5_findMost_20 rfl rfl ?_
      refine g_iload_n C 1 dX5_findMost_21 rfl rfl ?_
      refine g_iload_n C 2 dX5_findMost_22 rfl rfl ?_
      refine g_iload_n C 3 dX5_findMost_23 rfl rfl ?_
      obtain ⟨q2, hcq2, hs⟩ := bnd hs
      refine g_cV (As := [.int x1, .int x2, .int x3]) (rest := []) C (w_X5_byRow l E _ _ _ _ _ _ oa0 hcq2) mw_X5_byRow lm_X5_262 oa0 rfl (ce5 E _ (oa0).2) rfl (by decide) rfl (Nat.le_of_ble_eq_true rfl) dX5_findMost_24 rfl ?_
      refine g_istore (lv' := [(4, .int q2.1), (0, .ref (ad E a0)), (1, .int x1), (2, .int x2), (3, .int x3)]) C dX5_findMost_27 (by decide) rfl ?_
      refine g_aload_n C 1 dX5_findMost_29 rfl rfl ?_
      refine g_iload C 0 dX5_findMost_30 rfl ?_
      refine g_aload_n C 1 dX5_findMost_32 rfl rfl ?_
      refine gf5_32 C oa0 lf_X5_259 dX5_findMost_33 ?_
      refine g_icmp_le (tgt := 43) C dX5_findMost_36 (by decide) hs (fun hs => ?_) (fun hs => ?_)
      · refine g_aload_n C 1 dX5_findMost_43 rfl rfl ?_
        refine gf5_31 C oa0 lf_X5_256 dX5_findMost_44 ?_
        refine g_sub [1, 2, 3, 4, 0] rfl ?_
        exact wb_X5_findMost_47 C k12 hk12 q2.2 a0 x1 x2 x3 q2.1 a0 (q2.2.1 a0 31) oa0 oa0 hs hR
      · refine g_iload_n C 4 dX5_findMost_39 rfl rfl ?_
        refine g_goto (tgt := 47) C dX5_findMost_40 (by decide) ?_
        refine g_sub [1, 2, 3, 4, 0] rfl ?_
        exact wb_X5_findMost_47 C k12 hk12 q2.2 a0 x1 x2 x3 q2.1 a0 x3 oa0 oa0 hs hR
set_option maxHeartbeats 4000000 in
set_option maxRecDepth 100000 in
theorem w_X5_findMost (l : Launch) (E : Ep) (h : Hp) (a0 : Nat) (x1 : Int32) (x2 : Int32) (res : Hp) (oa0 : OKr a0 5) (hs : sh_X5_findMost h a0 x1 x2 = some res) : MG l E yX5_findMost cX5_findMost 5 none 6 [.ref (ad E a0), .int x1, .int x2] h none res := by
  refine MG.of (by decide) (Nat.le_of_ble_eq_true rfl) ?_
  intro X C hR
  have C : CX E X RX5 cX5_findMost 5 6 := C
  show GG l E X h 0 [(0, .ref (ad E a0)), (1, .int x1), (2, .int x2)] []
  refine g_aload_n C 0 dX5_findMost_0 rfl rfl ?_
  refine g_iconst C dX5_findMost_1 cc_i_0 ?_
  refine pf5_31 C oa0 lf_X5_256 dX5_findMost_2 ?_
  refine g_aload_n C 0 dX5_findMost_5 rfl rfl ?_
  refine g_iconst C dX5_findMost_6 cc_i_m1 ?_
  refine pf5_32 C oa0 lf_X5_259 dX5_findMost_7 ?_
  refine g_iconst C dX5_findMost_10 cc_i_0 ?_
  refine g_istore_n (lv' := [(3, .int (0 : Int32)), (0, .ref (ad E a0)), (1, .int x1), (2, .int x2)]) C dX5_findMost_11 rfl (by decide) rfl ?_
  refine g_sub [1, 2, 3, 0] rfl ?_
  exact wb_X5_findMost_12 C 1000 (wI (wI h a0 31 (0 : Int32)) a0 32 (-1 : Int32)) a0 x1 x2 (0 : Int32) oa0 hs hR
