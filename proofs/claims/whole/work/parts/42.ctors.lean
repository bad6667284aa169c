/-! MADE by g4.py: constructors -/
theorem ko_1 : Cond.instanceMethod Lib.objectInit ∈ TB := tb_mem 125 (by decide +kernel) rfl
theorem ko_2 : Cond.code Lib.objectInit ⟨#[0xb1]⟩ 1 none ∈ TB := tb_mem 126 (by decide +kernel) rfl
theorem ka_1 : Cond.arrayClass .int ∈ TB := tb_mem 149 (by decide +kernel) rfl
theorem ka_2 : Cond.arrayClass .long ∈ TB := tb_mem 150 (by decide +kernel) rfl
def rX0 : Room := { frames := 1, cells := 3, slots := 299, locals := 12 }
def PoX0 (a : Nat) (u : TW) : Prop := ∃ (q8 : Nat) (c8 : ClassId) (q16 : Nat) (c16 : ClassId) (q24 : Nat) (c24 : ClassId), u = ([(c8, .int), (c16, .int), (c24, .long)], [(a, .inr (0, [.ref q8, .ref q16, .ref q24])), (q8, .inl (c8, 252, .inl (fun _ => 0))), (q16, .inl (c16, 36, .inl (fun _ => 0))), (q24, .inl (c24, 11, .inr (.inl (fun _ => 0))))])
set_option maxHeartbeats 1000000 in
set_option maxRecDepth 20000 in
theorem i_X0 (l : Launch) (D : va_G) : IN l D yX0_init cX0_init 1 rX0 0 [.null, .null, .null] PoX0 := by
  refine IN.of (by decide) rfl (by decide) (fun a X C Rt _ => ?_)
  refine b_aload0 C dX0_init_0 rfl ?_
  refine b_objInit C (show Cond.methodLink RX0 5 Lib.objectInit ∈ TB from tb_mem 138 (by decide +kernel) rfl) ko_1 ko_2 dX0_init_1 (Nat.le_of_ble_eq_true rfl) (Nat.le_of_ble_eq_true rfl) ?_
  refine b_aload0 C dX0_init_4 rfl ?_
  refine b_sipush (v := 252) C dX0_init_5 rfl ?_
  refine b_newI (n := 252) (N := 252) C ka_1 dX0_init_8 (by decide) (by decide) (by decide) (Nat.le_of_ble_eq_true rfl) (Nat.le_of_ble_eq_true rfl) (fun q8 c8 => ?_)
  show BG l X [(c8, .int)] [(a, .inr (0, [.null, .null, .null])), (q8, .inl (c8, 252, .inl (fun _ => 0)))] 1 252 10 [(0, .ref a)] [.ref q8, .ref a]
  refine b_putF (T := TX0) (N := 3) (j := 0) (q0 := 0) (ty := tyX0 0) C rfl iX0 tyX0 tyX0_ok nmX0 rfl (by decide) (Nat.le_of_ble_eq_true rfl) rfl rfl (tyX0_ok 0 (by decide)) rfl rfl (show Cond.fieldLink RX0 11 RX0 "amount" "[I" ∈ TB from tb_mem 139 (by decide +kernel) rfl) dX0_init_10 ?_
  show BG l X [(c8, .int)] [(a, .inr (0, [.ref q8, .null, .null])), (q8, .inl (c8, 252, .inl (fun _ => 0)))] 1 252 13 [(0, .ref a)] []
  refine b_aload0 C dX0_init_13 rfl ?_
  refine b_bipush (v := 36) C dX0_init_14 rfl ?_
  refine b_newI (n := 36) (N := 36) C ka_1 dX0_init_16 (by decide) (by decide) (by decide) (Nat.le_of_ble_eq_true rfl) (Nat.le_of_ble_eq_true rfl) (fun q16 c16 => ?_)
  show BG l X [(c8, .int), (c16, .int)] [(a, .inr (0, [.ref q8, .null, .null])), (q8, .inl (c8, 252, .inl (fun _ => 0))), (q16, .inl (c16, 36, .inl (fun _ => 0)))] 2 288 18 [(0, .ref a)] [.ref q16, .ref a]
  refine b_putF (T := TX0) (N := 3) (j := 1) (q0 := 0) (ty := tyX0 1) C rfl iX0 tyX0 tyX0_ok nmX0 rfl (by decide) (Nat.le_of_ble_eq_true rfl) rfl rfl (tyX0_ok 1 (by decide)) rfl rfl (show Cond.fieldLink RX0 15 RX0 "counted" "[I" ∈ TB from tb_mem 140 (by decide +kernel) rfl) dX0_init_18 ?_
  show BG l X [(c8, .int), (c16, .int)] [(a, .inr (0, [.ref q8, .ref q16, .null])), (q8, .inl (c8, 252, .inl (fun _ => 0))), (q16, .inl (c16, 36, .inl (fun _ => 0)))] 2 288 21 [(0, .ref a)] []
  refine b_aload0 C dX0_init_21 rfl ?_
  refine b_bipush (v := 11) C dX0_init_22 rfl ?_
  refine b_newJ (n := 11) (N := 11) C ka_2 dX0_init_24 (by decide) (by decide) (by decide) (Nat.le_of_ble_eq_true rfl) (Nat.le_of_ble_eq_true rfl) (fun q24 c24 => ?_)
  show BG l X [(c8, .int), (c16, .int), (c24, .long)] [(a, .inr (0, [.ref q8, .ref q16, .null])), (q8, .inl (c8, 252, .inl (fun _ => 0))), (q16, .inl (c16, 36, .inl (fun _ => 0))), (q24, .inl (c24, 11, .inr (.inl (fun _ => 0))))] 3 299 26 [(0, .ref a)] [.ref q24, .ref a]
  refine b_putF (T := TX0) (N := 3) (j := 2) (q0 := 0) (ty := tyX0 2) C rfl iX0 tyX0 tyX0_ok nmX0 rfl (by decide) (Nat.le_of_ble_eq_true rfl) rfl rfl (tyX0_ok 2 (by decide)) rfl rfl (show Cond.fieldLink RX0 18 RX0 "pairs" "[J" ∈ TB from tb_mem 141 (by decide +kernel) rfl) dX0_init_26 ?_
  show BG l X [(c8, .int), (c16, .int), (c24, .long)] [(a, .inr (0, [.ref q8, .ref q16, .ref q24])), (q8, .inl (c8, 252, .inl (fun _ => 0))), (q16, .inl (c16, 36, .inl (fun _ => 0))), (q24, .inl (c24, 11, .inr (.inl (fun _ => 0))))] 3 299 29 [(0, .ref a)] []
  exact b_vret C Rt dX0_init_29 ⟨q8, c8, q16, c16, q24, c24, rfl⟩ (Nat.le_of_ble_eq_true rfl) (Nat.le_of_ble_eq_true rfl)
def rX1 : Room := { frames := 1, cells := 1, slots := 64, locals := 12 }
def PoX1 (a : Nat) (u : TW) : Prop := ∃ (q7 : Nat) (c7 : ClassId), u = ([(c7, .int)], [(a, .inr (1, [.ref q7, .int 0, .int 0])), (q7, .inl (c7, 64, .inl (fun _ => 0)))])
set_option maxHeartbeats 1000000 in
set_option maxRecDepth 20000 in
theorem i_X1 (l : Launch) (D : va_G) : IN l D yX1_init cX1_init 1 rX1 1 [.null, .int 0, .int 0] PoX1 := by
  refine IN.of (by decide) rfl (by decide) (fun a X C Rt _ => ?_)
  refine b_aload0 C dX1_init_0 rfl ?_
  refine b_objInit C (show Cond.methodLink RX1 1 Lib.objectInit ∈ TB from tb_mem 230 (by decide +kernel) rfl) ko_1 ko_2 dX1_init_1 (Nat.le_of_ble_eq_true rfl) (Nat.le_of_ble_eq_true rfl) ?_
  refine b_aload0 C dX1_init_4 rfl ?_
  refine b_bipush (v := 64) C dX1_init_5 rfl ?_
  refine b_newI (n := 64) (N := 64) C ka_1 dX1_init_7 (by decide) (by decide) (by decide) (Nat.le_of_ble_eq_true rfl) (Nat.le_of_ble_eq_true rfl) (fun q7 c7 => ?_)
  show BG l X [(c7, .int)] [(a, .inr (1, [.null, .int 0, .int 0])), (q7, .inl (c7, 64, .inl (fun _ => 0)))] 1 64 9 [(0, .ref a)] [.ref q7, .ref a]
  refine b_putF (T := TX1) (N := 3) (j := 0) (q0 := 0) (ty := tyX1 0) C rfl iX1 tyX1 tyX1_ok nmX1 rfl (by decide) (Nat.le_of_ble_eq_true rfl) rfl rfl (tyX1_ok 0 (by decide)) rfl rfl (show Cond.fieldLink RX1 9 RX1 "letter" "[I" ∈ TB from tb_mem 231 (by decide +kernel) rfl) dX1_init_9 ?_
  show BG l X [(c7, .int)] [(a, .inr (1, [.ref q7, .int 0, .int 0])), (q7, .inl (c7, 64, .inl (fun _ => 0)))] 1 64 12 [(0, .ref a)] []
  exact b_vret C Rt dX1_init_12 ⟨q7, c7, rfl⟩ (Nat.le_of_ble_eq_true rfl) (Nat.le_of_ble_eq_true rfl)
def rX3 : Room := { frames := 2, cells := 10, slots := 336, locals := 32 }
def PoX3 (a : Nat) (u : TW) : Prop := ∃ (q7 : Nat) (c7 : ClassId) (q15 : Nat) (c15 : ClassId) (q23 : Nat) (c23 : ClassId) (q31 : Nat) (c31 : ClassId) (q39 : Nat) (c39 : ClassId) (q46 : Nat) (c46 : ClassId) (q68 : Nat) (q8_72 : Nat) (c8_72 : ClassId) (q16_72 : Nat) (c16_72 : ClassId) (q24_72 : Nat) (c24_72 : ClassId), u = ([(c7, .int), (c15, .int), (c23, .int), (c31, .int), (c39, .int), (c46, .int), (c8_72, .int), (c16_72, .int), (c24_72, .long)], [(a, .inr (3, [.ref q7, .ref q15, .ref q23, .ref q31, .ref q39, .ref q46, .ref q68, .int 0, .int 0])), (q7, .inl (c7, 6, .inl (fun _ => 0))), (q15, .inl (c15, 6, .inl (fun _ => 0))), (q23, .inl (c23, 6, .inl (fun _ => 0))), (q31, .inl (c31, 6, .inl (fun _ => 0))), (q39, .inl (c39, 6, .inl (fun _ => 0))), (q46, .inl (c46, 4, .inl (upd (upd (upd (upd (fun _ => 0) (0 : Int32).toNatClampNeg (0 : Int32)) (1 : Int32).toNatClampNeg (3 : Int32)) (2 : Int32).toNatClampNeg (0 : Int32)) (3 : Int32).toNatClampNeg (1 : Int32)))), (q68, .inr (0, [.ref q8_72, .ref q16_72, .ref q24_72])), (q8_72, .inl (c8_72, 252, .inl (fun _ => 0))), (q16_72, .inl (c16_72, 36, .inl (fun _ => 0))), (q24_72, .inl (c24_72, 11, .inr (.inl (fun _ => 0))))])
set_option maxHeartbeats 1000000 in
set_option maxRecDepth 20000 in
theorem i_X3 (l : Launch) (D : va_G) : IN l D yX3_init cX3_init 1 rX3 3 [.null, .null, .null, .null, .null, .null, .null, .int 0, .int 0] PoX3 := by
  refine IN.of (by decide) rfl (by decide) (fun a X C Rt _ => ?_)
  refine b_aload0 C dX3_init_0 rfl ?_
  refine b_objInit C (show Cond.methodLink RX3 3 Lib.objectInit ∈ TB from tb_mem 132 (by decide +kernel) rfl) ko_1 ko_2 dX3_init_1 (Nat.le_of_ble_eq_true rfl) (Nat.le_of_ble_eq_true rfl) ?_
  refine b_aload0 C dX3_init_4 rfl ?_
  refine b_bipush (v := 6) C dX3_init_5 rfl ?_
  refine b_newI (n := 6) (N := 6) C ka_1 dX3_init_7 (by decide) (by decide) (by decide) (Nat.le_of_ble_eq_true rfl) (Nat.le_of_ble_eq_true rfl) (fun q7 c7 => ?_)
  show BG l X [(c7, .int)] [(a, .inr (3, [.null, .null, .null, .null, .null, .null, .null, .int 0, .int 0])), (q7, .inl (c7, 6, .inl (fun _ => 0)))] 1 6 9 [(0, .ref a)] [.ref q7, .ref a]
  refine b_putF (T := TX3) (N := 9) (j := 0) (q0 := 0) (ty := tyX3 0) C rfl iX3 tyX3 tyX3_ok nmX3 rfl (by decide) (Nat.le_of_ble_eq_true rfl) rfl rfl (tyX3_ok 0 (by decide)) rfl rfl (show Cond.fieldLink RX3 9 RX3 "kind" "[I" ∈ TB from tb_mem 151 (by decide +kernel) rfl) dX3_init_9 ?_
  show BG l X [(c7, .int)] [(a, .inr (3, [.ref q7, .null, .null, .null, .null, .null, .null, .int 0, .int 0])), (q7, .inl (c7, 6, .inl (fun _ => 0)))] 1 6 12 [(0, .ref a)] []
  refine b_aload0 C dX3_init_12 rfl ?_
  refine b_bipush (v := 6) C dX3_init_13 rfl ?_
  refine b_newI (n := 6) (N := 6) C ka_1 dX3_init_15 (by decide) (by decide) (by decide) (Nat.le_of_ble_eq_true rfl) (Nat.le_of_ble_eq_true rfl) (fun q15 c15 => ?_)
  show BG l X [(c7, .int), (c15, .int)] [(a, .inr (3, [.ref q7, .null, .null, .null, .null, .null, .null, .int 0, .int 0])), (q7, .inl (c7, 6, .inl (fun _ => 0))), (q15, .inl (c15, 6, .inl (fun _ => 0)))] 2 12 17 [(0, .ref a)] [.ref q15, .ref a]
  refine b_putF (T := TX3) (N := 9) (j := 1) (q0 := 0) (ty := tyX3 1) C rfl iX3 tyX3 tyX3_ok nmX3 rfl (by decide) (Nat.le_of_ble_eq_true rfl) rfl rfl (tyX3_ok 1 (by decide)) rfl rfl (show Cond.fieldLink RX3 15 RX3 "figure" "[I" ∈ TB from tb_mem 153 (by decide +kernel) rfl) dX3_init_17 ?_
  show BG l X [(c7, .int), (c15, .int)] [(a, .inr (3, [.ref q7, .ref q15, .null, .null, .null, .null, .null, .int 0, .int 0])), (q7, .inl (c7, 6, .inl (fun _ => 0))), (q15, .inl (c15, 6, .inl (fun _ => 0)))] 2 12 20 [(0, .ref a)] []
  refine b_aload0 C dX3_init_20 rfl ?_
  refine b_bipush (v := 6) C dX3_init_21 rfl ?_
  refine b_newI (n := 6) (N := 6) C ka_1 dX3_init_23 (by decide) (by decide) (by decide) (Nat.le_of_ble_eq_true rfl) (Nat.le_of_ble_eq_true rfl) (fun q23 c23 => ?_)
  show BG l X [(c7, .int), (c15, .int), (c23, .int)] [(a, .inr (3, [.ref q7, .ref q15, .null, .null, .null, .null, .null, .int 0, .int 0])), (q7, .inl (c7, 6, .inl (fun _ => 0))), (q15, .inl (c15, 6, .inl (fun _ => 0))), (q23, .inl (c23, 6, .inl (fun _ => 0)))] 3 18 25 [(0, .ref a)] [.ref q23, .ref a]
  refine b_putF (T := TX3) (N := 9) (j := 2) (q0 := 0) (ty := tyX3 2) C rfl iX3 tyX3 tyX3_ok nmX3 rfl (by decide) (Nat.le_of_ble_eq_true rfl) rfl rfl (tyX3_ok 2 (by decide)) rfl rfl (show Cond.fieldLink RX3 18 RX3 "to" "[I" ∈ TB from tb_mem 155 (by decide +kernel) rfl) dX3_init_25 ?_
  show BG l X [(c7, .int), (c15, .int), (c23, .int)] [(a, .inr (3, [.ref q7, .ref q15, .ref q23, .null, .null, .null, .null, .int 0, .int 0])), (q7, .inl (c7, 6, .inl (fun _ => 0))), (q15, .inl (c15, 6, .inl (fun _ => 0))), (q23, .inl (c23, 6, .inl (fun _ => 0)))] 3 18 28 [(0, .ref a)] []
  refine b_aload0 C dX3_init_28 rfl ?_
  refine b_bipush (v := 6) C dX3_init_29 rfl ?_
  refine b_newI (n := 6) (N := 6) C ka_1 dX3_init_31 (by decide) (by decide) (by decide) (Nat.le_of_ble_eq_true rfl) (Nat.le_of_ble_eq_true rfl) (fun q31 c31 => ?_)
  show BG l X [(c7, .int), (c15, .int), (c23, .int), (c31, .int)] [(a, .inr (3, [.ref q7, .ref q15, .ref q23, .null, .null, .null, .null, .int 0, .int 0])), (q7, .inl (c7, 6, .inl (fun _ => 0))), (q15, .inl (c15, 6, .inl (fun _ => 0))), (q23, .inl (c23, 6, .inl (fun _ => 0))), (q31, .inl (c31, 6, .inl (fun _ => 0)))] 4 24 33 [(0, .ref a)] [.ref q31, .ref a]
  refine b_putF (T := TX3) (N := 9) (j := 3) (q0 := 0) (ty := tyX3 3) C rfl iX3 tyX3 tyX3_ok nmX3 rfl (by decide) (Nat.le_of_ble_eq_true rfl) rfl rfl (tyX3_ok 3 (by decide)) rfl rfl (show Cond.fieldLink RX3 21 RX3 "has" "[I" ∈ TB from tb_mem 157 (by decide +kernel) rfl) dX3_init_33 ?_
  show BG l X [(c7, .int), (c15, .int), (c23, .int), (c31, .int)] [(a, .inr (3, [.ref q7, .ref q15, .ref q23, .ref q31, .null, .null, .null, .int 0, .int 0])), (q7, .inl (c7, 6, .inl (fun _ => 0))), (q15, .inl (c15, 6, .inl (fun _ => 0))), (q23, .inl (c23, 6, .inl (fun _ => 0))), (q31, .inl (c31, 6, .inl (fun _ => 0)))] 4 24 36 [(0, .ref a)] []
  refine b_aload0 C dX3_init_36 rfl ?_
  refine b_bipush (v := 6) C dX3_init_37 rfl ?_
  refine b_newI (n := 6) (N := 6) C ka_1 dX3_init_39 (by decide) (by decide) (by decide) (Nat.le_of_ble_eq_true rfl) (Nat.le_of_ble_eq_true rfl) (fun q39 c39 => ?_)
  show BG l X [(c7, .int), (c15, .int), (c23, .int), (c31, .int), (c39, .int)] [(a, .inr (3, [.ref q7, .ref q15, .ref q23, .ref q31, .null, .null, .null, .int 0, .int 0])), (q7, .inl (c7, 6, .inl (fun _ => 0))), (q15, .inl (c15, 6, .inl (fun _ => 0))), (q23, .inl (c23, 6, .inl (fun _ => 0))), (q31, .inl (c31, 6, .inl (fun _ => 0))), (q39, .inl (c39, 6, .inl (fun _ => 0)))] 5 30 41 [(0, .ref a)] [.ref q39, .ref a]
  refine b_putF (T := TX3) (N := 9) (j := 4) (q0 := 0) (ty := tyX3 4) C rfl iX3 tyX3 tyX3_ok nmX3 rfl (by decide) (Nat.le_of_ble_eq_true rfl) rfl rfl (tyX3_ok 4 (by decide)) rfl rfl (show Cond.fieldLink RX3 24 RX3 "finds" "[I" ∈ TB from tb_mem 160 (by decide +kernel) rfl) dX3_init_41 ?_
  show BG l X [(c7, .int), (c15, .int), (c23, .int), (c31, .int), (c39, .int)] [(a, .inr (3, [.ref q7, .ref q15, .ref q23, .ref q31, .ref q39, .null, .null, .int 0, .int 0])), (q7, .inl (c7, 6, .inl (fun _ => 0))), (q15, .inl (c15, 6, .inl (fun _ => 0))), (q23, .inl (c23, 6, .inl (fun _ => 0))), (q31, .inl (c31, 6, .inl (fun _ => 0))), (q39, .inl (c39, 6, .inl (fun _ => 0)))] 5 30 44 [(0, .ref a)] []
  refine b_aload0 C dX3_init_44 rfl ?_
  refine b_iconst (v := 4) C dX3_init_45 rfl ?_
  refine b_newI (n := 4) (N := 4) C ka_1 dX3_init_46 (by decide) (by decide) (by decide) (Nat.le_of_ble_eq_true rfl) (Nat.le_of_ble_eq_true rfl) (fun q46 c46 => ?_)
  show BG l X [(c7, .int), (c15, .int), (c23, .int), (c31, .int), (c39, .int), (c46, .int)] [(a, .inr (3, [.ref q7, .ref q15, .ref q23, .ref q31, .ref q39, .null, .null, .int 0, .int 0])), (q7, .inl (c7, 6, .inl (fun _ => 0))), (q15, .inl (c15, 6, .inl (fun _ => 0))), (q23, .inl (c23, 6, .inl (fun _ => 0))), (q31, .inl (c31, 6, .inl (fun _ => 0))), (q39, .inl (c39, 6, .inl (fun _ => 0))), (q46, .inl (c46, 4, .inl (fun _ => 0)))] 6 34 48 [(0, .ref a)] [.ref q46, .ref a]
  refine b_dup C dX3_init_48 rfl ?_
  refine b_iconst (v := 0) C dX3_init_49 rfl ?_
  refine b_iconst (v := 0) C dX3_init_50 rfl ?_
  refine b_iast (q0 := 6) (t0 := 5) C rfl rfl (show vp_in (nI 0) 4 from vp_in_nI (by decide) (by decide)) dX3_init_51 ?_
  show BG l X [(c7, .int), (c15, .int), (c23, .int), (c31, .int), (c39, .int), (c46, .int)] [(a, .inr (3, [.ref q7, .ref q15, .ref q23, .ref q31, .ref q39, .null, .null, .int 0, .int 0])), (q7, .inl (c7, 6, .inl (fun _ => 0))), (q15, .inl (c15, 6, .inl (fun _ => 0))), (q23, .inl (c23, 6, .inl (fun _ => 0))), (q31, .inl (c31, 6, .inl (fun _ => 0))), (q39, .inl (c39, 6, .inl (fun _ => 0))), (q46, .inl (c46, 4, .inl (upd (fun _ => 0) (0 : Int32).toNatClampNeg (0 : Int32))))] 6 34 52 [(0, .ref a)] [.ref q46, .ref a]
  refine b_dup C dX3_init_52 rfl ?_
  refine b_iconst (v := 1) C dX3_init_53 rfl ?_
  refine b_iconst (v := 3) C dX3_init_54 rfl ?_
  refine b_iast (q0 := 6) (t0 := 5) C rfl rfl (show vp_in (nI 1) 4 from vp_in_nI (by decide) (by decide)) dX3_init_55 ?_
  show BG l X [(c7, .int), (c15, .int), (c23, .int), (c31, .int), (c39, .int), (c46, .int)] [(a, .inr (3, [.ref q7, .ref q15, .ref q23, .ref q31, .ref q39, .null, .null, .int 0, .int 0])), (q7, .inl (c7, 6, .inl (fun _ => 0))), (q15, .inl (c15, 6, .inl (fun _ => 0))), (q23, .inl (c23, 6, .inl (fun _ => 0))), (q31, .inl (c31, 6, .inl (fun _ => 0))), (q39, .inl (c39, 6, .inl (fun _ => 0))), (q46, .inl (c46, 4, .inl (upd (upd (fun _ => 0) (0 : Int32).toNatClampNeg (0 : Int32)) (1 : Int32).toNatClampNeg (3 : Int32))))] 6 34 56 [(0, .ref a)] [.ref q46, .ref a]
  refine b_dup C dX3_init_56 rfl ?_
  refine b_iconst (v := 2) C dX3_init_57 rfl ?_
  refine b_iconst (v := 0) C dX3_init_58 rfl ?_
  refine b_iast (q0 := 6) (t0 := 5) C rfl rfl (show vp_in (nI 2) 4 from vp_in_nI (by decide) (by decide)) dX3_init_59 ?_
  show BG l X [(c7, .int), (c15, .int), (c23, .int), (c31, .int), (c39, .int), (c46, .int)] [(a, .inr (3, [.ref q7, .ref q15, .ref q23, .ref q31, .ref q39, .null, .null, .int 0, .int 0])), (q7, .inl (c7, 6, .inl (fun _ => 0))), (q15, .inl (c15, 6, .inl (fun _ => 0))), (q23, .inl (c23, 6, .inl (fun _ => 0))), (q31, .inl (c31, 6, .inl (fun _ => 0))), (q39, .inl (c39, 6, .inl (fun _ => 0))), (q46, .inl (c46, 4, .inl (upd (upd (upd (fun _ => 0) (0 : Int32).toNatClampNeg (0 : Int32)) (1 : Int32).toNatClampNeg (3 : Int32)) (2 : Int32).toNatClampNeg (0 : Int32))))] 6 34 60 [(0, .ref a)] [.ref q46, .ref a]
  refine b_dup C dX3_init_60 rfl ?_
  refine b_iconst (v := 3) C dX3_init_61 rfl ?_
  refine b_iconst (v := 1) C dX3_init_62 rfl ?_
  refine b_iast (q0 := 6) (t0 := 5) C rfl rfl (show vp_in (nI 3) 4 from vp_in_nI (by decide) (by decide)) dX3_init_63 ?_
  show BG l X [(c7, .int), (c15, .int), (c23, .int), (c31, .int), (c39, .int), (c46, .int)] [(a, .inr (3, [.ref q7, .ref q15, .ref q23, .ref q31, .ref q39, .null, .null, .int 0, .int 0])), (q7, .inl (c7, 6, .inl (fun _ => 0))), (q15, .inl (c15, 6, .inl (fun _ => 0))), (q23, .inl (c23, 6, .inl (fun _ => 0))), (q31, .inl (c31, 6, .inl (fun _ => 0))), (q39, .inl (c39, 6, .inl (fun _ => 0))), (q46, .inl (c46, 4, .inl (upd (upd (upd (upd (fun _ => 0) (0 : Int32).toNatClampNeg (0 : Int32)) (1 : Int32).toNatClampNeg (3 : Int32)) (2 : Int32).toNatClampNeg (0 : Int32)) (3 : Int32).toNatClampNeg (1 : Int32))))] 6 34 64 [(0, .ref a)] [.ref q46, .ref a]
  refine b_putF (T := TX3) (N := 9) (j := 5) (q0 := 0) (ty := tyX3 5) C rfl iX3 tyX3 tyX3_ok nmX3 rfl (by decide) (Nat.le_of_ble_eq_true rfl) rfl rfl (tyX3_ok 5 (by decide)) rfl rfl (show Cond.fieldLink RX3 27 RX3 "setting" "[I" ∈ TB from tb_mem 162 (by decide +kernel) rfl) dX3_init_64 ?_
  show BG l X [(c7, .int), (c15, .int), (c23, .int), (c31, .int), (c39, .int), (c46, .int)] [(a, .inr (3, [.ref q7, .ref q15, .ref q23, .ref q31, .ref q39, .ref q46, .null, .int 0, .int 0])), (q7, .inl (c7, 6, .inl (fun _ => 0))), (q15, .inl (c15, 6, .inl (fun _ => 0))), (q23, .inl (c23, 6, .inl (fun _ => 0))), (q31, .inl (c31, 6, .inl (fun _ => 0))), (q39, .inl (c39, 6, .inl (fun _ => 0))), (q46, .inl (c46, 4, .inl (upd (upd (upd (upd (fun _ => 0) (0 : Int32).toNatClampNeg (0 : Int32)) (1 : Int32).toNatClampNeg (3 : Int32)) (2 : Int32).toNatClampNeg (0 : Int32)) (3 : Int32).toNatClampNeg (1 : Int32))))] 6 34 67 [(0, .ref a)] []
  refine b_aload0 C dX3_init_67 rfl ?_
  refine b_new (T := TX0) (N := 3) (ci := 0) (fs := [.null, .null, .null]) C rfl iX0 tyX0 tyX0_ok (show Cond.classLink RX3 30 RX0 ∈ TB from tb_mem 133 (by decide +kernel) rfl) (show Cond.instantiable RX0 3 ∈ TB from tb_mem 134 (by decide +kernel) rfl) (show Cond.initialized RX0 ∈ TB from tb_mem 112 (by decide +kernel) rfl) (by intro j hj; rcases (show j = 0 ∨ j = 1 ∨ j = 2 by omega) with rfl | rfl | rfl <;> rfl) (Nat.le_of_ble_eq_true rfl) (Nat.le_of_ble_eq_true rfl) dX3_init_68 (fun q68 => ?_)
  show BG l X [(c7, .int), (c15, .int), (c23, .int), (c31, .int), (c39, .int), (c46, .int)] [(a, .inr (3, [.ref q7, .ref q15, .ref q23, .ref q31, .ref q39, .ref q46, .null, .int 0, .int 0])), (q7, .inl (c7, 6, .inl (fun _ => 0))), (q15, .inl (c15, 6, .inl (fun _ => 0))), (q23, .inl (c23, 6, .inl (fun _ => 0))), (q31, .inl (c31, 6, .inl (fun _ => 0))), (q39, .inl (c39, 6, .inl (fun _ => 0))), (q46, .inl (c46, 4, .inl (upd (upd (upd (upd (fun _ => 0) (0 : Int32).toNatClampNeg (0 : Int32)) (1 : Int32).toNatClampNeg (3 : Int32)) (2 : Int32).toNatClampNeg (0 : Int32)) (3 : Int32).toNatClampNeg (1 : Int32)))), (q68, .inr (0, [.null, .null, .null]))] 7 37 71 [(0, .ref a)] [.ref q68, .ref a]
  refine b_dup C dX3_init_71 rfl ?_
  refine b_callN (q := q68) (n := 7) (wr := [(a, .inr (3, [.ref q7, .ref q15, .ref q23, .ref q31, .ref q39, .ref q46, .null, .int 0, .int 0])), (q7, .inl (c7, 6, .inl (fun _ => 0))), (q15, .inl (c15, 6, .inl (fun _ => 0))), (q23, .inl (c23, 6, .inl (fun _ => 0))), (q31, .inl (c31, 6, .inl (fun _ => 0))), (q39, .inl (c39, 6, .inl (fun _ => 0))), (q46, .inl (c46, 4, .inl (upd (upd (upd (upd (fun _ => 0) (0 : Int32).toNatClampNeg (0 : Int32)) (1 : Int32).toNatClampNeg (3 : Int32)) (2 : Int32).toNatClampNeg (0 : Int32)) (3 : Int32).toNatClampNeg (1 : Int32))))]) C (i_X0 l _) [0, 1, 2, 3, 4, 5, 6] rfl rfl rfl (by decide) (show Cond.methodLinkNest RX3 32 yX0_init "GaveTheDayBefore" ∈ NWL from nw_mem 135 (by decide +kernel) rfl) (show Cond.instanceMethod yX0_init ∈ TB from tb_mem 136 (by decide +kernel) rfl) (show Cond.code yX0_init cX0_init 1 none ∈ TB from tb_mem 137 (by decide +kernel) rfl) (show Cond.initialized RX0 ∈ TB from tb_mem 112 (by decide +kernel) rfl) ⟨by decide, by decide, by decide +kernel⟩ rfl ⟨(Nat.le_of_ble_eq_true rfl), (Nat.le_of_ble_eq_true rfl)⟩ ⟨(Nat.le_of_ble_eq_true rfl), (Nat.le_of_ble_eq_true rfl)⟩ (Nat.le_of_ble_eq_true rfl) dX3_init_72 (fun u hu => ?_)
  obtain ⟨q8_72, c8_72, q16_72, c16_72, q24_72, c24_72, rfl⟩ := hu
  show BG l X [(c7, .int), (c15, .int), (c23, .int), (c31, .int), (c39, .int), (c46, .int), (c8_72, .int), (c16_72, .int), (c24_72, .long)] [(a, .inr (3, [.ref q7, .ref q15, .ref q23, .ref q31, .ref q39, .ref q46, .null, .int 0, .int 0])), (q7, .inl (c7, 6, .inl (fun _ => 0))), (q15, .inl (c15, 6, .inl (fun _ => 0))), (q23, .inl (c23, 6, .inl (fun _ => 0))), (q31, .inl (c31, 6, .inl (fun _ => 0))), (q39, .inl (c39, 6, .inl (fun _ => 0))), (q46, .inl (c46, 4, .inl (upd (upd (upd (upd (fun _ => 0) (0 : Int32).toNatClampNeg (0 : Int32)) (1 : Int32).toNatClampNeg (3 : Int32)) (2 : Int32).toNatClampNeg (0 : Int32)) (3 : Int32).toNatClampNeg (1 : Int32)))), (q68, .inr (0, [.ref q8_72, .ref q16_72, .ref q24_72])), (q8_72, .inl (c8_72, 252, .inl (fun _ => 0))), (q16_72, .inl (c16_72, 36, .inl (fun _ => 0))), (q24_72, .inl (c24_72, 11, .inr (.inl (fun _ => 0))))] 10 336 75 [(0, .ref a)] [.ref q68, .ref a]
  refine b_putF (T := TX3) (N := 9) (j := 6) (q0 := 0) (ty := tyX3 6) C rfl iX3 tyX3 tyX3_ok nmX3 rfl (by decide) (Nat.le_of_ble_eq_true rfl) rfl rfl (tyX3_ok 6 (by decide)) rfl rfl (show Cond.fieldLink RX3 33 RX3 "gifts" "LGaveTheDayBefore$Gifts;" ∈ TB from tb_mem 163 (by decide +kernel) rfl) dX3_init_75 ?_
  show BG l X [(c7, .int), (c15, .int), (c23, .int), (c31, .int), (c39, .int), (c46, .int), (c8_72, .int), (c16_72, .int), (c24_72, .long)] [(a, .inr (3, [.ref q7, .ref q15, .ref q23, .ref q31, .ref q39, .ref q46, .ref q68, .int 0, .int 0])), (q7, .inl (c7, 6, .inl (fun _ => 0))), (q15, .inl (c15, 6, .inl (fun _ => 0))), (q23, .inl (c23, 6, .inl (fun _ => 0))), (q31, .inl (c31, 6, .inl (fun _ => 0))), (q39, .inl (c39, 6, .inl (fun _ => 0))), (q46, .inl (c46, 4, .inl (upd (upd (upd (upd (fun _ => 0) (0 : Int32).toNatClampNeg (0 : Int32)) (1 : Int32).toNatClampNeg (3 : Int32)) (2 : Int32).toNatClampNeg (0 : Int32)) (3 : Int32).toNatClampNeg (1 : Int32)))), (q68, .inr (0, [.ref q8_72, .ref q16_72, .ref q24_72])), (q8_72, .inl (c8_72, 252, .inl (fun _ => 0))), (q16_72, .inl (c16_72, 36, .inl (fun _ => 0))), (q24_72, .inl (c24_72, 11, .inr (.inl (fun _ => 0))))] 10 336 78 [(0, .ref a)] []
  exact b_vret C Rt dX3_init_78 ⟨q7, c7, q15, c15, q23, c23, q31, c31, q39, c39, q46, c46, q68, q8_72, c8_72, q16_72, c16_72, q24_72, c24_72, rfl⟩ (Nat.le_of_ble_eq_true rfl) (Nat.le_of_ble_eq_true rfl)
