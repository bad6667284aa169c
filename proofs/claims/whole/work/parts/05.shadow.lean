def b_X4_refuse_22 (h : Hp) (x1 : Int32) : Option (Int32 × Hp) :=
some (x1, h)
def sh_X4_refuse (h : Hp) (a0 : Nat) (x1 : Int32) : Option (Int32 × Hp) :=
if x1 < (-6 : Int32) then (
b_X4_refuse_22 h x1)
else (
if (-1 : Int32) < x1 then (
b_X4_refuse_22 h x1)
else (
Option.bind (ldI h (rf a0 7) (-x1)) fun v1 =>
Option.bind (stI h (rf a0 7) (-x1) (v1 + (1 : Int32))) fun h2 =>
b_X4_refuse_22 h2 x1))
def b_X1_isFull_14 (h : Hp) (s0 : Int32) : Option (Int32) :=
Option.bind (bol s0) fun v1 =>
some v1
def sh_X1_isFull (h : Hp) (a0 : Nat) : Option (Int32) :=
if (h.1 a0 1) < (64 : Int32) then (
b_X1_isFull_14 h (0 : Int32))
else (
b_X1_isFull_14 h (1 : Int32))
def b_X1_add_29 (h : Hp) (a0 : Nat) : Option (Int32 × Hp) :=
some ((h.1 a0 1), h)
def sh_X1_add (h : Hp) (a0 : Nat) (x1 : Int32) : Option (Int32 × Hp) :=
if (64 : Int32) ≤ (h.1 a0 1) then (
b_X1_add_29 h a0)
else (
Option.bind (stI h (rf a0 0) (h.1 a0 1) x1) fun h1 =>
b_X1_add_29 (wI h1 a0 1 ((h1.1 a0 1) + (1 : Int32))) a0)
def b_X4_feed_28 (h : Hp) (a0 : Nat) : Option (Int32 × Hp) :=
Option.bind (sh_X4_refuse h a0 (-6 : Int32)) fun q1 =>
some (q1.1, q1.2)
def sh_X4_feed (h : Hp) (a0 : Nat) (x1 : Int32) : Option (Int32 × Hp) :=
if 0 ≤ x1 then (
if (255 : Int32) < x1 then (
b_X4_feed_28 h a0)
else (
Option.bind (sh_X1_isFull h (rf a0 4)) fun v1 =>
if v1 = 0 then (
Option.bind (sh_X1_add h (rf a0 4) x1) fun q2 =>
some (q2.1, q2.2))
else (
b_X4_feed_28 h a0)))
else (
Option.bind (sh_X4_refuse h a0 (-4 : Int32)) fun q3 =>
some (q3.1, q3.2))
def b_X1_isAt_27 (h : Hp) (s0 : Int32) : Option (Int32) :=
Option.bind (bol s0) fun v1 =>
some v1
def b_X1_isAt_26 (h : Hp) : Option (Int32) :=
b_X1_isAt_27 h (0 : Int32)
def sh_X1_isAt (h : Hp) (a0 : Nat) (x1 : Int32) (x2 : Int32) : Option (Int32) :=
if x2 < 0 then (
b_X1_isAt_26 h)
else (
if (h.1 a0 1) ≤ x2 then (
b_X1_isAt_26 h)
else (
Option.bind (ldI h (rf a0 0) x2) fun v1 =>
if v1 = x1 then (
b_X1_isAt_27 h (1 : Int32))
else (
b_X1_isAt_26 h)))
def sh_X1_passes (h : Hp) (a0 : Nat) (x1 : Int32) : Option (Int32 × Hp) :=
Option.bind (sh_X1_isAt h a0 x1 (h.1 a0 2)) fun v1 =>
if v1 = 0 then (
some ((0 : Int32), h))
else (
some ((1 : Int32), (wI h a0 2 ((h.1 a0 2) + (1 : Int32)))))
def b_X1_isDigitAt_39 (h : Hp) (s0 : Int32) : Option (Int32) :=
Option.bind (bol s0) fun v1 =>
some v1
def b_X1_isDigitAt_38 (h : Hp) : Option (Int32) :=
b_X1_isDigitAt_39 h (0 : Int32)
def sh_X1_isDigitAt (h : Hp) (a0 : Nat) (x1 : Int32) : Option (Int32) :=
if x1 < 0 then (
b_X1_isDigitAt_38 h)
else (
if (h.1 a0 1) ≤ x1 then (
b_X1_isDigitAt_38 h)
else (
Option.bind (ldI h (rf a0 0) x1) fun v1 =>
if v1 < (48 : Int32) then (
b_X1_isDigitAt_38 h)
else (
Option.bind (ldI h (rf a0 0) x1) fun v2 =>
if (57 : Int32) < v2 then (
b_X1_isDigitAt_38 h)
else (
b_X1_isDigitAt_39 h (1 : Int32)))))
def b_X1_passesDigits_44 (h : Hp) (s0 : Int32) : Option (Int32 × Hp) :=
Option.bind (bol s0) fun v1 =>
some (v1, h)
def b_X1_passesDigits_34 (h : Hp) (x1 : Int32) (x3 : Int32) : Option (Int32 × Hp) :=
if x3 < x1 then (
b_X1_passesDigits_44 h (0 : Int32))
else (
b_X1_passesDigits_44 h (1 : Int32))
def f_X1_passesDigits_2 (k2 : Hp → Nat → Int32 → Int32 → Int32 → Option (Int32 × Hp)) (h : Hp) (a0 : Nat) (x1 : Int32) (x2 : Int32) (x3 : Int32) : Option (Int32 × Hp) :=
if x2 ≤ x3 then (
b_X1_passesDigits_34 h x1 x3)
else (
Option.bind (sh_X1_isDigitAt h a0 (h.1 a0 2)) fun v1 =>
if v1 = 0 then (
b_X1_passesDigits_34 h x1 x3)
else (
k2 (wI h a0 2 ((h.1 a0 2) + (1 : Int32))) a0 x1 x2 (x3 + (1 : Int32))))
def b_X1_passesDigits_2 : Nat → Hp → Nat → Int32 → Int32 → Int32 → Option (Int32 × Hp)
  | 0 => fun _ _ _ _ _ => none
  | n + 1 => f_X1_passesDigits_2  (b_X1_passesDigits_2  n)
def sh_X1_passesDigits (h : Hp) (a0 : Nat) (x1 : Int32) (x2 : Int32) : Option (Int32 × Hp) :=
b_X1_passesDigits_2 1000 h a0 x1 x2 (0 : Int32)
def b_X1_passesStatement_32 (h : Hp) (s0 : Int32) : Option (Int32 × Hp) :=
Option.bind (bol s0) fun v1 =>
some (v1, h)
def b_X1_passesStatement_31 (h : Hp) : Option (Int32 × Hp) :=
b_X1_passesStatement_32 h (0 : Int32)
def b_X1_passesStatement_84 (h : Hp) (s0 : Int32) : Option (Int32 × Hp) :=
Option.bind (bol s0) fun v1 =>
some (v1, h)
def b_X1_passesStatement_83 (h : Hp) : Option (Int32 × Hp) :=
b_X1_passesStatement_84 h (0 : Int32)
def sh_X1_passesStatement (h : Hp) (a0 : Nat) : Option (Int32 × Hp) :=
Option.bind (sh_X1_passes h a0 (108 : Int32)) fun q1 =>
if q1.1 = 0 then (
Option.bind (sh_X1_passes q1.2 a0 (112 : Int32)) fun q2 =>
if q2.1 = 0 then (
b_X1_passesStatement_83 q2.2)
else (
Option.bind (sh_X1_passesDigits q2.2 a0 (4 : Int32) (7 : Int32)) fun q3 =>
if q3.1 = 0 then (
b_X1_passesStatement_83 q3.2)
else (
Option.bind (sh_X1_passes q3.2 a0 (44 : Int32)) fun q4 =>
if q4.1 = 0 then (
b_X1_passesStatement_83 q4.2)
else (
Option.bind (sh_X1_passesDigits q4.2 a0 (1 : Int32) (2 : Int32)) fun q5 =>
if q5.1 = 0 then (
b_X1_passesStatement_83 q5.2)
else (
Option.bind (sh_X1_passes q5.2 a0 (59 : Int32)) fun q6 =>
if q6.1 = 0 then (
b_X1_passesStatement_83 q6.2)
else (
b_X1_passesStatement_84 q6.2 (1 : Int32)))))))
else (
Option.bind (sh_X1_passesDigits q1.2 a0 (3 : Int32) (3 : Int32)) fun q7 =>
if q7.1 = 0 then (
b_X1_passesStatement_31 q7.2)
else (
Option.bind (sh_X1_passes q7.2 a0 (59 : Int32)) fun q8 =>
if q8.1 = 0 then (
b_X1_passesStatement_31 q8.2)
else (
b_X1_passesStatement_32 q8.2 (1 : Int32))))
def b_X1_firstUnfit_64 (h : Hp) (s0 : Int32) : Option (Int32 × Hp) :=
some (s0, h)
def b_X1_firstUnfit_52 (h : Hp) (a0 : Nat) (x1 : Int32) : Option (Int32 × Hp) :=
if x1 = 0 then (
b_X1_firstUnfit_64 h (h.1 a0 2))
else (
b_X1_firstUnfit_64 h (-1 : Int32))
def f_X1_firstUnfit_20 (k20 : Hp → Nat → Int32 → Int32 → Option (Int32 × Hp)) (h : Hp) (a0 : Nat) (x1 : Int32) (x2 : Int32) : Option (Int32 × Hp) :=
if (64 : Int32) ≤ x2 then (
b_X1_firstUnfit_52 h a0 x1)
else (
if x1 = 0 then (
b_X1_firstUnfit_52 h a0 x1)
else (
if (h.1 a0 1) ≤ (h.1 a0 2) then (
b_X1_firstUnfit_52 h a0 x1)
else (
Option.bind (sh_X1_passesStatement h a0) fun q1 =>
k20 q1.2 a0 q1.1 (x2 + (1 : Int32)))))
def b_X1_firstUnfit_20 : Nat → Hp → Nat → Int32 → Int32 → Option (Int32 × Hp)
  | 0 => fun _ _ _ _ => none
  | n + 1 => f_X1_firstUnfit_20  (b_X1_firstUnfit_20  n)
def b_X1_firstUnfit_17 (h : Hp) (a0 : Nat) (s0 : Int32) : Option (Int32 × Hp) :=
b_X1_firstUnfit_20 1000 h a0 s0 (0 : Int32)
def sh_X1_firstUnfit (h : Hp) (a0 : Nat) : Option (Int32 × Hp) :=
if ((wI h a0 2 (0 : Int32)).1 a0 1) ≤ 0 then (
b_X1_firstUnfit_17 (wI h a0 2 (0 : Int32)) a0 (0 : Int32))
else (
b_X1_firstUnfit_17 (wI h a0 2 (0 : Int32)) a0 (1 : Int32))
def sh_X0_become (h : Hp) (a0 : Nat) (a1 : Nat) : Option (Hp) :=
Option.bind (acI h (rf a1 0) (0 : Int32) (rf a0 0) (0 : Int32) (Int32.ofNat (len (rf a0 0)))) fun h1 =>
Option.bind (acI h1 (rf a1 1) (0 : Int32) (rf a0 1) (0 : Int32) (Int32.ofNat (len (rf a0 1)))) fun h2 =>
Option.bind (acJ h2 (rf a1 2) (0 : Int32) (rf a0 2) (0 : Int32) (Int32.ofNat (len (rf a0 2)))) fun h3 =>
some h3
def sh_X3_become (h : Hp) (a0 : Nat) (a1 : Nat) : Option (Hp) :=
Option.bind (acI h (rf a1 0) (0 : Int32) (rf a0 0) (0 : Int32) (6 : Int32)) fun h1 =>
Option.bind (acI h1 (rf a1 1) (0 : Int32) (rf a0 1) (0 : Int32) (6 : Int32)) fun h2 =>
Option.bind (acI h2 (rf a1 2) (0 : Int32) (rf a0 2) (0 : Int32) (6 : Int32)) fun h3 =>
Option.bind (acI h3 (rf a1 3) (0 : Int32) (rf a0 3) (0 : Int32) (6 : Int32)) fun h4 =>
Option.bind (acI h4 (rf a1 4) (0 : Int32) (rf a0 4) (0 : Int32) (6 : Int32)) fun h5 =>
Option.bind (acI h5 (rf a1 5) (0 : Int32) (rf a0 5) (0 : Int32) (Int32.ofNat (len (rf a0 5)))) fun h6 =>
Option.bind (sh_X0_become h6 (rf a0 6) (rf a1 6)) fun h7 =>
some (wI (wI h7 a0 7 (h7.1 a1 7)) a0 8 ((wI h7 a0 7 (h7.1 a1 7)).1 a1 8))
def b_X1_digit_21 (h : Hp) (s0 : Int32) : Option (Int32) :=
some s0
def sh_X1_digit (h : Hp) (a0 : Nat) (x1 : Int32) : Option (Int32) :=
Option.bind (sh_X1_isDigitAt h a0 x1) fun v1 =>
if v1 = 0 then (
b_X1_digit_21 h (0 : Int32))
else (
Option.bind (ldI h (rf a0 0) x1) fun v2 =>
b_X1_digit_21 h (v2 - (48 : Int32)))
def b_X4_outside_21 (h : Hp) (s0 : Int32) : Option (Int32) :=
some s0
def sh_X4_outside (h : Hp) (x0 : Int32) (x1 : Int32) (x2 : Int32) : Option (Int32) :=
if x1 ≤ x0 then (
if x0 ≤ x2 then (
b_X4_outside_21 h (0 : Int32))
else (
b_X4_outside_21 h (-6 : Int32)))
else (
b_X4_outside_21 h (-4 : Int32))
def b_X0_countOf_64 (k26 : Hp → Nat → Int32 → Int64 → Int32 → Int32 → Int32 → Option (Int32)) (h : Hp) (a0 : Nat) (x2 : Int32) (y3 : Int64) (x5 : Int32) (x6 : Int32) (x7 : Int32) : Option (Int32) :=
k26 h a0 x2 y3 x5 x6 (x7 + (1 : Int32))
def f_X0_countOf_26 (k26 : Hp → Nat → Int32 → Int64 → Int32 → Int32 → Int32 → Option (Int32)) (h : Hp) (a0 : Nat) (x2 : Int32) (y3 : Int64) (x5 : Int32) (x6 : Int32) (x7 : Int32) : Option (Int32) :=
if (6 : Int32) ≤ x7 then (
some x6)
else (
if (lg_cmp (y3 &&& ((1 : Int64) <<< ((((x7 * (6 : Int32)) + x2)).toInt64 &&& 63))) (0 : Int64)) = 0 then (
Option.bind (ldI h (rf a0 0) (x5 + x7)) fun v1 =>
b_X0_countOf_64 k26 h a0 x2 y3 x5 (x6 + v1) x7)
else (
b_X0_countOf_64 k26 h a0 x2 y3 x5 x6 x7))
def b_X0_countOf_26 : Nat → Hp → Nat → Int32 → Int64 → Int32 → Int32 → Int32 → Option (Int32)
  | 0 => fun _ _ _ _ _ _ _ => none
  | n + 1 => f_X0_countOf_26  (b_X0_countOf_26  n)
def sh_X0_countOf (h : Hp) (a0 : Nat) (x1 : Int32) (x2 : Int32) (y3 : Int64) : Option (Int32) :=
Option.bind (ldI h (rf a0 0) (((x1 * (42 : Int32)) + (x2 * (7 : Int32))) + (6 : Int32))) fun v1 =>
b_X0_countOf_26 1000 h a0 x2 y3 ((x1 * (42 : Int32)) + (x2 * (7 : Int32))) v1 (0 : Int32)
def f_X0_countDay_43 (k43 : Hp → Nat → Int32 → Int64 → Int32 → Option (Hp)) (h : Hp) (a0 : Nat) (x1 : Int32) (y3 : Int64) (x5 : Int32) : Option (Hp) :=
if (6 : Int32) ≤ x5 then (
some h)
else (
Option.bind (sh_X0_countOf h a0 x1 x5 y3) fun v1 =>
Option.bind (stI h (rf a0 1) ((x1 * (6 : Int32)) + x5) v1) fun h2 =>
k43 h2 a0 x1 y3 (x5 + (1 : Int32)))
def b_X0_countDay_43 : Nat → Hp → Nat → Int32 → Int64 → Int32 → Option (Hp)
  | 0 => fun _ _ _ _ _ => none
  | n + 1 => f_X0_countDay_43  (b_X0_countDay_43  n)
def b_X0_countDay_40 (h : Hp) (a0 : Nat) (x1 : Int32) (y3 : Int64) : Option (Hp) :=
b_X0_countDay_43 1000 h a0 x1 y3 (0 : Int32)
def f_X0_countDay_9 (k9 : Hp → Nat → Int32 → Int32 → Int64 → Int32 → Option (Hp)) (h : Hp) (a0 : Nat) (x1 : Int32) (x2 : Int32) (y3 : Int64) (x5 : Int32) : Option (Hp) :=
if (x1 + x2) < x5 then (
b_X0_countDay_40 h a0 x1 y3)
else (
if (11 : Int32) ≤ x5 then (
b_X0_countDay_40 h a0 x1 y3)
else (
Option.bind (ldJ h (rf a0 2) x5) fun v1 =>
k9 h a0 x1 x2 (y3 ||| v1) (x5 + (1 : Int32))))
def b_X0_countDay_9 : Nat → Hp → Nat → Int32 → Int32 → Int64 → Int32 → Option (Hp)
  | 0 => fun _ _ _ _ _ _ => none
  | n + 1 => f_X0_countDay_9  (b_X0_countDay_9  n)
def sh_X0_countDay (h : Hp) (a0 : Nat) (x1 : Int32) (x2 : Int32) : Option (Hp) :=
if x2 ≤ 0 then (
b_X0_countDay_40 h a0 x1 (0 : Int64))
else (
b_X0_countDay_9 1000 h a0 x1 x2 (0 : Int64) x1)
def f_X0_countPastDays_2 (k2 : Hp → Nat → Int32 → Int32 → Option (Hp)) (h : Hp) (a0 : Nat) (x1 : Int32) (x2 : Int32) : Option (Hp) :=
if (6 : Int32) ≤ x2 then (
some h)
else (
Option.bind (sh_X0_countDay h a0 x2 x1) fun h1 =>
k2 h1 a0 x1 (x2 + (1 : Int32)))
def b_X0_countPastDays_2 : Nat → Hp → Nat → Int32 → Int32 → Option (Hp)
  | 0 => fun _ _ _ _ => none
  | n + 1 => f_X0_countPastDays_2  (b_X0_countPastDays_2  n)
def sh_X0_countPastDays (h : Hp) (a0 : Nat) (x1 : Int32) : Option (Hp) :=
b_X0_countPastDays_2 1000 h a0 x1 (1 : Int32)
def b_X3_changeSetting_32 (h : Hp) (x3 : Int32) : Option (Int32 × Hp) :=
some (x3, h)
def sh_X3_changeSetting (h : Hp) (a0 : Nat) (x1 : Int32) (x2 : Int32) : Option (Int32 × Hp) :=
Option.bind (ldI h (rf a0 5) x1) fun v1 =>
Option.bind (stI h (rf a0 5) x1 x2) fun h2 =>
if x1 = (2 : Int32) then (
if v1 = x2 then (
b_X3_changeSetting_32 h2 v1)
else (
Option.bind (sh_X0_countPastDays h2 (rf a0 6) x2) fun h3 =>
b_X3_changeSetting_32 h3 v1))
else (
b_X3_changeSetting_32 h2 v1)
def b_X3_takeLaw_27 (h : Hp) : Option (Int32 × Hp) :=
some ((0 : Int32), h)
def sh_X3_takeLaw (h : Hp) (a0 : Nat) (x1 : Int32) (x2 : Int32) (x3 : Int32) : Option (Int32 × Hp) :=
if (5 : Int32) < x1 then (
b_X3_takeLaw_27 h)
else (
Option.bind (ldS 138 (1 : Int32)) fun v1 =>
Option.bind (ldS 139 (1 : Int32)) fun v2 =>
Option.bind (sh_X4_outside h x2 v1 v2) fun v3 =>
if v3 = 0 then (
if x3 ≤ (5 : Int32) then (
Option.bind (stI h (rf a0 5) (0 : Int32) x1) fun h4 =>
Option.bind (stI h4 (rf a0 5) (1 : Int32) x2) fun h5 =>
Option.bind (sh_X3_changeSetting h5 a0 (2 : Int32) x3) fun q6 =>
some ((1 : Int32), q6.2))
else (
b_X3_takeLaw_27 h))
else (
b_X3_takeLaw_27 h))
def b_X1_number_37 (h : Hp) (x2 : Int32) : Option (Int32) :=
some x2
def f_X1_number_4 (k4 : Hp → Nat → Int32 → Int32 → Option (Int32)) (h : Hp) (a0 : Nat) (x2 : Int32) (x3 : Int32) : Option (Int32) :=
if (h.1 a0 1) ≤ x3 then (
b_X1_number_37 h x2)
else (
Option.bind (sh_X1_isDigitAt h a0 x3) fun v1 =>
if v1 = 0 then (
b_X1_number_37 h x2)
else (
Option.bind (sh_X1_digit h a0 x3) fun v2 =>
k4 h a0 ((x2 * (10 : Int32)) + v2) (x3 + (1 : Int32))))
def b_X1_number_4 : Nat → Hp → Nat → Int32 → Int32 → Option (Int32)
  | 0 => fun _ _ _ _ => none
  | n + 1 => f_X1_number_4  (b_X1_number_4  n)
def sh_X1_number (h : Hp) (a0 : Nat) (x1 : Int32) : Option (Int32) :=
b_X1_number_4 1000 h a0 (0 : Int32) x1
def b_X1_next_25 (h : Hp) (x3 : Int32) : Option (Int32) :=
some x3
def f_X1_next_2 (k2 : Hp → Nat → Int32 → Int32 → Option (Int32)) (h : Hp) (a0 : Nat) (x1 : Int32) (x3 : Int32) : Option (Int32) :=
if (h.1 a0 1) ≤ x3 then (
b_X1_next_25 h x3)
else (
Option.bind (sh_X1_isAt h a0 x1 x3) fun v1 =>
if v1 = 0 then (
k2 h a0 x1 (x3 + (1 : Int32)))
else (
b_X1_next_25 h x3))
def b_X1_next_2 : Nat → Hp → Nat → Int32 → Int32 → Option (Int32)
  | 0 => fun _ _ _ _ => none
  | n + 1 => f_X1_next_2  (b_X1_next_2  n)
def sh_X1_next (h : Hp) (a0 : Nat) (x1 : Int32) (x2 : Int32) : Option (Int32) :=
b_X1_next_2 1000 h a0 x1 x2
def b_X3_welcome_48 (h : Hp) : Option (Int32 × Hp) :=
some ((0 : Int32), h)
def b_X3_welcome_19 (h : Hp) (a0 : Nat) (x1 : Int32) (x2 : Int32) (x3 : Int32) (x4 : Int32) (x5 : Int32) (s0 : Int32) : Option (Int32 × Hp) :=
if 0 < (h.1 a0 8) then (
b_X3_welcome_48 h)
else (
if (6 : Int32) ≤ (h.1 a0 7) then (
b_X3_welcome_48 h)
else (
if (7 : Int32) < x1 then (
b_X3_welcome_48 h)
else (
if s0 = 0 then (
b_X3_welcome_48 h)
else (
Option.bind (stI h (rf a0 0) (h.1 a0 7) x1) fun h1 =>
Option.bind (stI h1 (rf a0 1) (h1.1 a0 7) x2) fun h2 =>
Option.bind (stI h2 (rf a0 2) (h2.1 a0 7) x3) fun h3 =>
Option.bind (stI h3 (rf a0 3) (h3.1 a0 7) x4) fun h4 =>
Option.bind (stI h4 (rf a0 4) (h4.1 a0 7) x5) fun h5 =>
some ((1 : Int32), (wI h5 a0 7 ((h5.1 a0 7) + (1 : Int32))))))))
def b_X3_welcome_14 (h : Hp) (a0 : Nat) (x1 : Int32) (x2 : Int32) (x3 : Int32) (x4 : Int32) (x5 : Int32) : Option (Int32 × Hp) :=
b_X3_welcome_19 h a0 x1 x2 x3 x4 x5 (1 : Int32)
def sh_X3_welcome (h : Hp) (a0 : Nat) (x1 : Int32) (x2 : Int32) (x3 : Int32) (x4 : Int32) (x5 : Int32) : Option (Int32 × Hp) :=
if x3 = (9 : Int32) then (
b_X3_welcome_14 h a0 x1 x2 x3 x4 x5)
else (
if (h.1 a0 7) < x3 then (
b_X3_welcome_19 h a0 x1 x2 x3 x4 x5 (0 : Int32))
else (
b_X3_welcome_14 h a0 x1 x2 x3 x4 x5))
def sh_X4_comesInMind (h : Hp) (a0 : Nat) (x1 : Int32) : Option (Int32 × Hp) :=
Option.bind (sh_X1_digit h (rf a0 4) (x1 + (1 : Int32))) fun v1 =>
Option.bind (sh_X1_digit h (rf a0 4) (x1 + (2 : Int32))) fun v2 =>
Option.bind (sh_X1_digit h (rf a0 4) (x1 + (3 : Int32))) fun v3 =>
Option.bind (sh_X1_isAt h (rf a0 4) (108 : Int32) x1) fun v4 =>
if v4 = 0 then (
Option.bind (sh_X1_number h (rf a0 4) (x1 + (4 : Int32))) fun v5 =>
Option.bind (sh_X1_next h (rf a0 4) (44 : Int32) x1) fun v6 =>
Option.bind (sh_X1_number h (rf a0 4) (v6 + (1 : Int32))) fun v7 =>
Option.bind (sh_X3_welcome h (rf a0 2) v1 v2 v3 v5 v7) fun q8 =>
Option.bind (bol q8.1) fun v9 =>
some (v9, q8.2))
else (
Option.bind (sh_X3_takeLaw h (rf a0 2) v1 v2 v3) fun q10 =>
Option.bind (bol q10.1) fun v11 =>
some (v11, q10.2))
def b_X4_readLand_90 (h : Hp) (a0 : Nat) (x2 : Int32) : Option (Int32 × Hp) :=
Option.bind (sh_X3_become h (rf a0 0) (rf a0 2)) fun h1 =>
some (x2, h1)
def f_X4_readLand_36 (k36 : Hp → Nat → Int32 → Int32 → Int32 → Option (Int32 × Hp)) (h : Hp) (a0 : Nat) (x2 : Int32) (x3 : Int32) (x4 : Int32) : Option (Int32 × Hp) :=
if (64 : Int32) ≤ x4 then (
b_X4_readLand_90 h a0 x2)
else (
if (h.1 (rf a0 4) 1) ≤ x3 then (
b_X4_readLand_90 h a0 x2)
else (
Option.bind (sh_X4_comesInMind h a0 x3) fun q1 =>
if q1.1 = 0 then (
some (((-2000 : Int32) - x3), q1.2))
else (
Option.bind (sh_X1_next q1.2 (rf a0 4) (59 : Int32) x3) fun v2 =>
k36 q1.2 a0 (x2 + (1 : Int32)) (v2 + (1 : Int32)) (x4 + (1 : Int32)))))
def b_X4_readLand_36 : Nat → Hp → Nat → Int32 → Int32 → Int32 → Option (Int32 × Hp)
  | 0 => fun _ _ _ _ _ => none
  | n + 1 => f_X4_readLand_36  (b_X4_readLand_36  n)
def sh_X4_readLand (h : Hp) (a0 : Nat) : Option (Int32 × Hp) :=
Option.bind (sh_X1_firstUnfit h (rf a0 4)) fun q1 =>
if q1.1 < 0 then (
Option.bind (sh_X3_become q1.2 (rf a0 2) (rf a0 0)) fun h2 =>
b_X4_readLand_36 1000 h2 a0 (0 : Int32) (0 : Int32) (0 : Int32))
else (
some (((-1000 : Int32) - q1.1), q1.2))
def sh_X1_forget (h : Hp) (a0 : Nat) : Option (Hp) :=
some (wI h a0 1 (0 : Int32))
def sh_X4_land (h : Hp) (a0 : Nat) : Option (Int32 × Hp) :=
Option.bind (sh_X4_readLand h a0) fun q1 =>
Option.bind (sh_X1_forget q1.2 (rf a0 4)) fun h2 =>
some (q1.1, h2)
def b_X3_exists_17 (h : Hp) (s0 : Int32) : Option (Int32) :=
Option.bind (bol s0) fun v1 =>
some v1
def b_X3_exists_16 (h : Hp) : Option (Int32) :=
b_X3_exists_17 h (0 : Int32)
def sh_X3_exists (h : Hp) (a0 : Nat) (x1 : Int32) : Option (Int32) :=
if x1 < 0 then (
b_X3_exists_16 h)
else (
if (h.1 a0 7) ≤ x1 then (
b_X3_exists_16 h)
else (
b_X3_exists_17 h (1 : Int32)))
def f_X0_got_5 (k5 : Hp → Nat → Int32 → Int32 → Int32 → Int32 → Option (Int32)) (h : Hp) (a0 : Nat) (x1 : Int32) (x2 : Int32) (x3 : Int32) (x4 : Int32) : Option (Int32) :=
if (6 : Int32) ≤ x4 then (
some x3)
else (
Option.bind (ldI h (rf a0 0) (((x1 * (42 : Int32)) + (x4 * (7 : Int32))) + x2)) fun v1 =>
k5 h a0 x1 x2 (x3 + v1) (x4 + (1 : Int32)))
def b_X0_got_5 : Nat → Hp → Nat → Int32 → Int32 → Int32 → Int32 → Option (Int32)
  | 0 => fun _ _ _ _ _ _ => none
  | n + 1 => f_X0_got_5  (b_X0_got_5  n)
def sh_X0_got (h : Hp) (a0 : Nat) (x1 : Int32) (x2 : Int32) : Option (Int32) :=
b_X0_got_5 1000 h a0 x1 x2 (0 : Int32) (0 : Int32)
def sh_X0_gotToday (h : Hp) (a0 : Nat) (x1 : Int32) : Option (Int32) :=
Option.bind (sh_X0_got h a0 (0 : Int32) x1) fun v1 =>
some v1
def sh_X0_countedYesterday (h : Hp) (a0 : Nat) (x1 : Int32) : Option (Int32) :=
Option.bind (ldI h (rf a0 1) ((6 : Int32) + x1)) fun v1 =>
some v1
def sh_X3_bounded (h : Hp) (a0 : Nat) (x1 : Int32) : Option (Int32) :=
Option.bind (ldI h (rf a0 5) (3 : Int32)) fun v1 =>
some (if v1 < (if x1 < (9999 : Int32) then x1 else (9999 : Int32)) then (if x1 < (9999 : Int32) then x1 else (9999 : Int32)) else v1)
def b_X0_countedTogether_39 (h : Hp) (x3 : Int32) : Option (Int32) :=
some x3
def f_X0_countedTogether_5 (k5 : Hp → Nat → Int32 → Int32 → Int32 → Int32 → Option (Int32)) (h : Hp) (a0 : Nat) (x1 : Int32) (x2 : Int32) (x3 : Int32) (x4 : Int32) : Option (Int32) :=
if x1 < x4 then (
b_X0_countedTogether_39 h x3)
else (
if (6 : Int32) ≤ x4 then (
b_X0_countedTogether_39 h x3)
else (
Option.bind (ldI h (rf a0 1) ((x4 * (6 : Int32)) + x2)) fun v1 =>
k5 h a0 x1 x2 (x3 + v1) (x4 + (1 : Int32))))
def b_X0_countedTogether_5 : Nat → Hp → Nat → Int32 → Int32 → Int32 → Int32 → Option (Int32)
  | 0 => fun _ _ _ _ _ _ => none
  | n + 1 => f_X0_countedTogether_5  (b_X0_countedTogether_5  n)
def sh_X0_countedTogether (h : Hp) (a0 : Nat) (x1 : Int32) (x2 : Int32) : Option (Int32) :=
b_X0_countedTogether_5 1000 h a0 x1 x2 (0 : Int32) (1 : Int32)
def b_X0_countedAtBest_41 (h : Hp) (x3 : Int32) : Option (Int32) :=
some x3
def f_X0_countedAtBest_5 (k5 : Hp → Nat → Int32 → Int32 → Int32 → Int32 → Option (Int32)) (h : Hp) (a0 : Nat) (x1 : Int32) (x2 : Int32) (x3 : Int32) (x4 : Int32) : Option (Int32) :=
if x1 < x4 then (
b_X0_countedAtBest_41 h x3)
else (
if (6 : Int32) ≤ x4 then (
b_X0_countedAtBest_41 h x3)
else (
Option.bind (ldI h (rf a0 1) ((x4 * (6 : Int32)) + x2)) fun v1 =>
k5 h a0 x1 x2 (if x3 < v1 then v1 else x3) (x4 + (1 : Int32))))
def b_X0_countedAtBest_5 : Nat → Hp → Nat → Int32 → Int32 → Int32 → Int32 → Option (Int32)
  | 0 => fun _ _ _ _ _ _ => none
  | n + 1 => f_X0_countedAtBest_5  (b_X0_countedAtBest_5  n)
def sh_X0_countedAtBest (h : Hp) (a0 : Nat) (x1 : Int32) (x2 : Int32) : Option (Int32) :=
b_X0_countedAtBest_5 1000 h a0 x1 x2 (0 : Int32) (1 : Int32)
def b_X3_leave_141 (h : Hp) (a0 : Nat) (x2 : Int32) : Option (Int32) :=
Option.bind (sh_X3_bounded h a0 x2) fun v1 =>
some v1
def sh_X3_leave (h : Hp) (a0 : Nat) (x1 : Int32) : Option (Int32) :=
Option.bind (ldI h (rf a0 0) x1) fun v1 =>
if v1 = (7 : Int32) then (
some (9999 : Int32))
else (
Option.bind (sh_X0_countedYesterday h (rf a0 6) x1) fun v2 =>
Option.bind (ldI h (rf a0 5) (0 : Int32)) fun v3 =>
if v3 = (0 : Int32) then (
b_X3_leave_141 h a0 v2)
else if v3 = (1 : Int32) then (
Option.bind (sh_X3_bounded h a0 ((v2 + (1 : Int32)) / (2 : Int32))) fun v4 =>
some v4)
else if v3 = (2 : Int32) then (
Option.bind (sh_X3_bounded h a0 (v2 * (2 : Int32))) fun v5 =>
some v5)
else if v3 = (3 : Int32) then (
Option.bind (ldI h (rf a0 5) (1 : Int32)) fun v6 =>
Option.bind (sh_X0_countedTogether h (rf a0 6) v6 x1) fun v7 =>
Option.bind (sh_X3_bounded h a0 v7) fun v8 =>
some v8)
else if v3 = (4 : Int32) then (
Option.bind (ldI h (rf a0 5) (1 : Int32)) fun v9 =>
Option.bind (sh_X0_countedAtBest h (rf a0 6) v9 x1) fun v10 =>
Option.bind (sh_X3_bounded h a0 v10) fun v11 =>
some v11)
else if v3 = (5 : Int32) then (
Option.bind (ldI h (rf a0 1) x1) fun v12 =>
Option.bind (sh_X3_bounded h a0 (((v2 + (1 : Int32)) / (2 : Int32)) + v12)) fun v13 =>
some v13)
else (
b_X3_leave_141 h a0 v2))
def f_X0_givenToday_4 (k4 : Hp → Nat → Int32 → Int32 → Int32 → Option (Int32)) (h : Hp) (a0 : Nat) (x1 : Int32) (x2 : Int32) (x3 : Int32) : Option (Int32) :=
if (7 : Int32) ≤ x3 then (
some x2)
else (
Option.bind (ldI h (rf a0 0) ((x1 * (7 : Int32)) + x3)) fun v1 =>
k4 h a0 x1 (x2 + v1) (x3 + (1 : Int32)))
def b_X0_givenToday_4 : Nat → Hp → Nat → Int32 → Int32 → Int32 → Option (Int32)
  | 0 => fun _ _ _ _ _ => none
  | n + 1 => f_X0_givenToday_4  (b_X0_givenToday_4  n)
def sh_X0_givenToday (h : Hp) (a0 : Nat) (x1 : Int32) : Option (Int32) :=
b_X0_givenToday_4 1000 h a0 x1 (0 : Int32) (0 : Int32)
def sh_X4_person (h : Hp) (a0 : Nat) (x1 : Int32) (x2 : Int32) : Option (Int32 × Hp) :=
Option.bind (sh_X3_exists h (rf a0 0) x1) fun v1 =>
if v1 = 0 then (
Option.bind (sh_X4_refuse h a0 (-1 : Int32)) fun q2 =>
some (q2.1, q2.2))
else (
if x2 = (0 : Int32) then (
Option.bind (ldI h (rf (rf a0 0) 0) x1) fun v3 =>
some (v3, h))
else if x2 = (1 : Int32) then (
Option.bind (ldI h (rf (rf a0 0) 1) x1) fun v4 =>
some (v4, h))
else if x2 = (2 : Int32) then (
Option.bind (ldI h (rf (rf a0 0) 2) x1) fun v5 =>
some (v5, h))
else if x2 = (3 : Int32) then (
Option.bind (ldI h (rf (rf a0 0) 3) x1) fun v6 =>
some (v6, h))
else if x2 = (4 : Int32) then (
Option.bind (ldI h (rf (rf a0 0) 4) x1) fun v7 =>
some (v7, h))
else if x2 = (5 : Int32) then (
Option.bind (sh_X0_gotToday h (rf (rf a0 0) 6) x1) fun v8 =>
some (v8, h))
else if x2 = (6 : Int32) then (
Option.bind (sh_X3_leave h (rf a0 0) x1) fun v9 =>
some (v9, h))
else if x2 = (7 : Int32) then (
Option.bind (sh_X0_givenToday h (rf (rf a0 0) 6) x1) fun v10 =>
some (v10, h))
else if x2 = (8 : Int32) then (
Option.bind (sh_X0_countedYesterday h (rf (rf a0 0) 6) x1) fun v11 =>
some (v11, h))
else (
Option.bind (sh_X4_refuse h a0 (-2 : Int32)) fun q12 =>
some (q12.1, q12.2)))
def b_X4_putRefusal_22 (h : Hp) : Option (Int32) :=
some (-2 : Int32)
def b_X4_putRefusal_52 (h : Hp) (s0 : Int32) : Option (Int32) :=
some s0
def b_X4_putRefusal_47 (h : Hp) : Option (Int32) :=
b_X4_putRefusal_52 h (0 : Int32)
def b_X4_putRefusal_67 (h : Hp) (s0 : Int32) (s1 : Int32) (s2 : Int32) : Option (Int32) :=
Option.bind (sh_X4_outside h s0 s1 s2) fun v1 =>
some v1
def sh_X4_putRefusal (h : Hp) (a0 : Nat) (x1 : Int32) (x2 : Int32) (x3 : Int32) : Option (Int32) :=
Option.bind (sh_X3_exists h (rf a0 0) x1) fun v1 =>
if v1 = 0 then (
some (-1 : Int32))
else (
if x2 < 0 then (
b_X4_putRefusal_22 h)
else (
if x2 ≤ (2 : Int32) then (
if x2 = (2 : Int32) then (
if x3 = (9 : Int32) then (
b_X4_putRefusal_47 h)
else (
Option.bind (sh_X3_exists h (rf a0 0) x3) fun v2 =>
if v2 = 0 then (
b_X4_putRefusal_52 h (-1 : Int32))
else (
b_X4_putRefusal_47 h)))
else (
if x2 = 0 then (
b_X4_putRefusal_67 h x3 (0 : Int32) (9999 : Int32))
else (
b_X4_putRefusal_67 h x3 (0 : Int32) (99 : Int32))))
else (
b_X4_putRefusal_22 h)))
def b_X4_put_57 (h : Hp) (x1 : Int32) (x3 : Int32) (b0 : Nat) : Option (Int32 × Hp) :=
Option.bind (ldI h b0 x1) fun v1 =>
Option.bind (stI h b0 x1 x3) fun h2 =>
some (v1, h2)
def sh_X4_put (h : Hp) (a0 : Nat) (x1 : Int32) (x2 : Int32) (x3 : Int32) : Option (Int32 × Hp) :=
Option.bind (sh_X4_putRefusal h a0 x1 x2 x3) fun v1 =>
if v1 = 0 then (
if x2 = 0 then (
b_X4_put_57 h x1 x3 (rf (rf a0 0) 3))
else (
if x2 = (1 : Int32) then (
b_X4_put_57 h x1 x3 (rf (rf a0 0) 4))
else (
b_X4_put_57 h x1 x3 (rf (rf a0 0) 2))))
else (
Option.bind (sh_X4_refuse h a0 v1) fun q2 =>
some (q2.1, q2.2))
def b_X4_set_12 (h : Hp) (a0 : Nat) : Option (Int32 × Hp) :=
Option.bind (sh_X4_refuse h a0 (-2 : Int32)) fun q1 =>
some (q1.1, q1.2)
def sh_X4_set (h : Hp) (a0 : Nat) (x1 : Int32) (x2 : Int32) : Option (Int32 × Hp) :=
if x1 < 0 then (
b_X4_set_12 h a0)
else (
if x1 < (Int32.ofNat (len 138)) then (
Option.bind (ldS 138 x1) fun v1 =>
Option.bind (ldS 139 x1) fun v2 =>
Option.bind (sh_X4_outside h x2 v1 v2) fun v3 =>
if v3 = 0 then (
Option.bind (sh_X3_changeSetting h (rf a0 0) x1 x2) fun q4 =>
some (q4.1, q4.2))
else (
Option.bind (sh_X4_refuse h a0 v3) fun q5 =>
some (q5.1, q5.2)))
else (
b_X4_set_12 h a0))
def b_X3_giftRefusal_27 (h : Hp) : Option (Int32) :=
some (-1 : Int32)
def b_X3_giftRefusal_29 (h : Hp) (a0 : Nat) (x1 : Int32) (x3 : Int32) : Option (Int32) :=
Option.bind (ldI h (rf a0 3) x1) fun v1 =>
Option.bind (sh_X4_outside h x3 (1 : Int32) v1) fun v2 =>
some v2
def sh_X3_giftRefusal (h : Hp) (a0 : Nat) (x1 : Int32) (x2 : Int32) (x3 : Int32) : Option (Int32) :=
Option.bind (sh_X3_exists h a0 x1) fun v1 =>
if v1 = 0 then (
b_X3_giftRefusal_27 h)
else (
if x2 = x1 then (
b_X3_giftRefusal_27 h)
else (
if x2 = (9 : Int32) then (
b_X3_giftRefusal_29 h a0 x1 x3)
else (
Option.bind (sh_X3_exists h a0 x2) fun v2 =>
if v2 = 0 then (
b_X3_giftRefusal_27 h)
else (
b_X3_giftRefusal_29 h a0 x1 x3))))
def b_X0_add_54 (h : Hp) : Option (Hp) :=
some h
def b_X0_add_12 (h : Hp) (a0 : Nat) (x1 : Int32) (x2 : Int32) (x3 : Int32) (s0 : Int32) : Option (Hp) :=
Option.bind (ldI h (rf a0 0) ((x1 * (7 : Int32)) + s0)) fun v1 =>
Option.bind (stI h (rf a0 0) ((x1 * (7 : Int32)) + s0) (v1 + x3)) fun h2 =>
if s0 = (6 : Int32) then (
b_X0_add_54 h2)
else (
Option.bind (ldJ h2 (rf a0 2) (0 : Int32)) fun v3 =>
Option.bind (stJ h2 (rf a0 2) (0 : Int32) (v3 ||| ((1 : Int64) <<< ((((x1 * (6 : Int32)) + x2)).toInt64 &&& 63)))) fun h4 =>
b_X0_add_54 h4)
def sh_X0_add (h : Hp) (a0 : Nat) (x1 : Int32) (x2 : Int32) (x3 : Int32) : Option (Hp) :=
if x2 = (9 : Int32) then (
b_X0_add_12 h a0 x1 x2 x3 (6 : Int32))
else (
b_X0_add_12 h a0 x1 x2 x3 x2)
def sh_X3_hand (h : Hp) (a0 : Nat) (x1 : Int32) (x2 : Int32) (x3 : Int32) : Option (Hp) :=
Option.bind (ldI h (rf a0 3) x1) fun v1 =>
Option.bind (stI h (rf a0 3) x1 (v1 - x3)) fun h2 =>
Option.bind (sh_X0_add h2 (rf a0 6) x1 x2 x3) fun h3 =>
some h3
def sh_X4_give (h : Hp) (a0 : Nat) (x1 : Int32) (x2 : Int32) (x3 : Int32) : Option (Int32 × Hp) :=
Option.bind (sh_X3_giftRefusal h (rf a0 0) x1 x2 x3) fun v1 =>
if v1 = 0 then (
Option.bind (sh_X3_hand h (rf a0 0) x1 x2 x3) fun h2 =>
Option.bind (ldI h2 (rf (rf a0 0) 3) x1) fun v3 =>
some (v3, h2))
else (
Option.bind (sh_X4_refuse h a0 v1) fun q4 =>
some (q4.1, q4.2))
def f_X0_turnToNextDay_66 (k66 : Hp → Nat → Int32 → Option (Hp)) (h : Hp) (a0 : Nat) (x1 : Int32) : Option (Hp) :=
if (42 : Int32) ≤ x1 then (
Option.bind (stJ h (rf a0 2) (0 : Int32) (0 : Int64)) fun h1 =>
some h1)
else (
Option.bind (stI h (rf a0 0) x1 (0 : Int32)) fun h2 =>
k66 h2 a0 (x1 + (1 : Int32)))
def b_X0_turnToNextDay_66 : Nat → Hp → Nat → Int32 → Option (Hp)
  | 0 => fun _ _ _ => none
  | n + 1 => f_X0_turnToNextDay_66  (b_X0_turnToNextDay_66  n)
def sh_X0_turnToNextDay (h : Hp) (a0 : Nat) : Option (Hp) :=
Option.bind (acI h (rf a0 0) (0 : Int32) (rf a0 0) (42 : Int32) ((Int32.ofNat (len (rf a0 0))) - (42 : Int32))) fun h1 =>
Option.bind (acI h1 (rf a0 1) (0 : Int32) (rf a0 1) (6 : Int32) ((Int32.ofNat (len (rf a0 1))) - (6 : Int32))) fun h2 =>
Option.bind (acJ h2 (rf a0 2) (0 : Int32) (rf a0 2) (1 : Int32) ((Int32.ofNat (len (rf a0 2))) - (1 : Int32))) fun h3 =>
b_X0_turnToNextDay_66 1000 h3 a0 (0 : Int32)
def f_X3_endDay_4 (k4 : Hp → Nat → Int32 → Int32 → Option (Int32 × Hp)) (h : Hp) (a0 : Nat) (x1 : Int32) (x2 : Int32) : Option (Int32 × Hp) :=
if (h.1 a0 7) ≤ x2 then (
Option.bind (ldI h (rf a0 5) (2 : Int32)) fun v1 =>
Option.bind (sh_X0_countDay h (rf a0 6) (0 : Int32) v1) fun h2 =>
Option.bind (sh_X0_turnToNextDay h2 (rf a0 6)) fun h3 =>
some (x1, (wI h3 a0 8 ((h3.1 a0 8) + (1 : Int32)))))
else (
Option.bind (sh_X0_gotToday h (rf a0 6) x2) fun v4 =>
Option.bind (ldI h (rf a0 4) x2) fun v5 =>
Option.bind (ldI h (rf a0 3) x2) fun v6 =>
Option.bind (sh_X3_leave h a0 x2) fun v7 =>
Option.bind (ldI h (rf a0 3) x2) fun v8 =>
Option.bind (stI h (rf a0 3) x2 (if (9999 : Int32) < (v6 + (if v7 < (v4 + v5) then v7 else (v4 + v5))) then (9999 : Int32) else (v6 + (if v7 < (v4 + v5) then v7 else (v4 + v5))))) fun h9 =>
k4 h9 a0 (x1 + ((v4 + v5) - ((if (9999 : Int32) < (v6 + (if v7 < (v4 + v5) then v7 else (v4 + v5))) then (9999 : Int32) else (v6 + (if v7 < (v4 + v5) then v7 else (v4 + v5)))) - v8))) (x2 + (1 : Int32)))
def b_X3_endDay_4 : Nat → Hp → Nat → Int32 → Int32 → Option (Int32 × Hp)
  | 0 => fun _ _ _ _ => none
  | n + 1 => f_X3_endDay_4  (b_X3_endDay_4  n)
def sh_X3_endDay (h : Hp) (a0 : Nat) : Option (Int32 × Hp) :=
b_X3_endDay_4 1000 h a0 (0 : Int32) (0 : Int32)
def sh_X4_evening (h : Hp) (a0 : Nat) : Option (Int32 × Hp) :=
if (h.1 (rf a0 0) 8) < (999 : Int32) then (
Option.bind (sh_X3_endDay h (rf a0 0)) fun q1 =>
some ((q1.2.1 (rf a0 0) 8), q1.2))
else (
Option.bind (sh_X4_refuse h a0 (-6 : Int32)) fun q2 =>
some (q2.1, q2.2))
def b_X3_nextOne_17 (h : Hp) (s0 : Int32) : Option (Int32) :=
some s0
def sh_X3_nextOne (h : Hp) (a0 : Nat) (x1 : Int32) : Option (Int32) :=
if (h.1 a0 7) ≤ (x1 + (1 : Int32)) then (
b_X3_nextOne_17 h (0 : Int32))
else (
b_X3_nextOne_17 h (x1 + (1 : Int32)))
def b_X3_takerByKind_48 (h : Hp) (s0 : Int32) : Option (Int32) :=
some s0
def b_X3_takerByKind_42 (h : Hp) (a0 : Nat) (x1 : Int32) : Option (Int32) :=
Option.bind (ldI h (rf a0 2) x1) fun v1 =>
b_X3_takerByKind_48 h v1
def sh_X3_takerByKind (h : Hp) (a0 : Nat) (x1 : Int32) : Option (Int32) :=
Option.bind (ldI h (rf a0 0) x1) fun v1 =>
if v1 = (4 : Int32) then (
Option.bind (sh_X3_nextOne h a0 x1) fun v2 =>
some v2)
else (
Option.bind (ldI h (rf a0 0) x1) fun v3 =>
if v3 = (6 : Int32) then (
if ((h.1 a0 8) - (h.1 a0 8) / (2 : Int32) * (2 : Int32)) = (1 : Int32) then (
b_X3_takerByKind_48 h (9 : Int32))
else (
b_X3_takerByKind_42 h a0 x1))
else (
b_X3_takerByKind_42 h a0 x1))
def sh_X0_gotYesterday (h : Hp) (a0 : Nat) (x1 : Int32) : Option (Int32) :=
Option.bind (sh_X0_got h a0 (1 : Int32) x1) fun v1 =>
some v1
def sh_X3_whatGrew (h : Hp) (a0 : Nat) (x1 : Int32) : Option (Int32) :=
Option.bind (ldI h (rf a0 3) x1) fun v1 =>
Option.bind (ldI h (rf a0 4) x1) fun v2 =>
Option.bind (sh_X0_gotYesterday h (rf a0 6) x1) fun v3 =>
some (if (v2 + v3) < v1 then (v2 + v3) else v1)
def b_X3_divides_15 (h : Hp) (s0 : Int32) : Option (Int32) :=
Option.bind (bol s0) fun v1 =>
some v1
def b_X3_divides_14 (h : Hp) : Option (Int32) :=
b_X3_divides_15 h (0 : Int32)
def sh_X3_divides (h : Hp) (x0 : Int32) (x1 : Int32) : Option (Int32) :=
if x0 ≤ 0 then (
b_X3_divides_14 h)
else (
Option.bind (rmI x1 x0) fun v1 =>
if v1 = 0 then (
b_X3_divides_15 h (1 : Int32))
else (
b_X3_divides_14 h))
def b_X3_amountByKind_52 (h : Hp) (a0 : Nat) (x1 : Int32) : Option (Int32) :=
Option.bind (ldI h (rf a0 3) x1) fun v1 =>
some v1
def b_X3_amountByKind_99 (h : Hp) (s0 : Int32) : Option (Int32) :=
some s0
def b_X3_amountByKind_130 (h : Hp) (s0 : Int32) : Option (Int32) :=
some s0
def b_X3_amountByKind_131 (h : Hp) : Option (Int32) :=
some (0 : Int32)
def sh_X3_amountByKind (h : Hp) (a0 : Nat) (x1 : Int32) : Option (Int32) :=
Option.bind (ldI h (rf a0 0) x1) fun v1 =>
if v1 = (0 : Int32) then (
b_X3_amountByKind_131 h)
else if v1 = (1 : Int32) then (
b_X3_amountByKind_52 h a0 x1)
else if v1 = (2 : Int32) then (
Option.bind (ldI h (rf a0 3) x1) fun v2 =>
some (v2 / (2 : Int32)))
else if v1 = (3 : Int32) then (
Option.bind (sh_X3_whatGrew h a0 x1) fun v3 =>
some v3)
else if v1 = (4 : Int32) then (
b_X3_amountByKind_52 h a0 x1)
else if v1 = (5 : Int32) then (
Option.bind (ldI h (rf a0 1) x1) fun v4 =>
if ((10 : Int32) * v4) ≤ (h.1 a0 8) then (
b_X3_amountByKind_99 h (0 : Int32))
else (
Option.bind (sh_X3_whatGrew h a0 x1) fun v5 =>
b_X3_amountByKind_99 h v5))
else if v1 = (6 : Int32) then (
b_X3_amountByKind_52 h a0 x1)
else if v1 = (7 : Int32) then (
Option.bind (ldI h (rf a0 1) x1) fun v6 =>
Option.bind (sh_X3_divides h (v6 + (1 : Int32)) (h.1 a0 8)) fun v7 =>
if v7 = 0 then (
b_X3_amountByKind_130 h (0 : Int32))
else (
Option.bind (ldI h (rf a0 3) x1) fun v8 =>
b_X3_amountByKind_130 h (v8 / (2 : Int32))))
else (
b_X3_amountByKind_131 h)
def b_X3_handIfAny_16 (h : Hp) : Option (Hp) :=
some h
def sh_X3_handIfAny (h : Hp) (a0 : Nat) (x1 : Int32) (x2 : Int32) (x3 : Int32) : Option (Hp) :=
if x2 = x1 then (
b_X3_handIfAny_16 h)
else (
if x3 ≤ 0 then (
b_X3_handIfAny_16 h)
else (
Option.bind (sh_X3_hand h a0 x1 x2 x3) fun h1 =>
b_X3_handIfAny_16 h1))
def f_X3_passDay_2 (k2 : Hp → Nat → Int32 → Option (Int32 × Hp)) (h : Hp) (a0 : Nat) (x1 : Int32) : Option (Int32 × Hp) :=
if (h.1 a0 7) ≤ x1 then (
Option.bind (sh_X3_endDay h a0) fun q1 =>
some (q1.1, q1.2))
else (
Option.bind (sh_X3_takerByKind h a0 x1) fun v2 =>
Option.bind (sh_X3_amountByKind h a0 x1) fun v3 =>
Option.bind (sh_X3_handIfAny h a0 x1 v2 v3) fun h4 =>
k2 h4 a0 (x1 + (1 : Int32)))
def b_X3_passDay_2 : Nat → Hp → Nat → Int32 → Option (Int32 × Hp)
  | 0 => fun _ _ _ => none
  | n + 1 => f_X3_passDay_2  (b_X3_passDay_2  n)
def sh_X3_passDay (h : Hp) (a0 : Nat) : Option (Int32 × Hp) :=
b_X3_passDay_2 1000 h a0 (0 : Int32)
def sh_X4_day (h : Hp) (a0 : Nat) : Option (Int32 × Hp) :=
if (h.1 (rf a0 0) 8) < (999 : Int32) then (
Option.bind (sh_X3_passDay h (rf a0 0)) fun q1 =>
some ((q1.2.1 (rf a0 0) 8), q1.2))
else (
Option.bind (sh_X4_refuse h a0 (-6 : Int32)) fun q2 =>
some (q2.1, q2.2))
def b_X3_giftByKind_18 (h : Hp) (s0 : Int32) : Option (Int32) :=
some s0
def sh_X3_giftByKind (h : Hp) (a0 : Nat) (x1 : Int32) : Option (Int32) :=
Option.bind (sh_X3_takerByKind h a0 x1) fun v1 =>
if v1 = x1 then (
b_X3_giftByKind_18 h (0 : Int32))
else (
Option.bind (sh_X3_amountByKind h a0 x1) fun v2 =>
b_X3_giftByKind_18 h v2)
def b_X4_gives_27 (h : Hp) (s0 : Int32) : Option (Int32 × Hp) :=
some (s0, h)
def sh_X4_gives (h : Hp) (a0 : Nat) (x1 : Int32) : Option (Int32 × Hp) :=
Option.bind (sh_X3_exists h (rf a0 0) x1) fun v1 =>
if v1 = 0 then (
Option.bind (sh_X4_refuse h a0 (-1 : Int32)) fun q2 =>
b_X4_gives_27 q2.2 q2.1)
else (
Option.bind (sh_X3_giftByKind h (rf a0 0) x1) fun v3 =>
b_X4_gives_27 h v3)
def b_X4_ofOneRefusal_22 (h : Hp) (s0 : Int32) : Option (Int32) :=
some s0
def sh_X4_ofOneRefusal (h : Hp) (a0 : Nat) (x1 : Int32) (x2 : Int32) (x3 : Int32) (x4 : Int32) : Option (Int32) :=
Option.bind (sh_X3_exists h (rf a0 0) x1) fun v1 =>
if v1 = 0 then (
b_X4_ofOneRefusal_22 h (-1 : Int32))
else (
Option.bind (sh_X4_outside h x2 x3 x4) fun v2 =>
b_X4_ofOneRefusal_22 h v2)
def f_X3_passDays_2 (k2 : Hp → Nat → Int32 → Int32 → Option (Hp)) (h : Hp) (a0 : Nat) (x1 : Int32) (x2 : Int32) : Option (Hp) :=
if x1 ≤ x2 then (
some h)
else (
Option.bind (sh_X3_passDay h a0) fun q1 =>
k2 q1.2 a0 x1 (x2 + (1 : Int32)))
def b_X3_passDays_2 : Nat → Hp → Nat → Int32 → Int32 → Option (Hp)
  | 0 => fun _ _ _ _ => none
  | n + 1 => f_X3_passDays_2  (b_X3_passDays_2  n)
def sh_X3_passDays (h : Hp) (a0 : Nat) (x1 : Int32) : Option (Hp) :=
b_X3_passDays_2 1000 h a0 x1 (0 : Int32)
def sh_X4_think (h : Hp) (a0 : Nat) (x1 : Int32) : Option (Hp) :=
Option.bind (sh_X3_become h (rf a0 2) (rf a0 0)) fun h1 =>
Option.bind (sh_X3_passDays h1 (rf a0 2) x1) fun h2 =>
some h2
def sh_X4_after (h : Hp) (a0 : Nat) (x1 : Int32) (x2 : Int32) : Option (Int32 × Hp) :=
Option.bind (sh_X4_ofOneRefusal h a0 x1 x2 (0 : Int32) (60 : Int32)) fun v1 =>
if v1 = 0 then (
Option.bind (sh_X4_think h a0 x2) fun h2 =>
Option.bind (ldI h2 (rf (rf a0 2) 3) x1) fun v3 =>
some (v3, h2))
else (
Option.bind (sh_X4_refuse h a0 v1) fun q4 =>
some (q4.1, q4.2))
def f_X3_sumOfHas_4 (k4 : Hp → Nat → Int32 → Int32 → Option (Int32)) (h : Hp) (a0 : Nat) (x1 : Int32) (x2 : Int32) : Option (Int32) :=
if (h.1 a0 7) ≤ x2 then (
some x1)
else (
Option.bind (ldI h (rf a0 3) x2) fun v1 =>
k4 h a0 (x1 + v1) (x2 + (1 : Int32)))
def b_X3_sumOfHas_4 : Nat → Hp → Nat → Int32 → Int32 → Option (Int32)
  | 0 => fun _ _ _ _ => none
  | n + 1 => f_X3_sumOfHas_4  (b_X3_sumOfHas_4  n)
def sh_X3_sumOfHas (h : Hp) (a0 : Nat) : Option (Int32) :=
b_X3_sumOfHas_4 1000 h a0 (0 : Int32) (0 : Int32)
def sh_X4_all (h : Hp) (a0 : Nat) (x1 : Int32) : Option (Int32 × Hp) :=
Option.bind (sh_X4_outside h x1 (0 : Int32) (60 : Int32)) fun v1 =>
if v1 = 0 then (
Option.bind (sh_X4_think h a0 x1) fun h2 =>
Option.bind (sh_X3_sumOfHas h2 (rf a0 2)) fun v3 =>
some (v3, h2))
else (
Option.bind (sh_X4_refuse h a0 v1) fun q4 =>
some (q4.1, q4.2))
def f_X4_enough_35 (k35 : Hp → Nat → Int32 → Int32 → Int32 → Option (Int32 × Hp)) (h : Hp) (a0 : Nat) (x1 : Int32) (x2 : Int32) (x4 : Int32) : Option (Int32 × Hp) :=
if (60 : Int32) < x4 then (
some ((-9 : Int32), h))
else (
Option.bind (ldI h (rf (rf a0 2) 3) x1) fun v1 =>
if v1 < x2 then (
Option.bind (sh_X3_passDay h (rf a0 2)) fun q2 =>
k35 q2.2 a0 x1 x2 (x4 + (1 : Int32)))
else (
some (x4, h)))
def b_X4_enough_35 : Nat → Hp → Nat → Int32 → Int32 → Int32 → Option (Int32 × Hp)
  | 0 => fun _ _ _ _ _ => none
  | n + 1 => f_X4_enough_35  (b_X4_enough_35  n)
def sh_X4_enough (h : Hp) (a0 : Nat) (x1 : Int32) (x2 : Int32) : Option (Int32 × Hp) :=
Option.bind (sh_X4_ofOneRefusal h a0 x1 x2 (0 : Int32) (9999 : Int32)) fun v1 =>
if v1 = 0 then (
Option.bind (sh_X3_become h (rf a0 2) (rf a0 0)) fun h2 =>
b_X4_enough_35 1000 h2 a0 x1 x2 (0 : Int32))
else (
Option.bind (sh_X4_refuse h a0 v1) fun q3 =>
some (q3.1, q3.2))
def b_X3_richestAbove_39 (k8 : Hp → Nat → Int32 → Int32 → Int32 → Option (Int32)) (h : Hp) (a0 : Nat) (x2 : Int32) (x3 : Int32) (x4 : Int32) : Option (Int32) :=
k8 h a0 x2 x3 (x4 + (1 : Int32))
def f_X3_richestAbove_8 (k8 : Hp → Nat → Int32 → Int32 → Int32 → Option (Int32)) (h : Hp) (a0 : Nat) (x2 : Int32) (x3 : Int32) (x4 : Int32) : Option (Int32) :=
if (h.1 a0 7) ≤ x4 then (
some x2)
else (
Option.bind (ldI h (rf a0 3) x4) fun v1 =>
if v1 ≤ x3 then (
b_X3_richestAbove_39 k8 h a0 x2 x3 x4)
else (
Option.bind (ldI h (rf a0 3) x4) fun v2 =>
b_X3_richestAbove_39 k8 h a0 x4 v2 x4))
def b_X3_richestAbove_8 : Nat → Hp → Nat → Int32 → Int32 → Int32 → Option (Int32)
  | 0 => fun _ _ _ _ _ => none
  | n + 1 => f_X3_richestAbove_8  (b_X3_richestAbove_8  n)
def sh_X3_richestAbove (h : Hp) (a0 : Nat) (x1 : Int32) : Option (Int32) :=
b_X3_richestAbove_8 1000 h a0 (-9 : Int32) x1 (0 : Int32)
def sh_X4_richest (h : Hp) (a0 : Nat) (x1 : Int32) : Option (Int32 × Hp) :=
Option.bind (sh_X4_outside h x1 (0 : Int32) (60 : Int32)) fun v1 =>
if v1 = 0 then (
Option.bind (sh_X4_think h a0 x1) fun h2 =>
Option.bind (sh_X3_richestAbove h2 (rf a0 2) (-1 : Int32)) fun v3 =>
some (v3, h2))
else (
Option.bind (sh_X4_refuse h a0 v1) fun q4 =>
some (q4.1, q4.2))
def f_X4_lost_34 (k34 : Hp → Nat → Int32 → Int32 → Int32 → Option (Int32 × Hp)) (h : Hp) (a0 : Nat) (x1 : Int32) (x3 : Int32) (x4 : Int32) : Option (Int32 × Hp) :=
if x1 ≤ x4 then (
some (x3, h))
else (
Option.bind (sh_X3_passDay h (rf a0 2)) fun q1 =>
k34 q1.2 a0 x1 (x3 + q1.1) (x4 + (1 : Int32)))
def b_X4_lost_34 : Nat → Hp → Nat → Int32 → Int32 → Int32 → Option (Int32 × Hp)
  | 0 => fun _ _ _ _ _ => none
  | n + 1 => f_X4_lost_34  (b_X4_lost_34  n)
def sh_X4_lost (h : Hp) (a0 : Nat) (x1 : Int32) : Option (Int32 × Hp) :=
Option.bind (sh_X4_outside h x1 (0 : Int32) (60 : Int32)) fun v1 =>
if v1 = 0 then (
Option.bind (sh_X3_become h (rf a0 2) (rf a0 0)) fun h2 =>
b_X4_lost_34 1000 h2 a0 x1 (0 : Int32) (0 : Int32))
else (
Option.bind (sh_X4_refuse h a0 v1) fun q3 =>
some (q3.1, q3.2))
def b_X4_grows_56 (h : Hp) (s0 : Int32) : Option (Int32 × Hp) :=
some (s0, h)
def sh_X4_grows (h : Hp) (a0 : Nat) (x1 : Int32) : Option (Int32 × Hp) :=
Option.bind (sh_X4_outside h x1 (1 : Int32) (60 : Int32)) fun v1 =>
if v1 = 0 then (
Option.bind (sh_X4_think h a0 x1) fun h2 =>
Option.bind (sh_X3_sumOfHas h2 (rf a0 2)) fun v3 =>
Option.bind (sh_X3_sumOfHas h2 (rf a0 0)) fun v4 =>
if (v3 - v4) ≤ 0 then (
if (v3 - v4) = 0 then (
b_X4_grows_56 h2 (0 : Int32))
else (
b_X4_grows_56 h2 (2 : Int32)))
else (
b_X4_grows_56 h2 (1 : Int32)))
else (
Option.bind (sh_X4_refuse h a0 v1) fun q5 =>
some (q5.1, q5.2))
def f_X4_quietDayInMind_28 (k28 : Hp → Nat → Int32 → Option (Int32 × Hp)) (h : Hp) (a0 : Nat) (x1 : Int32) : Option (Int32 × Hp) :=
if (h.1 (rf a0 2) 7) ≤ x1 then (
some ((1 : Int32), h))
else (
Option.bind (ldI h (rf (rf a0 2) 3) x1) fun v1 =>
Option.bind (ldI h (rf a0 5) x1) fun v2 =>
if v1 = v2 then (
k28 h a0 (x1 + (1 : Int32)))
else (
some ((0 : Int32), h)))
def b_X4_quietDayInMind_28 : Nat → Hp → Nat → Int32 → Option (Int32 × Hp)
  | 0 => fun _ _ _ => none
  | n + 1 => f_X4_quietDayInMind_28  (b_X4_quietDayInMind_28  n)
def sh_X4_quietDayInMind (h : Hp) (a0 : Nat) : Option (Int32 × Hp) :=
Option.bind (acI h (rf (rf a0 2) 3) (0 : Int32) (rf a0 5) (0 : Int32) (6 : Int32)) fun h1 =>
Option.bind (sh_X3_passDay h1 (rf a0 2)) fun q2 =>
b_X4_quietDayInMind_28 1000 q2.2 a0 (0 : Int32)
def b_X4_rest_35 (k15 : Hp → Nat → Int32 → Int32 → Option (Int32 × Hp)) (h : Hp) (a0 : Nat) (x2 : Int32) (s0 : Int32) : Option (Int32 × Hp) :=
if s0 = (2 : Int32) then (
some ((x2 - (2 : Int32)), h))
else (
k15 h a0 s0 (x2 + (1 : Int32)))
def f_X4_rest_15 (k15 : Hp → Nat → Int32 → Int32 → Option (Int32 × Hp)) (h : Hp) (a0 : Nat) (x1 : Int32) (x2 : Int32) : Option (Int32 × Hp) :=
if (60 : Int32) < x2 then (
some ((-9 : Int32), h))
else (
Option.bind (sh_X4_quietDayInMind h a0) fun q1 =>
if q1.1 = 0 then (
b_X4_rest_35 k15 q1.2 a0 x2 (0 : Int32))
else (
b_X4_rest_35 k15 q1.2 a0 x2 (x1 + (1 : Int32))))
def b_X4_rest_15 : Nat → Hp → Nat → Int32 → Int32 → Option (Int32 × Hp)
  | 0 => fun _ _ _ _ => none
  | n + 1 => f_X4_rest_15  (b_X4_rest_15  n)
def sh_X4_rest (h : Hp) (a0 : Nat) : Option (Int32 × Hp) :=
Option.bind (sh_X3_become h (rf a0 2) (rf a0 0)) fun h1 =>
b_X4_rest_15 1000 h1 a0 (0 : Int32) (1 : Int32)
def b_X2_look_78 (h : Hp) : Option (Hp) :=
some h
def b_X2_look_73 (h : Hp) (a0 : Nat) (x1 : Int32) : Option (Hp) :=
b_X2_look_78 (wI h a0 7 x1)
def b_X2_look_48 (h : Hp) (a0 : Nat) (x1 : Int32) (x2 : Int32) : Option (Hp) :=
if x2 < (h.1 a0 5) then (
b_X2_look_78 h)
else (
if (h.1 a0 7) = (-9 : Int32) then (
b_X2_look_73 h a0 x1)
else (
if (h.1 a0 7) ≤ x1 then (
b_X2_look_78 h)
else (
b_X2_look_73 h a0 x1)))
def sh_X2_look (h : Hp) (a0 : Nat) (x1 : Int32) : Option (Hp) :=
Option.bind (ldR (rf a0 0) (h.1 a0 4)) fun v1 =>
Option.bind (ldI h (rf v1 3) (h.1 a0 3)) fun v2 =>
if v2 ≤ (h.1 a0 6) then (
b_X2_look_48 h a0 x1 v2)
else (
Option.bind (acI (wI h a0 6 v2) (rf a0 1) (0 : Int32) (rf a0 2) (0 : Int32) ((wI h a0 6 v2).1 a0 4)) fun h3 =>
b_X2_look_48 h3 a0 x1 v2)
def b_X3_passDayOfOne_60 (k2 : Hp → Nat → Int32 → Int32 → Int32 → Option (Hp)) (h : Hp) (a0 : Nat) (x1 : Int32) (x2 : Int32) (x3 : Int32) : Option (Hp) :=
k2 h a0 x1 x2 (x3 + (1 : Int32))
def b_X3_passDayOfOne_38 (k2 : Hp → Nat → Int32 → Int32 → Int32 → Option (Hp)) (h : Hp) (a0 : Nat) (x1 : Int32) (x2 : Int32) (x3 : Int32) (b0 : Nat) (s1 : Int32) (s2 : Int32) : Option (Hp) :=
Option.bind (sh_X3_handIfAny h b0 s1 s2 x2) fun h1 =>
b_X3_passDayOfOne_60 k2 h1 a0 x1 x2 x3
def f_X3_passDayOfOne_2 (k2 : Hp → Nat → Int32 → Int32 → Int32 → Option (Hp)) (h : Hp) (a0 : Nat) (x1 : Int32) (x2 : Int32) (x3 : Int32) : Option (Hp) :=
if (h.1 a0 7) ≤ x3 then (
Option.bind (sh_X3_endDay h a0) fun q1 =>
some q1.2)
else (
if x3 = x1 then (
Option.bind (ldI h (rf a0 2) x3) fun v2 =>
if v2 = x3 then (
b_X3_passDayOfOne_38 k2 h a0 x1 x2 x3 a0 x3 (9 : Int32))
else (
Option.bind (ldI h (rf a0 2) x3) fun v3 =>
b_X3_passDayOfOne_38 k2 h a0 x1 x2 x3 a0 x3 v3))
else (
Option.bind (sh_X3_takerByKind h a0 x3) fun v4 =>
Option.bind (sh_X3_amountByKind h a0 x3) fun v5 =>
Option.bind (sh_X3_handIfAny h a0 x3 v4 v5) fun h6 =>
b_X3_passDayOfOne_60 k2 h6 a0 x1 x2 x3))
def b_X3_passDayOfOne_2 : Nat → Hp → Nat → Int32 → Int32 → Int32 → Option (Hp)
  | 0 => fun _ _ _ _ _ => none
  | n + 1 => f_X3_passDayOfOne_2  (b_X3_passDayOfOne_2  n)
def sh_X3_passDayOfOne (h : Hp) (a0 : Nat) (x1 : Int32) (x2 : Int32) : Option (Hp) :=
b_X3_passDayOfOne_2 1000 h a0 x1 x2 (0 : Int32)
def b_X2_explore_109 (self : Hp → Nat → Int32 → Int32 → Option (Hp)) (k35 : Hp → Nat → Int32 → Int32 → Nat → Int32 → Int32 → Option (Hp)) (h : Hp) (a0 : Nat) (x1 : Int32) (x2 : Int32) (a3 : Nat) (x4 : Int32) (x5 : Int32) : Option (Hp) :=
k35 h a0 x1 x2 a3 x4 (x5 + (1 : Int32))
def b_X2_explore_63 (self : Hp → Nat → Int32 → Int32 → Option (Hp)) (k35 : Hp → Nat → Int32 → Int32 → Nat → Int32 → Int32 → Option (Hp)) (h : Hp) (a0 : Nat) (x1 : Int32) (x2 : Int32) (a3 : Nat) (x4 : Int32) (x5 : Int32) (x6 : Int32) : Option (Hp) :=
Option.bind (stI h (rf a0 1) x1 x5) fun h1 =>
Option.bind (ldR (rf a0 0) (x1 + (1 : Int32))) fun v2 =>
Option.bind (sh_X3_become h1 v2 a3) fun h3 =>
Option.bind (sh_X3_passDayOfOne h3 v2 (h3.1 a0 3) x6) fun h4 =>
Option.bind (self h4 a0 (x1 + (1 : Int32)) (x2 + x6)) fun h5 =>
b_X2_explore_109 self k35 h5 a0 x1 x2 a3 x4 x5
def f_X2_explore_35 (self : Hp → Nat → Int32 → Int32 → Option (Hp)) (k35 : Hp → Nat → Int32 → Int32 → Nat → Int32 → Int32 → Option (Hp)) (h : Hp) (a0 : Nat) (x1 : Int32) (x2 : Int32) (a3 : Nat) (x4 : Int32) (x5 : Int32) : Option (Hp) :=
if (2 : Int32) < x5 then (
some h)
else (
if x5 ≤ 0 then (
b_X2_explore_63 self k35 h a0 x1 x2 a3 x4 x5 ((x4 * x5) / (2 : Int32)))
else (
if ((x4 * x5) / (2 : Int32)) = 0 then (
b_X2_explore_109 self k35 h a0 x1 x2 a3 x4 x5)
else (
b_X2_explore_63 self k35 h a0 x1 x2 a3 x4 x5 ((x4 * x5) / (2 : Int32)))))
def b_X2_explore_35 (self : Hp → Nat → Int32 → Int32 → Option (Hp)) : Nat → Hp → Nat → Int32 → Int32 → Nat → Int32 → Int32 → Option (Hp)
  | 0 => fun _ _ _ _ _ _ _ => none
  | n + 1 => f_X2_explore_35 self (b_X2_explore_35 self n)
def g_X2_explore (self : Hp → Nat → Int32 → Int32 → Option (Hp)) (h : Hp) (a0 : Nat) (x1 : Int32) (x2 : Int32) : Option (Hp) :=
if x1 < (h.1 a0 4) then (
Option.bind (ldR (rf a0 0) x1) fun v1 =>
Option.bind (ldI h (rf v1 3) (h.1 a0 3)) fun v2 =>
b_X2_explore_35 self 1000 h a0 x1 x2 v1 v2 (0 : Int32))
else (
Option.bind (sh_X2_look h a0 x2) fun h3 =>
some h3)
def sh_X2_explore : Nat → Hp → Nat → Int32 → Int32 → Option (Hp)
  | 0 => fun _ _ _ _ => none
  | n + 1 => g_X2_explore (sh_X2_explore n)
def sh_X2_run (h : Hp) (a0 : Nat) (a1 : Nat) (x2 : Int32) (x3 : Int32) (x4 : Int32) : Option (Hp) :=
Option.bind (ldR (rf a0 0) (0 : Int32)) fun v1 =>
Option.bind (sh_X3_become (wI (wI (wI (wI (wI h a0 3 x2) a0 4 (if (6 : Int32) < x3 then (6 : Int32) else x3)) a0 5 x4) a0 6 (-9 : Int32)) a0 7 (-9 : Int32)) v1 a1) fun h2 =>
Option.bind (sh_X2_explore 8 h2 a0 (0 : Int32) (0 : Int32)) fun h3 =>
some h3
def sh_X4_most (h : Hp) (a0 : Nat) (x1 : Int32) (x2 : Int32) : Option (Int32 × Hp) :=
Option.bind (sh_X4_ofOneRefusal h a0 x1 x2 (1 : Int32) (6 : Int32)) fun v1 =>
if v1 = 0 then (
Option.bind (sh_X2_run h (rf a0 3) (rf a0 0) x1 x2 (0 : Int32)) fun h2 =>
some ((h2.1 (rf a0 3) 6), h2))
else (
Option.bind (sh_X4_refuse h a0 v1) fun q3 =>
some (q3.1, q3.2))
def b_X4_choice_25 (h : Hp) (a0 : Nat) (x1 : Int32) (x2 : Int32) (x3 : Int32) (x4 : Int32) : Option (Int32 × Hp) :=
if x4 = 0 then (
if x3 < x2 then (
Option.bind (sh_X2_run h (rf a0 3) (rf a0 0) x1 x2 (0 : Int32)) fun h1 =>
Option.bind (ldI h1 (rf (rf a0 3) 2) x3) fun v2 =>
some (v2, h1))
else (
some ((-9 : Int32), h)))
else (
Option.bind (sh_X4_refuse h a0 x4) fun q3 =>
some (q3.1, q3.2))
def sh_X4_choice (h : Hp) (a0 : Nat) (x1 : Int32) (x2 : Int32) (x3 : Int32) : Option (Int32 × Hp) :=
Option.bind (sh_X4_ofOneRefusal h a0 x1 x2 (1 : Int32) (6 : Int32)) fun v1 =>
if v1 = (-1 : Int32) then (
b_X4_choice_25 h a0 x1 x2 x3 v1)
else (
if 0 ≤ x3 then (
b_X4_choice_25 h a0 x1 x2 x3 v1)
else (
b_X4_choice_25 h a0 x1 x2 x3 (-4 : Int32)))
def sh_X4_gap (h : Hp) (a0 : Nat) (x1 : Int32) (x2 : Int32) : Option (Int32 × Hp) :=
Option.bind (sh_X4_ofOneRefusal h a0 x1 x2 (1 : Int32) (6 : Int32)) fun v1 =>
if v1 = 0 then (
Option.bind (sh_X2_run h (rf a0 3) (rf a0 0) x1 x2 (0 : Int32)) fun h2 =>
Option.bind (sh_X4_think h2 a0 x2) fun h3 =>
Option.bind (ldI h3 (rf (rf a0 2) 3) x1) fun v4 =>
some (((h3.1 (rf a0 3) 6) - v4), h3))
else (
Option.bind (sh_X4_refuse h a0 v1) fun q5 =>
some (((1000000000 : Int32) - q5.1), q5.2))
def b_X4_ofOneTwiceRefusal_25 (h : Hp) : Option (Int32) :=
some (-4 : Int32)
def b_X4_ofOneTwiceRefusal_37 (h : Hp) (s0 : Int32) : Option (Int32) :=
some s0
def sh_X4_ofOneTwiceRefusal (h : Hp) (a0 : Nat) (x1 : Int32) (x2 : Int32) (x3 : Int32) : Option (Int32) :=
Option.bind (sh_X3_exists h (rf a0 0) x1) fun v1 =>
if v1 = 0 then (
some (-1 : Int32))
else (
if x2 = (-4 : Int32) then (
b_X4_ofOneTwiceRefusal_25 h)
else (
if x3 = (-4 : Int32) then (
b_X4_ofOneTwiceRefusal_25 h)
else (
if x2 = 0 then (
b_X4_ofOneTwiceRefusal_37 h x3)
else (
b_X4_ofOneTwiceRefusal_37 h x2))))
def sh_X4_feast (h : Hp) (a0 : Nat) (x1 : Int32) (x2 : Int32) (x3 : Int32) : Option (Int32 × Hp) :=
Option.bind (sh_X4_outside h x2 (1 : Int32) (6 : Int32)) fun v1 =>
Option.bind (sh_X4_outside h x3 (0 : Int32) (9999 : Int32)) fun v2 =>
Option.bind (sh_X4_ofOneTwiceRefusal h a0 x1 v1 v2) fun v3 =>
if v3 = 0 then (
Option.bind (sh_X2_run h (rf a0 3) (rf a0 0) x1 x2 x3) fun h4 =>
some ((h4.1 (rf a0 3) 7), h4))
else (
Option.bind (sh_X4_refuse h a0 v3) fun q5 =>
some (q5.1, q5.2))
def b_X3_isSomebodysTaker_56 (k2 : Hp → Nat → Int32 → Int32 → Option (Int32)) (h : Hp) (a0 : Nat) (x1 : Int32) (x2 : Int32) : Option (Int32) :=
k2 h a0 x1 (x2 + (1 : Int32))
def b_X3_isSomebodysTaker_34 (k2 : Hp → Nat → Int32 → Int32 → Option (Int32)) (h : Hp) (a0 : Nat) (x1 : Int32) (x2 : Int32) (s0 : Int32) : Option (Int32) :=
if x2 = x1 then (
b_X3_isSomebodysTaker_56 k2 h a0 x1 x2)
else (
Option.bind (ldI h (rf a0 3) x2) fun v1 =>
if v1 ≤ 0 then (
b_X3_isSomebodysTaker_56 k2 h a0 x1 x2)
else (
if s0 = x1 then (
some (1 : Int32))
else (
b_X3_isSomebodysTaker_56 k2 h a0 x1 x2)))
def f_X3_isSomebodysTaker_2 (k2 : Hp → Nat → Int32 → Int32 → Option (Int32)) (h : Hp) (a0 : Nat) (x1 : Int32) (x2 : Int32) : Option (Int32) :=
if (h.1 a0 7) ≤ x2 then (
some (0 : Int32))
else (
Option.bind (ldI h (rf a0 0) x2) fun v1 =>
if v1 = (4 : Int32) then (
Option.bind (sh_X3_nextOne h a0 x2) fun v2 =>
b_X3_isSomebodysTaker_34 k2 h a0 x1 x2 v2)
else (
Option.bind (ldI h (rf a0 2) x2) fun v3 =>
b_X3_isSomebodysTaker_34 k2 h a0 x1 x2 v3))
def b_X3_isSomebodysTaker_2 : Nat → Hp → Nat → Int32 → Int32 → Option (Int32)
  | 0 => fun _ _ _ _ => none
  | n + 1 => f_X3_isSomebodysTaker_2  (b_X3_isSomebodysTaker_2  n)
def sh_X3_isSomebodysTaker (h : Hp) (a0 : Nat) (x1 : Int32) : Option (Int32) :=
b_X3_isSomebodysTaker_2 1000 h a0 x1 (0 : Int32)
def b_X3_whoCannotBegin_62 (k4 : Hp → Nat → Int32 → Int32 → Option (Int32)) (h : Hp) (a0 : Nat) (x1 : Int32) (x2 : Int32) : Option (Int32) :=
k4 h a0 x1 (x2 + (1 : Int32))
def b_X3_whoCannotBegin_34 (k4 : Hp → Nat → Int32 → Int32 → Option (Int32)) (h : Hp) (a0 : Nat) (x1 : Int32) (x2 : Int32) (s0 : Int32) : Option (Int32) :=
Option.bind (ldI h (rf a0 3) x2) fun v1 =>
if v1 = 0 then (
if s0 = 0 then (
b_X3_whoCannotBegin_62 k4 h a0 x1 x2)
else (
Option.bind (sh_X3_isSomebodysTaker h a0 x2) fun v2 =>
if v2 = 0 then (
b_X3_whoCannotBegin_62 k4 h a0 (x1 ||| ((1 : Int32) <<< (x2 &&& 31))) x2)
else (
b_X3_whoCannotBegin_62 k4 h a0 x1 x2)))
else (
b_X3_whoCannotBegin_62 k4 h a0 x1 x2)
def b_X3_whoCannotBegin_29 (k4 : Hp → Nat → Int32 → Int32 → Option (Int32)) (h : Hp) (a0 : Nat) (x1 : Int32) (x2 : Int32) : Option (Int32) :=
b_X3_whoCannotBegin_34 k4 h a0 x1 x2 (1 : Int32)
def f_X3_whoCannotBegin_4 (k4 : Hp → Nat → Int32 → Int32 → Option (Int32)) (h : Hp) (a0 : Nat) (x1 : Int32) (x2 : Int32) : Option (Int32) :=
if (h.1 a0 7) ≤ x2 then (
some x1)
else (
Option.bind (ldI h (rf a0 4) x2) fun v1 =>
if v1 = 0 then (
b_X3_whoCannotBegin_29 k4 h a0 x1 x2)
else (
Option.bind (sh_X3_leave h a0 x2) fun v2 =>
if v2 = 0 then (
b_X3_whoCannotBegin_29 k4 h a0 x1 x2)
else (
b_X3_whoCannotBegin_34 k4 h a0 x1 x2 (0 : Int32))))
def b_X3_whoCannotBegin_4 : Nat → Hp → Nat → Int32 → Int32 → Option (Int32)
  | 0 => fun _ _ _ _ => none
  | n + 1 => f_X3_whoCannotBegin_4  (b_X3_whoCannotBegin_4  n)
def sh_X3_whoCannotBegin (h : Hp) (a0 : Nat) : Option (Int32) :=
b_X3_whoCannotBegin_4 1000 h a0 (0 : Int32) (0 : Int32)
def sh_X4_begins (h : Hp) (a0 : Nat) : Option (Int32) :=
Option.bind (sh_X3_whoCannotBegin h (rf a0 0)) fun v1 =>
some v1
def sh_J6_bitCount_0f7a4 (h : Hp) (x0 : Int32) : Option (Int32) :=
some ((((((((x0 - ((ush x0 (1 : Int32)) &&& (1431655765 : Int32))) &&& (858993459 : Int32)) + ((ush (x0 - ((ush x0 (1 : Int32)) &&& (1431655765 : Int32))) (2 : Int32)) &&& (858993459 : Int32))) + (ush (((x0 - ((ush x0 (1 : Int32)) &&& (1431655765 : Int32))) &&& (858993459 : Int32)) + ((ush (x0 - ((ush x0 (1 : Int32)) &&& (1431655765 : Int32))) (2 : Int32)) &&& (858993459 : Int32))) (4 : Int32))) &&& (252645135 : Int32)) + (ush (((((x0 - ((ush x0 (1 : Int32)) &&& (1431655765 : Int32))) &&& (858993459 : Int32)) + ((ush (x0 - ((ush x0 (1 : Int32)) &&& (1431655765 : Int32))) (2 : Int32)) &&& (858993459 : Int32))) + (ush (((x0 - ((ush x0 (1 : Int32)) &&& (1431655765 : Int32))) &&& (858993459 : Int32)) + ((ush (x0 - ((ush x0 (1 : Int32)) &&& (1431655765 : Int32))) (2 : Int32)) &&& (858993459 : Int32))) (4 : Int32))) &&& (252645135 : Int32)) (8 : Int32))) + (ush ((((((x0 - ((ush x0 (1 : Int32)) &&& (1431655765 : Int32))) &&& (858993459 : Int32)) + ((ush (x0 - ((ush x0 (1 : Int32)) &&& (1431655765 : Int32))) (2 : Int32)) &&& (858993459 : Int32))) + (ush (((x0 - ((ush x0 (1 : Int32)) &&& (1431655765 : Int32))) &&& (858993459 : Int32)) + ((ush (x0 - ((ush x0 (1 : Int32)) &&& (1431655765 : Int32))) (2 : Int32)) &&& (858993459 : Int32))) (4 : Int32))) &&& (252645135 : Int32)) + (ush (((((x0 - ((ush x0 (1 : Int32)) &&& (1431655765 : Int32))) &&& (858993459 : Int32)) + ((ush (x0 - ((ush x0 (1 : Int32)) &&& (1431655765 : Int32))) (2 : Int32)) &&& (858993459 : Int32))) + (ush (((x0 - ((ush x0 (1 : Int32)) &&& (1431655765 : Int32))) &&& (858993459 : Int32)) + ((ush (x0 - ((ush x0 (1 : Int32)) &&& (1431655765 : Int32))) (2 : Int32)) &&& (858993459 : Int32))) (4 : Int32))) &&& (252645135 : Int32)) (8 : Int32))) (16 : Int32))) &&& (63 : Int32))
def b_X4_helps_28 (h : Hp) (s0 : Int32) : Option (Int32) :=
some s0
def sh_X4_helps (h : Hp) (a0 : Nat) : Option (Int32) :=
Option.bind (sh_X3_whoCannotBegin h (rf a0 0)) fun v1 =>
Option.bind (sh_J6_bitCount_0f7a4 h v1) fun v2 =>
if v2 = 0 then (
b_X4_helps_28 h (-9 : Int32))
else (
Option.bind (sh_X3_richestAbove h (rf a0 0) v2) fun v3 =>
b_X4_helps_28 h v3)
def sh_X4_hasByLaw (h : Hp) (a0 : Nat) (x1 : Int32) (x2 : Int32) (x3 : Int32) : Option (Int32 × Hp) :=
Option.bind (sh_X3_become h (rf a0 2) (rf a0 0)) fun h1 =>
Option.bind (sh_X3_changeSetting h1 (rf a0 2) (0 : Int32) x1) fun q2 =>
Option.bind (sh_X3_passDays q2.2 (rf a0 2) x3) fun h3 =>
Option.bind (ldI h3 (rf (rf a0 2) 3) x2) fun v4 =>
some (v4, h3)
def b_X4_byLaw_9 (h : Hp) (a0 : Nat) : Option (Int32 × Hp) :=
Option.bind (sh_X4_refuse h a0 (-2 : Int32)) fun q1 =>
some (q1.1, q1.2)
def sh_X4_byLaw (h : Hp) (a0 : Nat) (x1 : Int32) (x2 : Int32) (x3 : Int32) : Option (Int32 × Hp) :=
if x1 < 0 then (
b_X4_byLaw_9 h a0)
else (
if x1 ≤ (5 : Int32) then (
Option.bind (sh_X4_ofOneRefusal h a0 x2 x3 (0 : Int32) (60 : Int32)) fun v1 =>
if v1 = 0 then (
Option.bind (sh_X4_hasByLaw h a0 x1 x2 x3) fun q2 =>
some (q2.1, q2.2))
else (
Option.bind (sh_X4_refuse h a0 v1) fun q3 =>
some (q3.1, q3.2)))
else (
b_X4_byLaw_9 h a0))
def sh_X4_byBack (h : Hp) (a0 : Nat) (x1 : Int32) (x2 : Int32) (x3 : Int32) : Option (Int32 × Hp) :=
Option.bind (sh_X4_outside h x1 (0 : Int32) (5 : Int32)) fun v1 =>
Option.bind (sh_X4_outside h x3 (0 : Int32) (60 : Int32)) fun v2 =>
Option.bind (sh_X4_ofOneTwiceRefusal h a0 x2 v1 v2) fun v3 =>
if v3 = 0 then (
Option.bind (sh_X3_become h (rf a0 2) (rf a0 0)) fun h4 =>
Option.bind (sh_X3_changeSetting h4 (rf a0 2) (2 : Int32) x1) fun q5 =>
Option.bind (sh_X3_passDays q5.2 (rf a0 2) x3) fun h6 =>
Option.bind (ldI h6 (rf (rf a0 2) 3) x2) fun v7 =>
some (v7, h6))
else (
Option.bind (sh_X4_refuse h a0 v3) fun q8 =>
some (q8.1, q8.2))
def b_X4_leastLaw_66 (k35 : Hp → Nat → Int32 → Int32 → Int32 → Int32 → Int32 → Option (Int32 × Hp)) (h : Hp) (a0 : Nat) (x1 : Int32) (x2 : Int32) (x4 : Int32) (x5 : Int32) (x6 : Int32) : Option (Int32 × Hp) :=
k35 h a0 x1 x2 x4 x5 (x6 + (1 : Int32))
def f_X4_leastLaw_35 (k35 : Hp → Nat → Int32 → Int32 → Int32 → Int32 → Int32 → Option (Int32 × Hp)) (h : Hp) (a0 : Nat) (x1 : Int32) (x2 : Int32) (x4 : Int32) (x5 : Int32) (x6 : Int32) : Option (Int32 × Hp) :=
if (5 : Int32) < x6 then (
some (x4, h))
else (
Option.bind (sh_X4_hasByLaw h a0 x6 x1 x2) fun q1 =>
if x5 ≤ q1.1 then (
b_X4_leastLaw_66 k35 q1.2 a0 x1 x2 x4 x5 x6)
else (
b_X4_leastLaw_66 k35 q1.2 a0 x1 x2 x6 q1.1 x6))
def b_X4_leastLaw_35 : Nat → Hp → Nat → Int32 → Int32 → Int32 → Int32 → Int32 → Option (Int32 × Hp)
  | 0 => fun _ _ _ _ _ _ _ => none
  | n + 1 => f_X4_leastLaw_35  (b_X4_leastLaw_35  n)
def sh_X4_leastLaw (h : Hp) (a0 : Nat) (x1 : Int32) (x2 : Int32) : Option (Int32 × Hp) :=
Option.bind (sh_X4_ofOneRefusal h a0 x1 x2 (0 : Int32) (60 : Int32)) fun v1 =>
if v1 = 0 then (
Option.bind (sh_X4_hasByLaw h a0 (0 : Int32) x1 x2) fun q2 =>
b_X4_leastLaw_35 1000 q2.2 a0 x1 x2 (0 : Int32) q2.1 (1 : Int32))
else (
Option.bind (sh_X4_refuse h a0 v1) fun q3 =>
some (q3.1, q3.2))
def b_X4_row_30 (h : Hp) (a0 : Nat) : Option (Int32 × Hp) :=
Option.bind (sh_X4_refuse h a0 (-6 : Int32)) fun q1 =>
some (q1.1, q1.2)
def sh_X4_row (h : Hp) (a0 : Nat) (x1 : Int32) : Option (Int32 × Hp) :=
if 0 ≤ x1 then (
if (9999 : Int32) < x1 then (
b_X4_row_30 h a0)
else (
if (h.1 a0 8) < (Int32.ofNat (len (rf a0 6))) then (
Option.bind (stI h (rf a0 6) (h.1 a0 8) x1) fun h1 =>
some (((wI h1 a0 8 ((h1.1 a0 8) + (1 : Int32))).1 a0 8), (wI h1 a0 8 ((h1.1 a0 8) + (1 : Int32)))))
else (
b_X4_row_30 h a0)))
else (
Option.bind (sh_X4_refuse h a0 (-4 : Int32)) fun q2 =>
some (q2.1, q2.2))
def b_X4_lookAtBook_82 (k17 : Hp → Nat → Int32 → Int32 → Int32 → Int32 → Option (Int32 × Hp)) (h : Hp) (a0 : Nat) (x1 : Int32) (x2 : Int32) (x3 : Int32) (x4 : Int32) : Option (Int32 × Hp) :=
k17 h a0 x1 x2 x3 (x4 + (1 : Int32))
def b_X4_lookAtBook_79 (k17 : Hp → Nat → Int32 → Int32 → Int32 → Int32 → Option (Int32 × Hp)) (h : Hp) (a0 : Nat) (x1 : Int32) (x2 : Int32) (x4 : Int32) : Option (Int32 × Hp) :=
b_X4_lookAtBook_82 k17 h a0 x1 x2 x4 x4
def b_X4_lookAtBook_88 (h : Hp) (a0 : Nat) (x3 : Int32) : Option (Int32 × Hp) :=
some (x3, (wI h a0 8 (0 : Int32)))
def f_X4_lookAtBook_17 (k17 : Hp → Nat → Int32 → Int32 → Int32 → Int32 → Option (Int32 × Hp)) (h : Hp) (a0 : Nat) (x1 : Int32) (x2 : Int32) (x3 : Int32) (x4 : Int32) : Option (Int32 × Hp) :=
if (h.1 a0 8) ≤ x4 then (
b_X4_lookAtBook_88 h a0 x3)
else (
if x3 = (-9 : Int32) then (
Option.bind (sh_X3_passDay h (rf a0 2)) fun q1 =>
Option.bind (ldI q1.2 (rf (rf a0 2) 3) x1) fun v2 =>
Option.bind (ldI q1.2 (rf a0 6) x4) fun v3 =>
if v2 < v3 then (
b_X4_lookAtBook_79 k17 q1.2 a0 x1 x2 x4)
else (
if x2 = 0 then (
b_X4_lookAtBook_82 k17 q1.2 a0 x1 x2 x3 x4)
else (
Option.bind (ldI q1.2 (rf a0 6) x4) fun v4 =>
if v4 = v2 then (
b_X4_lookAtBook_82 k17 q1.2 a0 x1 x2 x3 x4)
else (
b_X4_lookAtBook_79 k17 q1.2 a0 x1 x2 x4))))
else (
b_X4_lookAtBook_88 h a0 x3))
def b_X4_lookAtBook_17 : Nat → Hp → Nat → Int32 → Int32 → Int32 → Int32 → Option (Int32 × Hp)
  | 0 => fun _ _ _ _ _ _ => none
  | n + 1 => f_X4_lookAtBook_17  (b_X4_lookAtBook_17  n)
def sh_X4_lookAtBook (h : Hp) (a0 : Nat) (x1 : Int32) (x2 : Int32) : Option (Int32 × Hp) :=
Option.bind (sh_X3_become h (rf a0 2) (rf a0 0)) fun h1 =>
b_X4_lookAtBook_17 1000 h1 a0 x1 x2 (-9 : Int32) (0 : Int32)
def sh_X4_found (h : Hp) (a0 : Nat) (x1 : Int32) : Option (Int32 × Hp) :=
Option.bind (sh_X3_exists h (rf a0 0) x1) fun v1 =>
if v1 = 0 then (
Option.bind (sh_X4_refuse h a0 (-1 : Int32)) fun q2 =>
some (q2.1, q2.2))
else (
Option.bind (sh_X4_lookAtBook h a0 x1 (0 : Int32)) fun q3 =>
some (q3.1, q3.2))
def sh_X4_judge (h : Hp) (a0 : Nat) (x1 : Int32) : Option (Int32 × Hp) :=
Option.bind (sh_X3_exists h (rf a0 0) x1) fun v1 =>
if v1 = 0 then (
Option.bind (sh_X4_refuse h a0 (-1 : Int32)) fun q2 =>
some (q2.1, q2.2))
else (
Option.bind (sh_X4_lookAtBook h a0 x1 (1 : Int32)) fun q3 =>
some (q3.1, q3.2))
def b_X4_firstImpossibleGift_99 (h : Hp) (s0 : Int32) : Option (Int32 × Hp) :=
some (s0, h)
def f_X4_firstImpossibleGift_13 (k13 : Hp → Nat → Int32 → Option (Int32 × Hp)) (h : Hp) (a0 : Nat) (x1 : Int32) : Option (Int32 × Hp) :=
if (h.1 a0 8) ≤ (x1 + (2 : Int32)) then (
if x1 = (h.1 a0 8) then (
b_X4_firstImpossibleGift_99 h (-9 : Int32))
else (
b_X4_firstImpossibleGift_99 h (h.1 a0 8)))
else (
Option.bind (ldI h (rf a0 6) x1) fun v1 =>
Option.bind (ldI h (rf a0 6) (x1 + (1 : Int32))) fun v2 =>
Option.bind (ldI h (rf a0 6) (x1 + (2 : Int32))) fun v3 =>
Option.bind (sh_X3_giftRefusal h (rf a0 2) v1 v2 v3) fun v4 =>
if v4 = 0 then (
Option.bind (sh_X3_hand h (rf a0 2) v1 v2 v3) fun h5 =>
k13 h5 a0 (x1 + (3 : Int32)))
else (
some (x1, h)))
def b_X4_firstImpossibleGift_13 : Nat → Hp → Nat → Int32 → Option (Int32 × Hp)
  | 0 => fun _ _ _ => none
  | n + 1 => f_X4_firstImpossibleGift_13  (b_X4_firstImpossibleGift_13  n)
def sh_X4_firstImpossibleGift (h : Hp) (a0 : Nat) : Option (Int32 × Hp) :=
Option.bind (sh_X3_become h (rf a0 2) (rf a0 0)) fun h1 =>
b_X4_firstImpossibleGift_13 1000 h1 a0 (0 : Int32)
def sh_X4_told (h : Hp) (a0 : Nat) : Option (Int32 × Hp) :=
Option.bind (sh_X4_firstImpossibleGift h a0) fun q1 =>
some (q1.1, (wI q1.2 a0 8 (0 : Int32)))
def sh_X4_nextSeed (h : Hp) (x0 : Int32) : Option (Int32) :=
some ((x0 * (1103515245 : Int32)) + (12345 : Int32))
def b_X4_draw_20 (h : Hp) (s0 : Int32) : Option (Int32) :=
some s0
def sh_X4_draw (h : Hp) (x0 : Int32) (x1 : Int32) : Option (Int32) :=
if (1 : Int32) ≤ x1 then (
Option.bind (rmI ((x0 &&& (2147483647 : Int32)) / (65536 : Int32)) x1) fun v1 =>
b_X4_draw_20 h v1)
else (
b_X4_draw_20 h (0 : Int32))
def b_X3_find_28 (h : Hp) : Option (Hp) :=
some h
def sh_X3_find (h : Hp) (a0 : Nat) (x1 : Int32) (x2 : Int32) : Option (Hp) :=
Option.bind (sh_X3_exists h a0 x1) fun v1 =>
if v1 = 0 then (
b_X3_find_28 h)
else (
Option.bind (ldI h (rf a0 3) x1) fun v2 =>
Option.bind (stI h (rf a0 3) x1 (if (v2 + x2) < (9999 : Int32) then (v2 + x2) else (9999 : Int32))) fun h3 =>
b_X3_find_28 h3)
def f_X4_seeds_52 (k52 : Hp → Nat → Int32 → Int32 → Int32 → Option (Int32 × Hp)) (h : Hp) (a0 : Nat) (x1 : Int32) (x4 : Int32) (x5 : Int32) : Option (Int32 × Hp) :=
if x1 ≤ x5 then (
Option.bind (sh_X3_sumOfHas h (rf a0 2)) fun v1 =>
some (v1, h))
else (
Option.bind (sh_X4_nextSeed h x4) fun v2 =>
Option.bind (sh_X4_draw h v2 (h.1 (rf a0 2) 7)) fun v3 =>
Option.bind (sh_X4_nextSeed h v2) fun v4 =>
Option.bind (sh_X4_draw h v4 (10 : Int32)) fun v5 =>
Option.bind (sh_X3_find h (rf a0 2) v3 v5) fun h6 =>
Option.bind (sh_X3_passDay h6 (rf a0 2)) fun q7 =>
k52 q7.2 a0 x1 v4 (x5 + (1 : Int32)))
def b_X4_seeds_52 : Nat → Hp → Nat → Int32 → Int32 → Int32 → Option (Int32 × Hp)
  | 0 => fun _ _ _ _ _ => none
  | n + 1 => f_X4_seeds_52  (b_X4_seeds_52  n)
def b_X4_seeds_25 (h : Hp) (a0 : Nat) (x1 : Int32) (x2 : Int32) (x3 : Int32) : Option (Int32 × Hp) :=
if x3 = 0 then (
Option.bind (sh_X3_become h (rf a0 2) (rf a0 0)) fun h1 =>
b_X4_seeds_52 1000 h1 a0 x1 x2 (0 : Int32))
else (
Option.bind (sh_X4_refuse h a0 x3) fun q2 =>
some (q2.1, q2.2))
def sh_X4_seeds (h : Hp) (a0 : Nat) (x1 : Int32) (x2 : Int32) : Option (Int32 × Hp) :=
Option.bind (sh_X4_outside h x1 (1 : Int32) (20 : Int32)) fun v1 =>
if v1 = 0 then (
if (h.1 (rf a0 0) 7) = 0 then (
b_X4_seeds_25 h a0 x1 x2 (-3 : Int32))
else (
b_X4_seeds_25 h a0 x1 x2 v1))
else (
b_X4_seeds_25 h a0 x1 x2 v1)
def sh_X4_image (h : Hp) (a0 : Nat) : Option (Int32 × Hp) :=
Option.bind (sh_X3_become h (rf a0 1) (rf a0 0)) fun h1 =>
some (((wI h1 a0 9 (1 : Int32)).1 (rf a0 0) 8), (wI h1 a0 9 (1 : Int32)))
def sh_X4_restore (h : Hp) (a0 : Nat) : Option (Int32 × Hp) :=
if (h.1 a0 9) = 0 then (
Option.bind (sh_X4_refuse h a0 (-3 : Int32)) fun q1 =>
some (q1.1, q1.2))
else (
Option.bind (sh_X3_become h (rf a0 0) (rf a0 1)) fun h2 =>
some ((h2.1 (rf a0 0) 8), h2))
def f_X3_sumOfLying_4 (k4 : Hp → Nat → Int32 → Int32 → Option (Int32)) (h : Hp) (a0 : Nat) (x1 : Int32) (x2 : Int32) : Option (Int32) :=
if (h.1 a0 7) ≤ x2 then (
some x1)
else (
Option.bind (sh_X0_gotToday h (rf a0 6) x2) fun v1 =>
k4 h a0 (x1 + v1) (x2 + (1 : Int32)))
def b_X3_sumOfLying_4 : Nat → Hp → Nat → Int32 → Int32 → Option (Int32)
  | 0 => fun _ _ _ _ => none
  | n + 1 => f_X3_sumOfLying_4  (b_X3_sumOfLying_4  n)
def sh_X3_sumOfLying (h : Hp) (a0 : Nat) : Option (Int32) :=
b_X3_sumOfLying_4 1000 h a0 (0 : Int32) (0 : Int32)
def f_X3_sumOfGiven_4 (k4 : Hp → Nat → Int32 → Int32 → Option (Int32)) (h : Hp) (a0 : Nat) (x1 : Int32) (x2 : Int32) : Option (Int32) :=
if (h.1 a0 7) ≤ x2 then (
some x1)
else (
Option.bind (sh_X0_givenToday h (rf a0 6) x2) fun v1 =>
k4 h a0 (x1 + v1) (x2 + (1 : Int32)))
def b_X3_sumOfGiven_4 : Nat → Hp → Nat → Int32 → Int32 → Option (Int32)
  | 0 => fun _ _ _ _ => none
  | n + 1 => f_X3_sumOfGiven_4  (b_X3_sumOfGiven_4  n)
def sh_X3_sumOfGiven (h : Hp) (a0 : Nat) : Option (Int32) :=
b_X3_sumOfGiven_4 1000 h a0 (0 : Int32) (0 : Int32)
def b_X4_count_137 (h : Hp) (a0 : Nat) (x1 : Int32) : Option (Int32) :=
Option.bind (ldI h (rf a0 7) (x1 - (10 : Int32))) fun v1 =>
some v1
def b_X4_count_147 (h : Hp) : Option (Int32) :=
some (-9 : Int32)
def sh_X4_count (h : Hp) (a0 : Nat) (x1 : Int32) : Option (Int32) :=
if x1 = (0 : Int32) then (
some (h.1 (rf a0 0) 7))
else if x1 = (1 : Int32) then (
some (h.1 (rf a0 0) 8))
else if x1 = (2 : Int32) then (
Option.bind (sh_X3_sumOfHas h (rf a0 0)) fun v1 =>
some v1)
else if x1 = (3 : Int32) then (
Option.bind (sh_X3_sumOfLying h (rf a0 0)) fun v2 =>
some v2)
else if x1 = (4 : Int32) then (
Option.bind (sh_X3_sumOfGiven h (rf a0 0)) fun v3 =>
some v3)
else if x1 = (5 : Int32) then (
some (h.1 (rf a0 4) 1))
else if x1 = (6 : Int32) then (
some (h.1 a0 8))
else if x1 = (7 : Int32) then (
b_X4_count_147 h)
else if x1 = (8 : Int32) then (
b_X4_count_147 h)
else if x1 = (9 : Int32) then (
b_X4_count_147 h)
else if x1 = (10 : Int32) then (
b_X4_count_147 h)
else if x1 = (11 : Int32) then (
b_X4_count_137 h a0 x1)
else if x1 = (12 : Int32) then (
b_X4_count_137 h a0 x1)
else if x1 = (13 : Int32) then (
b_X4_count_137 h a0 x1)
else if x1 = (14 : Int32) then (
b_X4_count_137 h a0 x1)
else if x1 = (15 : Int32) then (
b_X4_count_137 h a0 x1)
else if x1 = (16 : Int32) then (
b_X4_count_137 h a0 x1)
else (
b_X4_count_147 h)
def sh_X5_refuse (h : Hp) (a0 : Nat) (x1 : Int32) : Option (Int32 × Hp) :=
Option.bind (ldI h (rf a0 14) (-x1)) fun v1 =>
Option.bind (stI h (rf a0 14) (-x1) (v1 + (1 : Int32))) fun h2 =>
some (x1, h2)
def b_X5_feed_32 (h : Hp) (a0 : Nat) : Option (Int32 × Hp) :=
Option.bind (sh_X5_refuse h a0 (-6 : Int32)) fun q1 =>
some (q1.1, q1.2)
def sh_X5_feed (h : Hp) (a0 : Nat) (x1 : Int32) : Option (Int32 × Hp) :=
if 0 ≤ x1 then (
if (255 : Int32) < x1 then (
b_X5_feed_32 (wI h a0 13 (0 : Int32)) a0)
else (
if ((wI h a0 13 (0 : Int32)).1 a0 21) = (64 : Int32) then (
b_X5_feed_32 (wI h a0 13 (0 : Int32)) a0)
else (
Option.bind (stI (wI h a0 13 (0 : Int32)) (rf a0 20) ((wI h a0 13 (0 : Int32)).1 a0 21) x1) fun h1 =>
some (((wI h1 a0 21 ((h1.1 a0 21) + (1 : Int32))).1 a0 21), (wI h1 a0 21 ((h1.1 a0 21) + (1 : Int32)))))))
else (
Option.bind (sh_X5_refuse (wI h a0 13 (0 : Int32)) a0 (-4 : Int32)) fun q2 =>
some (q2.1, q2.2))
def b_X5_here_24 (h : Hp) (s0 : Int32) : Option (Int32) :=
some s0
def sh_X5_here (h : Hp) (a0 : Nat) : Option (Int32) :=
if (h.1 a0 21) ≤ (h.1 a0 22) then (
b_X5_here_24 h (-1 : Int32))
else (
Option.bind (ldI h (rf a0 20) (h.1 a0 22)) fun v1 =>
b_X5_here_24 h v1)
def b_X5_in_18 (h : Hp) (s0 : Int32) : Option (Int32) :=
Option.bind (bol s0) fun v1 =>
some v1
def b_X5_in_17 (h : Hp) : Option (Int32) :=
b_X5_in_18 h (0 : Int32)
def sh_X5_in (h : Hp) (y0 : Int64) (y2 : Int64) (y4 : Int64) : Option (Int32) :=
if (lg_cmp y0 y2) < 0 then (
b_X5_in_17 h)
else (
if 0 < (lg_cmp y0 y4) then (
b_X5_in_17 h)
else (
b_X5_in_18 h (1 : Int32)))
def b_X5_readDigit_30 (h : Hp) (a0 : Nat) (b0 : Nat) (s1 : Int32) : Option (Int32 × Hp) :=
Option.bind (bol s1) fun v1 =>
if ((wI h b0 23 v1).1 a0 23) = 0 then (
Option.bind (ldI (wI (wI h b0 23 v1) a0 22 (((wI h b0 23 v1).1 a0 22) + (1 : Int32))) (rf a0 20) (((wI (wI h b0 23 v1) a0 22 (((wI h b0 23 v1).1 a0 22) + (1 : Int32))).1 a0 22) - (1 : Int32))) fun v2 =>
some ((v2 - (48 : Int32)), (wI (wI h b0 23 v1) a0 22 (((wI h b0 23 v1).1 a0 22) + (1 : Int32)))))
else (
some ((0 : Int32), (wI h b0 23 v1)))
def b_X5_readDigit_25 (h : Hp) (a0 : Nat) (b0 : Nat) : Option (Int32 × Hp) :=
b_X5_readDigit_30 h a0 b0 (1 : Int32)
def sh_X5_readDigit (h : Hp) (a0 : Nat) : Option (Int32 × Hp) :=
if (h.1 a0 23) = 0 then (
Option.bind (sh_X5_here h a0) fun v1 =>
Option.bind (sh_X5_in h (v1).toInt64 (48 : Int64) (57 : Int64)) fun v2 =>
if v2 = 0 then (
b_X5_readDigit_25 h a0 a0)
else (
b_X5_readDigit_30 h a0 a0 (0 : Int32)))
else (
b_X5_readDigit_25 h a0 a0)
def b_X5_readNumber_65 (h : Hp) (x2 : Int32) : Option (Int32 × Hp) :=
some (x2, h)
def f_X5_readNumber_7 (k7 : Hp → Nat → Int32 → Int32 → Int32 → Option (Int32 × Hp)) (h : Hp) (a0 : Nat) (x1 : Int32) (x2 : Int32) (x3 : Int32) : Option (Int32 × Hp) :=
if x1 ≤ x3 then (
b_X5_readNumber_65 h x2)
else (
if (h.1 a0 23) = 0 then (
Option.bind (sh_X5_here h a0) fun v1 =>
Option.bind (sh_X5_in h (v1).toInt64 (48 : Int64) (57 : Int64)) fun v2 =>
if v2 = 0 then (
b_X5_readNumber_65 h x2)
else (
Option.bind (sh_X5_here h a0) fun v3 =>
k7 (wI h a0 22 ((h.1 a0 22) + (1 : Int32))) a0 x1 ((((10 : Int32) * x2) + v3) - (48 : Int32)) (x3 + (1 : Int32))))
else (
b_X5_readNumber_65 h x2))
def b_X5_readNumber_7 : Nat → Hp → Nat → Int32 → Int32 → Int32 → Option (Int32 × Hp)
  | 0 => fun _ _ _ _ _ => none
  | n + 1 => f_X5_readNumber_7  (b_X5_readNumber_7  n)
def sh_X5_readNumber (h : Hp) (a0 : Nat) (x1 : Int32) : Option (Int32 × Hp) :=
Option.bind (sh_X5_readDigit h a0) fun q1 =>
b_X5_readNumber_7 1000 q1.2 a0 x1 q1.1 (1 : Int32)
def b_X5_take_41 (h : Hp) (b0 : Nat) (s1 : Int32) (s2 : Int32) : Option (Hp) :=
some (wI h b0 22 (s1 + s2))
def b_X5_take_21 (h : Hp) (a0 : Nat) (b0 : Nat) (s1 : Int32) : Option (Hp) :=
Option.bind (bol s1) fun v1 =>
if ((wI h b0 23 v1).1 a0 23) = 0 then (
b_X5_take_41 (wI h b0 23 v1) a0 ((wI h b0 23 v1).1 a0 22) (1 : Int32))
else (
b_X5_take_41 (wI h b0 23 v1) a0 ((wI h b0 23 v1).1 a0 22) (0 : Int32))
def b_X5_take_16 (h : Hp) (a0 : Nat) (b0 : Nat) : Option (Hp) :=
b_X5_take_21 h a0 b0 (1 : Int32)
def sh_X5_take (h : Hp) (a0 : Nat) (x1 : Int32) : Option (Hp) :=
if (h.1 a0 23) = 0 then (
Option.bind (sh_X5_here h a0) fun v1 =>
if v1 = x1 then (
b_X5_take_21 h a0 a0 (0 : Int32))
else (
b_X5_take_16 h a0 a0))
else (
b_X5_take_16 h a0 a0)
def b_X5_readStatement_172 (h : Hp) (a0 : Nat) : Option (Hp) :=
Option.bind (sh_X5_take h a0 (59 : Int32)) fun h1 =>
some (wI h1 a0 24 ((h1.1 a0 24) + (1 : Int32)))
def b_X5_readStatement_171 (h : Hp) (a0 : Nat) (b0 : Nat) (s1 : Int32) (s2 : Int32) : Option (Hp) :=
Option.bind (stI h b0 s1 s2) fun h1 =>
b_X5_readStatement_172 h1 a0
def b_X5_readStatement_116 (h : Hp) (a0 : Nat) (x1 : Int32) (x2 : Int32) : Option (Hp) :=
if (h.1 a0 23) = 0 then (
if x2 = (112 : Int32) then (
Option.bind (sh_X5_readNumber h a0 (4 : Int32)) fun q1 =>
Option.bind (stI q1.2 (rf a0 27) (x1 + (3 : Int32)) q1.1) fun h2 =>
Option.bind (sh_X5_take h2 a0 (44 : Int32)) fun h3 =>
if (h3.1 a0 23) = 0 then (
Option.bind (sh_X5_readNumber h3 a0 (2 : Int32)) fun q4 =>
b_X5_readStatement_171 q4.2 a0 (rf a0 27) (x1 + (4 : Int32)) q4.1)
else (
b_X5_readStatement_171 h3 a0 (rf a0 27) (x1 + (4 : Int32)) (0 : Int32)))
else (
b_X5_readStatement_172 h a0))
else (
b_X5_readStatement_172 h a0)
def f_X5_readStatement_86 (k86 : Hp → Nat → Int32 → Int32 → Int32 → Option (Hp)) (h : Hp) (a0 : Nat) (x1 : Int32) (x2 : Int32) (x3 : Int32) : Option (Hp) :=
if (3 : Int32) ≤ x3 then (
b_X5_readStatement_116 h a0 x1 x2)
else (
if (h.1 a0 23) = 0 then (
Option.bind (sh_X5_readDigit h a0) fun q1 =>
Option.bind (stI q1.2 (rf a0 27) (x1 + x3) q1.1) fun h2 =>
k86 h2 a0 x1 x2 (x3 + (1 : Int32)))
else (
b_X5_readStatement_116 h a0 x1 x2))
def b_X5_readStatement_86 : Nat → Hp → Nat → Int32 → Int32 → Int32 → Option (Hp)
  | 0 => fun _ _ _ _ _ => none
  | n + 1 => f_X5_readStatement_86  (b_X5_readStatement_86  n)
def b_X5_readStatement_80 (h : Hp) (a0 : Nat) (x1 : Int32) (x2 : Int32) (b0 : Nat) (s1 : Int32) (s2 : Int32) : Option (Hp) :=
b_X5_readStatement_86 1000 (wI h b0 22 (s1 + s2)) a0 x1 x2 (0 : Int32)
def b_X5_readStatement_60 (h : Hp) (a0 : Nat) (x1 : Int32) (x2 : Int32) (b0 : Nat) (s1 : Int32) : Option (Hp) :=
Option.bind (bol s1) fun v1 =>
if ((wI h b0 23 v1).1 a0 23) = 0 then (
b_X5_readStatement_80 (wI h b0 23 v1) a0 x1 x2 a0 ((wI h b0 23 v1).1 a0 22) (1 : Int32))
else (
b_X5_readStatement_80 (wI h b0 23 v1) a0 x1 x2 a0 ((wI h b0 23 v1).1 a0 22) (0 : Int32))
def b_X5_readStatement_55 (h : Hp) (a0 : Nat) (x1 : Int32) (x2 : Int32) (b0 : Nat) : Option (Hp) :=
b_X5_readStatement_60 h a0 x1 x2 b0 (1 : Int32)
def b_X5_readStatement_59 (h : Hp) (a0 : Nat) (x1 : Int32) (x2 : Int32) (b0 : Nat) : Option (Hp) :=
b_X5_readStatement_60 h a0 x1 x2 b0 (0 : Int32)
def sh_X5_readStatement (h : Hp) (a0 : Nat) : Option (Hp) :=
Option.bind (sh_X5_here h a0) fun v1 =>
Option.bind (stI h (rf a0 25) (h.1 a0 24) (h.1 a0 22)) fun h2 =>
Option.bind (stI h2 (rf a0 26) (h2.1 a0 24) v1) fun h3 =>
if (h3.1 a0 23) = 0 then (
if v1 = (112 : Int32) then (
b_X5_readStatement_59 h3 a0 ((5 : Int32) * (h.1 a0 24)) v1 a0)
else (
if v1 = (108 : Int32) then (
b_X5_readStatement_59 h3 a0 ((5 : Int32) * (h.1 a0 24)) v1 a0)
else (
b_X5_readStatement_55 h3 a0 ((5 : Int32) * (h.1 a0 24)) v1 a0)))
else (
b_X5_readStatement_55 h3 a0 ((5 : Int32) * (h.1 a0 24)) v1 a0)
def b_X5_isGood_73 (h : Hp) (s0 : Int32) : Option (Int32 × Hp) :=
Option.bind (bol s0) fun v1 =>
some (v1, h)
def b_X5_isGood_72 (h : Hp) : Option (Int32 × Hp) :=
b_X5_isGood_73 h (0 : Int32)
def b_X5_isGood_117 (h : Hp) (a0 : Nat) (s0 : Int32) : Option (Int32 × Hp) :=
Option.bind (bol s0) fun v1 =>
some (v1, (wI h a0 28 ((h.1 a0 28) + (1 : Int32))))
def b_X5_isGood_116 (h : Hp) (a0 : Nat) : Option (Int32 × Hp) :=
b_X5_isGood_117 h a0 (0 : Int32)
def b_X5_isGood_96 (h : Hp) (a0 : Nat) : Option (Int32 × Hp) :=
if (6 : Int32) ≤ (h.1 a0 28) then (
b_X5_isGood_116 h a0)
else (
if (h.1 a0 1) = 0 then (
b_X5_isGood_117 h a0 (1 : Int32))
else (
b_X5_isGood_116 h a0))
def sh_X5_isGood (h : Hp) (a0 : Nat) (x1 : Int32) : Option (Int32 × Hp) :=
Option.bind (ldI h (rf a0 27) ((5 : Int32) * x1)) fun v1 =>
Option.bind (ldI h (rf a0 27) (((5 : Int32) * x1) + (1 : Int32))) fun v2 =>
Option.bind (ldI h (rf a0 27) (((5 : Int32) * x1) + (2 : Int32))) fun v3 =>
Option.bind (ldI h (rf a0 26) x1) fun v4 =>
if v4 = (108 : Int32) then (
if (6 : Int32) ≤ v1 then (
b_X5_isGood_72 h)
else (
Option.bind (sh_X5_in h (v2).toInt64 (1 : Int64) (5 : Int64)) fun v5 =>
if v5 = 0 then (
b_X5_isGood_72 h)
else (
if (6 : Int32) ≤ v3 then (
b_X5_isGood_72 h)
else (
b_X5_isGood_73 h (1 : Int32)))))
else (
if (8 : Int32) ≤ v1 then (
b_X5_isGood_116 h a0)
else (
if v3 = (9 : Int32) then (
b_X5_isGood_96 h a0)
else (
if (h.1 a0 28) < v3 then (
b_X5_isGood_116 h a0)
else (
b_X5_isGood_96 h a0))))
def sh_X5_comes (h : Hp) (a0 : Nat) (x1 : Int32) : Option (Hp) :=
Option.bind (ldI h (rf a0 26) x1) fun v1 =>
if v1 = (108 : Int32) then (
Option.bind (ldI h (rf a0 27) ((5 : Int32) * x1)) fun v2 =>
Option.bind (ldI (wI h a0 2 v2) (rf a0 27) (((5 : Int32) * x1) + (1 : Int32))) fun v3 =>
Option.bind (ldI (wI (wI h a0 2 v2) a0 3 v3) (rf a0 27) (((5 : Int32) * x1) + (2 : Int32))) fun v4 =>
some (wI (wI (wI h a0 2 v2) a0 3 v3) a0 4 v4))
else (
Option.bind (ldI h (rf a0 27) ((5 : Int32) * x1)) fun v5 =>
Option.bind (stI h (rf a0 6) (h.1 a0 0) v5) fun h6 =>
Option.bind (ldI h6 (rf a0 27) (((5 : Int32) * x1) + (1 : Int32))) fun v7 =>
Option.bind (stI h6 (rf a0 7) (h6.1 a0 0) v7) fun h8 =>
Option.bind (ldI h8 (rf a0 27) (((5 : Int32) * x1) + (2 : Int32))) fun v9 =>
Option.bind (stI h8 (rf a0 9) (h8.1 a0 0) v9) fun h10 =>
Option.bind (ldI h10 (rf a0 27) (((5 : Int32) * x1) + (3 : Int32))) fun v11 =>
Option.bind (stI h10 (rf a0 10) (h10.1 a0 0) v11) fun h12 =>
Option.bind (ldI h12 (rf a0 27) (((5 : Int32) * x1) + (4 : Int32))) fun v13 =>
Option.bind (stI h12 (rf a0 8) (h12.1 a0 0) v13) fun h14 =>
some (wI h14 a0 0 ((h14.1 a0 0) + (1 : Int32))))
def b_X5_land_45 (k20 : Hp → Nat → Option (Int32 × Hp)) (h : Hp) (a0 : Nat) : Option (Int32 × Hp) :=
Option.bind (sh_X5_readStatement h a0) fun h1 =>
k20 h1 a0
def f_X5_land_118 (k118 : Hp → Nat → Int32 → Option (Int32 × Hp)) (h : Hp) (a0 : Nat) (x1 : Int32) : Option (Int32 × Hp) :=
if (h.1 a0 24) ≤ x1 then (
some ((h.1 a0 24), h))
else (
Option.bind (sh_X5_comes h a0 x1) fun h1 =>
k118 h1 a0 (x1 + (1 : Int32)))
def b_X5_land_118 : Nat → Hp → Nat → Int32 → Option (Int32 × Hp)
  | 0 => fun _ _ _ => none
  | n + 1 => f_X5_land_118  (b_X5_land_118  n)
def f_X5_land_83 (k83 : Hp → Nat → Int32 → Option (Int32 × Hp)) (h : Hp) (a0 : Nat) (x1 : Int32) : Option (Int32 × Hp) :=
if (h.1 a0 24) ≤ x1 then (
b_X5_land_118 1000 h a0 (0 : Int32))
else (
Option.bind (sh_X5_isGood h a0 x1) fun q1 =>
if q1.1 = 0 then (
Option.bind (ldI q1.2 (rf a0 25) x1) fun v2 =>
some (((-2000 : Int32) - v2), q1.2))
else (
k83 q1.2 a0 (x1 + (1 : Int32))))
def b_X5_land_83 : Nat → Hp → Nat → Int32 → Option (Int32 × Hp)
  | 0 => fun _ _ _ => none
  | n + 1 => f_X5_land_83  (b_X5_land_83  n)
def b_X5_land_52 (h : Hp) (a0 : Nat) : Option (Int32 × Hp) :=
if ((wI h a0 21 (0 : Int32)).1 a0 23) = 0 then (
b_X5_land_83 1000 (wI (wI h a0 21 (0 : Int32)) a0 28 ((wI h a0 21 (0 : Int32)).1 a0 0)) a0 (0 : Int32))
else (
some (((-1000 : Int32) - ((wI h a0 21 (0 : Int32)).1 a0 22)), (wI h a0 21 (0 : Int32))))
def f_X5_land_20 (k20 : Hp → Nat → Option (Int32 × Hp)) (h : Hp) (a0 : Nat) : Option (Int32 × Hp) :=
if (h.1 a0 23) = 0 then (
if (h.1 a0 24) = 0 then (
b_X5_land_45 k20 h a0)
else (
if (h.1 a0 21) ≤ (h.1 a0 22) then (
b_X5_land_52 h a0)
else (
b_X5_land_45 k20 h a0)))
else (
b_X5_land_52 h a0)
def b_X5_land_20 : Nat → Hp → Nat → Option (Int32 × Hp)
  | 0 => fun _ _ => none
  | n + 1 => f_X5_land_20  (b_X5_land_20  n)
def sh_X5_land (h : Hp) (a0 : Nat) : Option (Int32 × Hp) :=
b_X5_land_20 1000 (wI (wI (wI (wI h a0 13 (0 : Int32)) a0 22 (0 : Int32)) a0 23 (0 : Int32)) a0 24 (0 : Int32)) a0
def sh_X5_isOne (h : Hp) (a0 : Nat) (x1 : Int32) : Option (Int32) :=
Option.bind (sh_X5_in h (x1).toInt64 (0 : Int64) (((h.1 a0 0) - (1 : Int32))).toInt64) fun v1 =>
Option.bind (bol v1) fun v2 =>
some v2
def b_X5_gift_38 (h : Hp) (s0 : Int32) : Option (Int32) :=
some s0
def b_X5_gift_15 (h : Hp) : Option (Int32) :=
b_X5_gift_38 h (0 : Int32)
def sh_X5_gift (h : Hp) (a0 : Nat) (x1 : Int32) (x2 : Int32) (x3 : Int32) : Option (Int32) :=
if x1 < 0 then (
b_X5_gift_15 h)
else (
if ((h.1 a0 1) - (10 : Int32)) ≤ x1 then (
Option.bind (ldI h (rf a0 11) ((((42 : Int32) * (x1 - x1 / (11 : Int32) * (11 : Int32))) + ((7 : Int32) * x2)) + x3)) fun v1 =>
b_X5_gift_38 h v1)
else (
b_X5_gift_15 h))
def f_X5_got_5 (k5 : Hp → Nat → Int32 → Int32 → Int32 → Int32 → Option (Int32)) (h : Hp) (a0 : Nat) (x1 : Int32) (x2 : Int32) (x3 : Int32) (x4 : Int32) : Option (Int32) :=
if (h.1 a0 0) ≤ x4 then (
some x3)
else (
Option.bind (sh_X5_gift h a0 x1 x4 x2) fun v1 =>
k5 h a0 x1 x2 (x3 + v1) (x4 + (1 : Int32)))
def b_X5_got_5 : Nat → Hp → Nat → Int32 → Int32 → Int32 → Int32 → Option (Int32)
  | 0 => fun _ _ _ _ _ _ => none
  | n + 1 => f_X5_got_5  (b_X5_got_5  n)
def sh_X5_got (h : Hp) (a0 : Nat) (x1 : Int32) (x2 : Int32) : Option (Int32) :=
b_X5_got_5 1000 h a0 x1 x2 (0 : Int32) (0 : Int32)
def b_X5_cameBack_45 (k11 : Hp → Nat → Int32 → Int32 → Int32 → Int32 → Int32 → Option (Int32)) (h : Hp) (a0 : Nat) (x1 : Int32) (x2 : Int32) (x3 : Int32) (x5 : Int32) (s0 : Int32) : Option (Int32) :=
k11 h a0 x1 x2 x3 s0 (x5 + (1 : Int32))
def b_X5_cameBack_40 (k11 : Hp → Nat → Int32 → Int32 → Int32 → Int32 → Int32 → Option (Int32)) (h : Hp) (a0 : Nat) (x1 : Int32) (x2 : Int32) (x3 : Int32) (x5 : Int32) : Option (Int32) :=
b_X5_cameBack_45 k11 h a0 x1 x2 x3 x5 (1 : Int32)
def b_X5_cameBack_53 (h : Hp) (x4 : Int32) : Option (Int32) :=
Option.bind (bol x4) fun v1 =>
some v1
def f_X5_cameBack_11 (k11 : Hp → Nat → Int32 → Int32 → Int32 → Int32 → Int32 → Option (Int32)) (h : Hp) (a0 : Nat) (x1 : Int32) (x2 : Int32) (x3 : Int32) (x4 : Int32) (x5 : Int32) : Option (Int32) :=
if x1 < x5 then (
b_X5_cameBack_53 h x4)
else (
if (h.1 a0 4) ≤ 0 then (
b_X5_cameBack_53 h x4)
else (
if x4 = 0 then (
Option.bind (sh_X5_gift h a0 x5 x3 x2) fun v1 =>
if v1 ≤ 0 then (
b_X5_cameBack_45 k11 h a0 x1 x2 x3 x5 (0 : Int32))
else (
b_X5_cameBack_40 k11 h a0 x1 x2 x3 x5))
else (
b_X5_cameBack_40 k11 h a0 x1 x2 x3 x5)))
def b_X5_cameBack_11 : Nat → Hp → Nat → Int32 → Int32 → Int32 → Int32 → Int32 → Option (Int32)
  | 0 => fun _ _ _ _ _ _ _ => none
  | n + 1 => f_X5_cameBack_11  (b_X5_cameBack_11  n)
def sh_X5_cameBack (h : Hp) (a0 : Nat) (x1 : Int32) (x2 : Int32) (x3 : Int32) : Option (Int32) :=
b_X5_cameBack_11 1000 h a0 x1 x2 x3 (0 : Int32) (x1 - (h.1 a0 4))
def b_X5_counted_54 (k12 : Hp → Nat → Int32 → Int32 → Int32 → Int32 → Option (Int32)) (h : Hp) (a0 : Nat) (x1 : Int32) (x2 : Int32) (x4 : Int32) (s0 : Int32) (s1 : Int32) : Option (Int32) :=
k12 h a0 x1 x2 (s0 + s1) (x4 + (1 : Int32))
def b_X5_counted_53 (k12 : Hp → Nat → Int32 → Int32 → Int32 → Int32 → Option (Int32)) (h : Hp) (a0 : Nat) (x1 : Int32) (x2 : Int32) (x4 : Int32) (s0 : Int32) : Option (Int32) :=
b_X5_counted_54 k12 h a0 x1 x2 x4 s0 (0 : Int32)
def f_X5_counted_12 (k12 : Hp → Nat → Int32 → Int32 → Int32 → Int32 → Option (Int32)) (h : Hp) (a0 : Nat) (x1 : Int32) (x2 : Int32) (x3 : Int32) (x4 : Int32) : Option (Int32) :=
if (h.1 a0 0) ≤ x4 then (
some x3)
else (
Option.bind (sh_X5_gift h a0 x1 x2 x4) fun v1 =>
if v1 ≤ 0 then (
b_X5_counted_53 k12 h a0 x1 x2 x4 x3)
else (
Option.bind (sh_X5_cameBack h a0 x1 x2 x4) fun v2 =>
if v2 = 0 then (
b_X5_counted_54 k12 h a0 x1 x2 x4 x3 v1)
else (
b_X5_counted_53 k12 h a0 x1 x2 x4 x3)))
def b_X5_counted_12 : Nat → Hp → Nat → Int32 → Int32 → Int32 → Int32 → Option (Int32)
  | 0 => fun _ _ _ _ _ _ => none
  | n + 1 => f_X5_counted_12  (b_X5_counted_12  n)
def sh_X5_counted (h : Hp) (a0 : Nat) (x1 : Int32) (x2 : Int32) : Option (Int32) :=
Option.bind (sh_X5_gift h a0 x1 x2 (6 : Int32)) fun v1 =>
b_X5_counted_12 1000 h a0 x1 x2 v1 (0 : Int32)
def b_X5_lesser_10 (h : Hp) (s0 : Int32) : Option (Int32) :=
some s0
def sh_X5_lesser (h : Hp) (x0 : Int32) (x1 : Int32) : Option (Int32) :=
if x1 ≤ x0 then (
b_X5_lesser_10 h x1)
else (
b_X5_lesser_10 h x0)
def b_X5_leave_77 (k35 : Hp → Nat → Int32 → Int32 → Int32 → Int32 → Int32 → Option (Int32)) (h : Hp) (a0 : Nat) (x1 : Int32) (x2 : Int32) (x3 : Int32) (x5 : Int32) (s0 : Int32) : Option (Int32) :=
k35 h a0 x1 x2 x3 s0 (x5 + (1 : Int32))
def b_X5_leave_184 (h : Hp) (s0 : Int32) : Option (Int32) :=
Option.bind (sh_X5_lesser h s0 (9999 : Int32)) fun v1 =>
some v1
def b_X5_leave_164 (h : Hp) (a0 : Nat) (s0 : Int32) : Option (Int32) :=
if (h.1 a0 5) ≤ s0 then (
b_X5_leave_184 h s0)
else (
b_X5_leave_184 h (h.1 a0 5))
def f_X5_leave_35 (k35 : Hp → Nat → Int32 → Int32 → Int32 → Int32 → Int32 → Option (Int32)) (h : Hp) (a0 : Nat) (x1 : Int32) (x2 : Int32) (x3 : Int32) (x4 : Int32) (x5 : Int32) : Option (Int32) :=
if (h.1 a0 3) < x5 then (
if (h.1 a0 2) = 0 then (
b_X5_leave_164 h a0 x2)
else (
if (h.1 a0 2) = (1 : Int32) then (
b_X5_leave_164 h a0 ((x2 + (1 : Int32)) / (2 : Int32)))
else (
if (h.1 a0 2) = (2 : Int32) then (
b_X5_leave_164 h a0 ((2 : Int32) * x2))
else (
if (h.1 a0 2) = (3 : Int32) then (
b_X5_leave_164 h a0 x3)
else (
if (h.1 a0 2) = (4 : Int32) then (
b_X5_leave_164 h a0 x4)
else (
Option.bind (ldI h (rf a0 7) x1) fun v1 =>
b_X5_leave_164 h a0 (((x2 + (1 : Int32)) / (2 : Int32)) + v1)))))))
else (
Option.bind (sh_X5_counted h a0 ((h.1 a0 1) - x5) x1) fun v2 =>
if v2 ≤ x4 then (
b_X5_leave_77 k35 h a0 x1 x2 (x3 + v2) x5 x4)
else (
b_X5_leave_77 k35 h a0 x1 x2 (x3 + v2) x5 v2))
def b_X5_leave_35 : Nat → Hp → Nat → Int32 → Int32 → Int32 → Int32 → Int32 → Option (Int32)
  | 0 => fun _ _ _ _ _ _ _ => none
  | n + 1 => f_X5_leave_35  (b_X5_leave_35  n)
def sh_X5_leave (h : Hp) (a0 : Nat) (x1 : Int32) : Option (Int32) :=
Option.bind (ldI h (rf a0 6) x1) fun v1 =>
if v1 = (7 : Int32) then (
some (9999 : Int32))
else (
Option.bind (sh_X5_counted h a0 ((h.1 a0 1) - (1 : Int32)) x1) fun v2 =>
b_X5_leave_35 1000 h a0 x1 v2 (0 : Int32) (0 : Int32) (1 : Int32))
def f_X5_given_5 (k5 : Hp → Nat → Int32 → Int32 → Int32 → Int32 → Option (Int32)) (h : Hp) (a0 : Nat) (x1 : Int32) (x2 : Int32) (x3 : Int32) (x4 : Int32) : Option (Int32) :=
if (7 : Int32) ≤ x4 then (
some x3)
else (
Option.bind (sh_X5_gift h a0 x1 x2 x4) fun v1 =>
k5 h a0 x1 x2 (x3 + v1) (x4 + (1 : Int32)))
def b_X5_given_5 : Nat → Hp → Nat → Int32 → Int32 → Int32 → Int32 → Option (Int32)
  | 0 => fun _ _ _ _ _ _ => none
  | n + 1 => f_X5_given_5  (b_X5_given_5  n)
def sh_X5_given (h : Hp) (a0 : Nat) (x1 : Int32) (x2 : Int32) : Option (Int32) :=
b_X5_given_5 1000 h a0 x1 x2 (0 : Int32) (0 : Int32)
def b_X5_person_40 (h : Hp) (b0 : Nat) (s1 : Int32) : Option (Int32 × Hp) :=
Option.bind (sh_X5_refuse h b0 s1) fun q1 =>
some (q1.1, q1.2)
def b_X5_person_25 (h : Hp) (a0 : Nat) (x1 : Int32) : Option (Int32 × Hp) :=
Option.bind (sh_X5_isOne h a0 x1) fun v1 =>
if v1 = 0 then (
b_X5_person_40 h a0 (-1 : Int32))
else (
b_X5_person_40 h a0 (-2 : Int32))
def sh_X5_person (h : Hp) (a0 : Nat) (x1 : Int32) (x2 : Int32) : Option (Int32 × Hp) :=
Option.bind (sh_X5_isOne (wI h a0 13 (0 : Int32)) a0 x1) fun v1 =>
if v1 = 0 then (
b_X5_person_25 (wI h a0 13 (0 : Int32)) a0 x1)
else (
Option.bind (sh_X5_in (wI h a0 13 (0 : Int32)) (x2).toInt64 (0 : Int64) (8 : Int64)) fun v2 =>
if v2 = 0 then (
b_X5_person_25 (wI h a0 13 (0 : Int32)) a0 x1)
else (
if x2 = (0 : Int32) then (
Option.bind (ldI (wI h a0 13 (0 : Int32)) (rf a0 6) x1) fun v3 =>
some (v3, (wI h a0 13 (0 : Int32))))
else if x2 = (1 : Int32) then (
Option.bind (ldI (wI h a0 13 (0 : Int32)) (rf a0 7) x1) fun v4 =>
some (v4, (wI h a0 13 (0 : Int32))))
else if x2 = (2 : Int32) then (
Option.bind (ldI (wI h a0 13 (0 : Int32)) (rf a0 9) x1) fun v5 =>
some (v5, (wI h a0 13 (0 : Int32))))
else if x2 = (3 : Int32) then (
Option.bind (ldI (wI h a0 13 (0 : Int32)) (rf a0 10) x1) fun v6 =>
some (v6, (wI h a0 13 (0 : Int32))))
else if x2 = (4 : Int32) then (
Option.bind (ldI (wI h a0 13 (0 : Int32)) (rf a0 8) x1) fun v7 =>
some (v7, (wI h a0 13 (0 : Int32))))
else if x2 = (5 : Int32) then (
Option.bind (sh_X5_got (wI h a0 13 (0 : Int32)) a0 ((wI h a0 13 (0 : Int32)).1 a0 1) x1) fun v8 =>
some (v8, (wI h a0 13 (0 : Int32))))
else if x2 = (6 : Int32) then (
Option.bind (sh_X5_leave (wI h a0 13 (0 : Int32)) a0 x1) fun v9 =>
some (v9, (wI h a0 13 (0 : Int32))))
else if x2 = (7 : Int32) then (
Option.bind (sh_X5_given (wI h a0 13 (0 : Int32)) a0 ((wI h a0 13 (0 : Int32)).1 a0 1) x1) fun v10 =>
some (v10, (wI h a0 13 (0 : Int32))))
else (
Option.bind (sh_X5_counted (wI h a0 13 (0 : Int32)) a0 (((wI h a0 13 (0 : Int32)).1 a0 1) - (1 : Int32)) x1) fun v11 =>
some (v11, (wI h a0 13 (0 : Int32))))))
def b_X5_put_40 (h : Hp) (b0 : Nat) (s1 : Int32) : Option (Int32 × Hp) :=
Option.bind (sh_X5_refuse h b0 s1) fun q1 =>
some (q1.1, q1.2)
def b_X5_put_25 (h : Hp) (a0 : Nat) (x1 : Int32) : Option (Int32 × Hp) :=
Option.bind (sh_X5_isOne h a0 x1) fun v1 =>
if v1 = 0 then (
b_X5_put_40 h a0 (-1 : Int32))
else (
b_X5_put_40 h a0 (-2 : Int32))
def b_X5_put_69 (h : Hp) (a0 : Nat) (x1 : Int32) (x3 : Int32) : Option (Int32 × Hp) :=
Option.bind (ldI h (rf a0 9) x1) fun v1 =>
Option.bind (stI h (rf a0 9) x1 x3) fun h2 =>
some (v1, h2)
def b_X5_put_119 (h : Hp) (b0 : Nat) (s1 : Int32) : Option (Int32 × Hp) :=
Option.bind (sh_X5_refuse h b0 s1) fun q1 =>
some (q1.1, q1.2)
def b_X5_put_107 (h : Hp) (a0 : Nat) (x3 : Int32) : Option (Int32 × Hp) :=
if 0 ≤ x3 then (
b_X5_put_119 h a0 (-6 : Int32))
else (
b_X5_put_119 h a0 (-4 : Int32))
def b_X5_put_184 (h : Hp) (x4 : Int32) (b0 : Nat) (s1 : Int32) (s2 : Int32) : Option (Int32 × Hp) :=
Option.bind (stI h b0 s1 s2) fun h1 =>
some (x4, h1)
def b_X5_put_163 (h : Hp) (a0 : Nat) (x1 : Int32) (x2 : Int32) (x3 : Int32) (x4 : Int32) (b0 : Nat) (s1 : Int32) (s2 : Int32) : Option (Int32 × Hp) :=
Option.bind (stI h b0 s1 s2) fun h1 =>
if x2 = (1 : Int32) then (
b_X5_put_184 h1 x4 (rf a0 8) x1 x3)
else (
Option.bind (ldI h1 (rf a0 8) x1) fun v2 =>
b_X5_put_184 h1 x4 (rf a0 8) x1 v2)
def b_X5_put_142 (h : Hp) (a0 : Nat) (x1 : Int32) (x2 : Int32) (x3 : Int32) (s0 : Int32) : Option (Int32 × Hp) :=
if x2 = 0 then (
b_X5_put_163 h a0 x1 x2 x3 s0 (rf a0 10) x1 x3)
else (
Option.bind (ldI h (rf a0 10) x1) fun v1 =>
b_X5_put_163 h a0 x1 x2 x3 s0 (rf a0 10) x1 v1)
def b_X5_put_104 (h : Hp) (a0 : Nat) (x1 : Int32) (x2 : Int32) (x3 : Int32) (s0 : Int32) (s1 : Int32) : Option (Int32 × Hp) :=
if s0 ≤ s1 then (
if x2 = 0 then (
Option.bind (ldI h (rf a0 10) x1) fun v1 =>
b_X5_put_142 h a0 x1 x2 x3 v1)
else (
Option.bind (ldI h (rf a0 8) x1) fun v2 =>
b_X5_put_142 h a0 x1 x2 x3 v2))
else (
b_X5_put_107 h a0 x3)
def sh_X5_put (h : Hp) (a0 : Nat) (x1 : Int32) (x2 : Int32) (x3 : Int32) : Option (Int32 × Hp) :=
Option.bind (sh_X5_isOne (wI h a0 13 (0 : Int32)) a0 x1) fun v1 =>
if v1 = 0 then (
b_X5_put_25 (wI h a0 13 (0 : Int32)) a0 x1)
else (
Option.bind (sh_X5_in (wI h a0 13 (0 : Int32)) (x2).toInt64 (0 : Int64) (2 : Int64)) fun v2 =>
if v2 = 0 then (
b_X5_put_25 (wI h a0 13 (0 : Int32)) a0 x1)
else (
if x2 = (2 : Int32) then (
Option.bind (sh_X5_isOne (wI h a0 13 (0 : Int32)) a0 x3) fun v3 =>
if v3 = 0 then (
if x3 = (9 : Int32) then (
b_X5_put_69 (wI h a0 13 (0 : Int32)) a0 x1 x3)
else (
Option.bind (sh_X5_refuse (wI h a0 13 (0 : Int32)) a0 (-1 : Int32)) fun q4 =>
some (q4.1, q4.2)))
else (
b_X5_put_69 (wI h a0 13 (0 : Int32)) a0 x1 x3))
else (
if x3 < 0 then (
b_X5_put_107 (wI h a0 13 (0 : Int32)) a0 x3)
else (
if x2 = 0 then (
b_X5_put_104 (wI h a0 13 (0 : Int32)) a0 x1 x2 x3 x3 (9999 : Int32))
else (
b_X5_put_104 (wI h a0 13 (0 : Int32)) a0 x1 x2 x3 x3 (99 : Int32))))))
def b_X5_set_66 (h : Hp) (b0 : Nat) (s1 : Int32) : Option (Int32 × Hp) :=
Option.bind (sh_X5_refuse h b0 s1) fun q1 =>
some (q1.1, q1.2)
def b_X5_set_53 (h : Hp) (a0 : Nat) (x2 : Int32) : Option (Int32 × Hp) :=
if (1 : Int32) ≤ x2 then (
b_X5_set_66 h a0 (-6 : Int32))
else (
b_X5_set_66 h a0 (-4 : Int32))
def b_X5_set_174 (h : Hp) (x3 : Int32) (b0 : Nat) (s1 : Int32) : Option (Int32 × Hp) :=
some (x3, (wI h b0 5 s1))
def b_X5_set_157 (h : Hp) (a0 : Nat) (x1 : Int32) (x2 : Int32) (x3 : Int32) (b0 : Nat) (s1 : Int32) : Option (Int32 × Hp) :=
if x1 = (3 : Int32) then (
b_X5_set_174 (wI h b0 4 s1) x3 a0 x2)
else (
b_X5_set_174 (wI h b0 4 s1) x3 a0 ((wI h b0 4 s1).1 a0 5))
def b_X5_set_140 (h : Hp) (a0 : Nat) (x1 : Int32) (x2 : Int32) (x3 : Int32) (b0 : Nat) (s1 : Int32) : Option (Int32 × Hp) :=
if x1 = (2 : Int32) then (
b_X5_set_157 (wI h b0 3 s1) a0 x1 x2 x3 a0 x2)
else (
b_X5_set_157 (wI h b0 3 s1) a0 x1 x2 x3 a0 ((wI h b0 3 s1).1 a0 4))
def b_X5_set_123 (h : Hp) (a0 : Nat) (x1 : Int32) (x2 : Int32) (x3 : Int32) (b0 : Nat) (s1 : Int32) : Option (Int32 × Hp) :=
if x1 = (1 : Int32) then (
b_X5_set_140 (wI h b0 2 s1) a0 x1 x2 x3 a0 x2)
else (
b_X5_set_140 (wI h b0 2 s1) a0 x1 x2 x3 a0 ((wI h b0 2 s1).1 a0 3))
def b_X5_set_109 (h : Hp) (a0 : Nat) (x1 : Int32) (x2 : Int32) (s0 : Int32) : Option (Int32 × Hp) :=
if x1 = 0 then (
b_X5_set_123 h a0 x1 x2 s0 a0 x2)
else (
b_X5_set_123 h a0 x1 x2 s0 a0 (h.1 a0 2))
def b_X5_set_50 (h : Hp) (a0 : Nat) (x1 : Int32) (x2 : Int32) (s0 : Int32) (s1 : Int32) : Option (Int32 × Hp) :=
if s0 ≤ s1 then (
if x1 = 0 then (
b_X5_set_109 h a0 x1 x2 (h.1 a0 2))
else (
if x1 = (1 : Int32) then (
b_X5_set_109 h a0 x1 x2 (h.1 a0 3))
else (
if x1 = (2 : Int32) then (
b_X5_set_109 h a0 x1 x2 (h.1 a0 4))
else (
b_X5_set_109 h a0 x1 x2 (h.1 a0 5)))))
else (
b_X5_set_53 h a0 x2)
def b_X5_set_35 (h : Hp) (a0 : Nat) (x1 : Int32) (x2 : Int32) (s0 : Int32) (s1 : Int32) : Option (Int32 × Hp) :=
if s0 < s1 then (
b_X5_set_53 h a0 x2)
else (
if x1 = (3 : Int32) then (
b_X5_set_50 h a0 x1 x2 x2 (99 : Int32))
else (
b_X5_set_50 h a0 x1 x2 x2 (5 : Int32)))
def sh_X5_set (h : Hp) (a0 : Nat) (x1 : Int32) (x2 : Int32) : Option (Int32 × Hp) :=
Option.bind (sh_X5_in (wI h a0 13 (0 : Int32)) (x1).toInt64 (0 : Int64) (3 : Int64)) fun v1 =>
if v1 = 0 then (
Option.bind (sh_X5_refuse (wI h a0 13 (0 : Int32)) a0 (-2 : Int32)) fun q2 =>
some (q2.1, q2.2))
else (
if x1 = (1 : Int32) then (
b_X5_set_35 (wI h a0 13 (0 : Int32)) a0 x1 x2 x2 (1 : Int32))
else (
b_X5_set_35 (wI h a0 13 (0 : Int32)) a0 x1 x2 x2 (0 : Int32)))
def b_X5_wrongGift_27 (h : Hp) : Option (Int32) :=
some (-1 : Int32)
def b_X5_wrongGift_55 (h : Hp) (s0 : Int32) : Option (Int32) :=
some s0
def b_X5_wrongGift_22 (h : Hp) (a0 : Nat) (x1 : Int32) (x2 : Int32) (x3 : Int32) : Option (Int32) :=
if x1 = x2 then (
b_X5_wrongGift_27 h)
else (
if (1 : Int32) ≤ x3 then (
Option.bind (ldI h (rf a0 10) x1) fun v1 =>
if x3 ≤ v1 then (
b_X5_wrongGift_55 h (0 : Int32))
else (
b_X5_wrongGift_55 h (-6 : Int32)))
else (
b_X5_wrongGift_55 h (-4 : Int32)))
def sh_X5_wrongGift (h : Hp) (a0 : Nat) (x1 : Int32) (x2 : Int32) (x3 : Int32) : Option (Int32) :=
Option.bind (sh_X5_isOne h a0 x1) fun v1 =>
if v1 = 0 then (
b_X5_wrongGift_27 h)
else (
Option.bind (sh_X5_isOne h a0 x2) fun v2 =>
if v2 = 0 then (
if x2 = (9 : Int32) then (
b_X5_wrongGift_22 h a0 x1 x2 x3)
else (
b_X5_wrongGift_27 h))
else (
b_X5_wrongGift_22 h a0 x1 x2 x3))
def sh_X5_addGift (h : Hp) (a0 : Nat) (x1 : Int32) (x2 : Int32) (x3 : Int32) : Option (Hp) :=
Option.bind (ldI h (rf a0 11) ((((42 : Int32) * ((h.1 a0 1) - (h.1 a0 1) / (11 : Int32) * (11 : Int32))) + ((7 : Int32) * x1)) + x2)) fun v1 =>
Option.bind (stI h (rf a0 11) ((((42 : Int32) * ((h.1 a0 1) - (h.1 a0 1) / (11 : Int32) * (11 : Int32))) + ((7 : Int32) * x1)) + x2) (v1 + x3)) fun h2 =>
Option.bind (ldI h2 (rf a0 10) x1) fun v3 =>
Option.bind (stI h2 (rf a0 10) x1 (v3 - x3)) fun h4 =>
some h4
def b_X5_give_40 (h : Hp) (a0 : Nat) (x1 : Int32) (x3 : Int32) (b0 : Nat) (s1 : Int32) (s2 : Int32) : Option (Int32 × Hp) :=
Option.bind (sh_X5_addGift h b0 s1 s2 x3) fun h1 =>
Option.bind (ldI h1 (rf a0 10) x1) fun v2 =>
some (v2, h1)
def sh_X5_give (h : Hp) (a0 : Nat) (x1 : Int32) (x2 : Int32) (x3 : Int32) : Option (Int32 × Hp) :=
Option.bind (sh_X5_wrongGift (wI h a0 13 (0 : Int32)) a0 x1 x2 x3) fun v1 =>
if 0 ≤ v1 then (
if x2 = (9 : Int32) then (
b_X5_give_40 (wI h a0 13 (0 : Int32)) a0 x1 x3 a0 x1 (6 : Int32))
else (
b_X5_give_40 (wI h a0 13 (0 : Int32)) a0 x1 x3 a0 x1 x2))
else (
Option.bind (sh_X5_refuse (wI h a0 13 (0 : Int32)) a0 v1) fun q2 =>
some (q2.1, q2.2))
def f_X5_endDay_121 (k121 : Hp → Nat → Int32 → Option (Hp)) (h : Hp) (a0 : Nat) (x1 : Int32) : Option (Hp) :=
if (42 : Int32) ≤ x1 then (
some h)
else (
Option.bind (stI h (rf a0 11) (((42 : Int32) * ((h.1 a0 1) - (h.1 a0 1) / (11 : Int32) * (11 : Int32))) + x1) (0 : Int32)) fun h1 =>
k121 h1 a0 (x1 + (1 : Int32)))
def b_X5_endDay_121 : Nat → Hp → Nat → Int32 → Option (Hp)
  | 0 => fun _ _ _ => none
  | n + 1 => f_X5_endDay_121  (b_X5_endDay_121  n)
def f_X5_endDay_80 (k80 : Hp → Nat → Int32 → Option (Hp)) (h : Hp) (a0 : Nat) (x1 : Int32) : Option (Hp) :=
if (h.1 a0 0) ≤ x1 then (
b_X5_endDay_121 1000 (wI h a0 1 ((h.1 a0 1) + (1 : Int32))) a0 (0 : Int32))
else (
Option.bind (ldI h (rf a0 10) x1) fun v1 =>
Option.bind (ldI h (rf a0 15) x1) fun v2 =>
Option.bind (stI h (rf a0 10) x1 (v1 + v2)) fun h3 =>
k80 h3 a0 (x1 + (1 : Int32)))
def b_X5_endDay_80 : Nat → Hp → Nat → Int32 → Option (Hp)
  | 0 => fun _ _ _ => none
  | n + 1 => f_X5_endDay_80  (b_X5_endDay_80  n)
def f_X5_endDay_2 (k2 : Hp → Nat → Int32 → Option (Hp)) (h : Hp) (a0 : Nat) (x1 : Int32) : Option (Hp) :=
if (h.1 a0 0) ≤ x1 then (
b_X5_endDay_80 1000 h a0 (0 : Int32))
else (
Option.bind (sh_X5_got h a0 (h.1 a0 1) x1) fun v1 =>
Option.bind (ldI h (rf a0 8) x1) fun v2 =>
Option.bind (sh_X5_leave h a0 x1) fun v3 =>
Option.bind (sh_X5_lesser h v3 (v1 + v2)) fun v4 =>
Option.bind (ldI h (rf a0 10) x1) fun v5 =>
Option.bind (sh_X5_lesser h v4 ((9999 : Int32) - v5)) fun v6 =>
Option.bind (stI h (rf a0 15) x1 v6) fun h7 =>
Option.bind (ldI h7 (rf a0 15) x1) fun v8 =>
k2 (wI h7 a0 12 ((h7.1 a0 12) + ((v1 + v2) - v8))) a0 (x1 + (1 : Int32)))
def b_X5_endDay_2 : Nat → Hp → Nat → Int32 → Option (Hp)
  | 0 => fun _ _ _ => none
  | n + 1 => f_X5_endDay_2  (b_X5_endDay_2  n)
def sh_X5_endDay (h : Hp) (a0 : Nat) : Option (Hp) :=
b_X5_endDay_2 1000 h a0 (0 : Int32)
def sh_X5_evening (h : Hp) (a0 : Nat) : Option (Int32 × Hp) :=
if ((wI h a0 13 (0 : Int32)).1 a0 1) = (999 : Int32) then (
Option.bind (sh_X5_refuse (wI h a0 13 (0 : Int32)) a0 (-6 : Int32)) fun q1 =>
some (q1.1, q1.2))
else (
Option.bind (sh_X5_endDay (wI h a0 13 (0 : Int32)) a0) fun h2 =>
some ((h2.1 a0 1), h2))
def b_X5_target_53 (h : Hp) (s0 : Int32) : Option (Int32) :=
some s0
def b_X5_target_47 (h : Hp) (a0 : Nat) (x1 : Int32) : Option (Int32) :=
Option.bind (ldI h (rf a0 9) x1) fun v1 =>
b_X5_target_53 h v1
def sh_X5_target (h : Hp) (a0 : Nat) (x1 : Int32) : Option (Int32) :=
Option.bind (ldI h (rf a0 6) x1) fun v1 =>
if v1 = (4 : Int32) then (
Option.bind (rmI (x1 + (1 : Int32)) (h.1 a0 0)) fun v2 =>
b_X5_target_53 h v2)
else (
Option.bind (ldI h (rf a0 6) x1) fun v3 =>
if v3 = (6 : Int32) then (
if ((h.1 a0 1) - (h.1 a0 1) / (2 : Int32) * (2 : Int32)) = (1 : Int32) then (
b_X5_target_53 h (9 : Int32))
else (
b_X5_target_47 h a0 x1))
else (
b_X5_target_47 h a0 x1))
def sh_X5_grown (h : Hp) (a0 : Nat) (x1 : Int32) : Option (Int32) :=
Option.bind (ldI h (rf a0 10) x1) fun v1 =>
Option.bind (ldI h (rf a0 8) x1) fun v2 =>
Option.bind (sh_X5_got h a0 ((h.1 a0 1) - (1 : Int32)) x1) fun v3 =>
Option.bind (sh_X5_lesser h v1 (v2 + v3)) fun v4 =>
some v4
def b_X5_byKind_60 (h : Hp) (a0 : Nat) (x1 : Int32) : Option (Int32) :=
Option.bind (ldI h (rf a0 10) x1) fun v1 =>
some v1
def b_X5_byKind_107 (h : Hp) (s0 : Int32) : Option (Int32) :=
some s0
def b_X5_byKind_136 (h : Hp) (s0 : Int32) : Option (Int32) :=
some s0
def sh_X5_byKind (h : Hp) (a0 : Nat) (x1 : Int32) : Option (Int32) :=
Option.bind (sh_X5_target h a0 x1) fun v1 =>
if v1 = x1 then (
some (0 : Int32))
else (
Option.bind (ldI h (rf a0 6) x1) fun v2 =>
if v2 = (1 : Int32) then (
b_X5_byKind_60 h a0 x1)
else if v2 = (2 : Int32) then (
Option.bind (ldI h (rf a0 10) x1) fun v3 =>
some (v3 / (2 : Int32)))
else if v2 = (3 : Int32) then (
Option.bind (sh_X5_grown h a0 x1) fun v4 =>
some v4)
else if v2 = (4 : Int32) then (
b_X5_byKind_60 h a0 x1)
else if v2 = (5 : Int32) then (
Option.bind (ldI h (rf a0 7) x1) fun v5 =>
if ((10 : Int32) * v5) ≤ (h.1 a0 1) then (
b_X5_byKind_107 h (0 : Int32))
else (
Option.bind (sh_X5_grown h a0 x1) fun v6 =>
b_X5_byKind_107 h v6))
else if v2 = (6 : Int32) then (
b_X5_byKind_60 h a0 x1)
else if v2 = (7 : Int32) then (
Option.bind (ldI h (rf a0 7) x1) fun v7 =>
Option.bind (rmI (h.1 a0 1) (v7 + (1 : Int32))) fun v8 =>
if v8 = 0 then (
Option.bind (ldI h (rf a0 10) x1) fun v9 =>
b_X5_byKind_136 h (v9 / (2 : Int32)))
else (
b_X5_byKind_136 h (0 : Int32)))
else (
some (0 : Int32)))
def b_X5_giveByKind_36 (h : Hp) : Option (Hp) :=
some h
def b_X5_giveByKind_32 (h : Hp) (x2 : Int32) (b0 : Nat) (s1 : Int32) (s2 : Int32) : Option (Hp) :=
Option.bind (sh_X5_addGift h b0 s1 s2 x2) fun h1 =>
b_X5_giveByKind_36 h1
def sh_X5_giveByKind (h : Hp) (a0 : Nat) (x1 : Int32) : Option (Hp) :=
Option.bind (sh_X5_byKind h a0 x1) fun v1 =>
if v1 ≤ 0 then (
b_X5_giveByKind_36 h)
else (
Option.bind (sh_X5_target h a0 x1) fun v2 =>
if v2 = (9 : Int32) then (
b_X5_giveByKind_32 h v1 a0 x1 (6 : Int32))
else (
Option.bind (sh_X5_target h a0 x1) fun v3 =>
b_X5_giveByKind_32 h v1 a0 x1 v3))
def f_X5_dayOn_2 (k2 : Hp → Nat → Int32 → Option (Hp)) (h : Hp) (a0 : Nat) (x1 : Int32) : Option (Hp) :=
if (h.1 a0 0) ≤ x1 then (
Option.bind (sh_X5_endDay h a0) fun h1 =>
some h1)
else (
Option.bind (sh_X5_giveByKind h a0 x1) fun h2 =>
k2 h2 a0 (x1 + (1 : Int32)))
def b_X5_dayOn_2 : Nat → Hp → Nat → Int32 → Option (Hp)
  | 0 => fun _ _ _ => none
  | n + 1 => f_X5_dayOn_2  (b_X5_dayOn_2  n)
def sh_X5_dayOn (h : Hp) (a0 : Nat) : Option (Hp) :=
b_X5_dayOn_2 1000 h a0 (0 : Int32)
def sh_X5_day (h : Hp) (a0 : Nat) : Option (Int32 × Hp) :=
if ((wI h a0 13 (0 : Int32)).1 a0 1) = (999 : Int32) then (
Option.bind (sh_X5_refuse (wI h a0 13 (0 : Int32)) a0 (-6 : Int32)) fun q1 =>
some (q1.1, q1.2))
else (
Option.bind (sh_X5_dayOn (wI h a0 13 (0 : Int32)) a0) fun h2 =>
some ((h2.1 a0 1), h2))
def b_X5_gives_26 (h : Hp) (s0 : Int32) : Option (Int32 × Hp) :=
some (s0, h)
def sh_X5_gives (h : Hp) (a0 : Nat) (x1 : Int32) : Option (Int32 × Hp) :=
Option.bind (sh_X5_isOne (wI h a0 13 (0 : Int32)) a0 x1) fun v1 =>
if v1 = 0 then (
Option.bind (sh_X5_refuse (wI h a0 13 (0 : Int32)) a0 (-1 : Int32)) fun q2 =>
b_X5_gives_26 q2.2 q2.1)
else (
Option.bind (sh_X5_byKind (wI h a0 13 (0 : Int32)) a0 x1) fun v3 =>
b_X5_gives_26 (wI h a0 13 (0 : Int32)) v3)
def b_X5_wrongDays_21 (h : Hp) (s0 : Int32) : Option (Int32) :=
some s0
def sh_X5_wrongDays (h : Hp) (x0 : Int32) (x1 : Int32) (x2 : Int32) : Option (Int32) :=
if x1 ≤ x0 then (
if x0 ≤ x2 then (
b_X5_wrongDays_21 h (0 : Int32))
else (
b_X5_wrongDays_21 h (-6 : Int32)))
else (
b_X5_wrongDays_21 h (-4 : Int32))
def b_X5_wrongOne_19 (h : Hp) (s0 : Int32) : Option (Int32) :=
some s0
def sh_X5_wrongOne (h : Hp) (a0 : Nat) (x1 : Int32) (x2 : Int32) (x3 : Int32) (x4 : Int32) : Option (Int32) :=
Option.bind (sh_X5_isOne h a0 x1) fun v1 =>
if v1 = 0 then (
b_X5_wrongOne_19 h (-1 : Int32))
else (
Option.bind (sh_X5_wrongDays h x2 x3 x4) fun v2 =>
b_X5_wrongOne_19 h v2)
def b_X5_carry_17 (h : Hp) (a0 : Nat) : Option (Int32 × Hp) :=
Option.bind (gK (wI h a0 17 ((h.1 a0 17) + (1 : Int32)))) fun v1 =>
Option.bind (ldI (wI h a0 17 ((h.1 a0 17) + (1 : Int32))) v1 (((wI h a0 17 ((h.1 a0 17) + (1 : Int32))).1 a0 17) - (1 : Int32))) fun v2 =>
some (v2, (wI h a0 17 ((h.1 a0 17) + (1 : Int32))))
def sh_X5_carry (h : Hp) (a0 : Nat) (x1 : Int32) : Option (Int32 × Hp) :=
if (h.1 a0 18) = 0 then (
b_X5_carry_17 h a0)
else (
Option.bind (gK h) fun v1 =>
Option.bind (stI h v1 (h.1 a0 17) x1) fun h2 =>
b_X5_carry_17 h2 a0)
def f_X5_carryDays_95 (k95 : Hp → Nat → Int32 → Option (Hp)) (h : Hp) (a0 : Nat) (x3 : Int32) : Option (Hp) :=
if (462 : Int32) ≤ x3 then (
some h)
else (
Option.bind (ldI h (rf a0 11) x3) fun v1 =>
Option.bind (sh_X5_carry h a0 v1) fun q2 =>
Option.bind (stI q2.2 (rf a0 11) x3 q2.1) fun h3 =>
k95 h3 a0 (x3 + (1 : Int32)))
def b_X5_carryDays_95 : Nat → Hp → Nat → Int32 → Option (Hp)
  | 0 => fun _ _ _ => none
  | n + 1 => f_X5_carryDays_95  (b_X5_carryDays_95  n)
def f_X5_carryDays_65 (k65 : Hp → Nat → Int32 → Option (Hp)) (h : Hp) (a0 : Nat) (x3 : Int32) : Option (Hp) :=
if (6 : Int32) ≤ x3 then (
b_X5_carryDays_95 1000 h a0 (0 : Int32))
else (
Option.bind (ldI h (rf a0 10) x3) fun v1 =>
Option.bind (sh_X5_carry h a0 v1) fun q2 =>
Option.bind (stI q2.2 (rf a0 10) x3 q2.1) fun h3 =>
k65 h3 a0 (x3 + (1 : Int32)))
def b_X5_carryDays_65 : Nat → Hp → Nat → Int32 → Option (Hp)
  | 0 => fun _ _ _ => none
  | n + 1 => f_X5_carryDays_65  (b_X5_carryDays_65  n)
def sh_X5_carryDays (h : Hp) (a0 : Nat) (a1 : Nat) (x2 : Int32) : Option (Hp) :=
Option.bind (bol x2) fun v1 =>
Option.bind (sh_X5_carry (wI (wI (wK h a1) a0 18 v1) a0 17 (0 : Int32)) a0 ((wI (wI (wK h a1) a0 18 v1) a0 17 (0 : Int32)).1 a0 1)) fun q2 =>
Option.bind (sh_X5_carry (wI q2.2 a0 1 q2.1) a0 ((wI q2.2 a0 1 q2.1).1 a0 2)) fun q3 =>
Option.bind (sh_X5_carry (wI q3.2 a0 2 q3.1) a0 ((wI q3.2 a0 2 q3.1).1 a0 4)) fun q4 =>
Option.bind (sh_X5_carry (wI q4.2 a0 4 q4.1) a0 ((wI q4.2 a0 4 q4.1).1 a0 12)) fun q5 =>
b_X5_carryDays_65 1000 (wI q5.2 a0 12 q5.1) a0 (0 : Int32)
def sh_X5_open (h : Hp) (a0 : Nat) : Option (Hp) :=
Option.bind (sh_X5_carryDays h a0 (rf a0 16) (1 : Int32)) fun h1 =>
some h1
def f_X5_run_2 (k2 : Hp → Nat → Int32 → Int32 → Option (Hp)) (h : Hp) (a0 : Nat) (x1 : Int32) (x2 : Int32) : Option (Hp) :=
if x1 ≤ x2 then (
some h)
else (
Option.bind (sh_X5_dayOn h a0) fun h1 =>
k2 h1 a0 x1 (x2 + (1 : Int32)))
def b_X5_run_2 : Nat → Hp → Nat → Int32 → Int32 → Option (Hp)
  | 0 => fun _ _ _ _ => none
  | n + 1 => f_X5_run_2  (b_X5_run_2  n)
def sh_X5_run (h : Hp) (a0 : Nat) (x1 : Int32) : Option (Hp) :=
b_X5_run_2 1000 h a0 x1 (0 : Int32)
def sh_X5_close (h : Hp) (a0 : Nat) : Option (Hp) :=
Option.bind (sh_X5_carryDays h a0 (rf a0 16) (0 : Int32)) fun h1 =>
some h1
def sh_X5_hasAfter (h : Hp) (a0 : Nat) (x1 : Int32) (x2 : Int32) : Option (Int32 × Hp) :=
Option.bind (sh_X5_open h a0) fun h1 =>
Option.bind (sh_X5_run h1 a0 x2) fun h2 =>
Option.bind (ldI h2 (rf a0 10) x1) fun v3 =>
Option.bind (sh_X5_close h2 a0) fun h4 =>
some (v3, h4)
def b_X5_after_33 (h : Hp) (s0 : Int32) : Option (Int32 × Hp) :=
some (s0, h)
def sh_X5_after (h : Hp) (a0 : Nat) (x1 : Int32) (x2 : Int32) : Option (Int32 × Hp) :=
Option.bind (sh_X5_wrongOne (wI h a0 13 (0 : Int32)) a0 x1 x2 (0 : Int32) (60 : Int32)) fun v1 =>
if 0 ≤ v1 then (
Option.bind (sh_X5_hasAfter (wI h a0 13 (0 : Int32)) a0 x1 x2) fun q2 =>
b_X5_after_33 q2.2 q2.1)
else (
Option.bind (sh_X5_refuse (wI h a0 13 (0 : Int32)) a0 v1) fun q3 =>
b_X5_after_33 q3.2 q3.1)
def f_X5_all_4 (k4 : Hp → Nat → Int32 → Int32 → Option (Int32)) (h : Hp) (a0 : Nat) (x1 : Int32) (x2 : Int32) : Option (Int32) :=
if (h.1 a0 0) ≤ x2 then (
some x1)
else (
Option.bind (ldI h (rf a0 10) x2) fun v1 =>
k4 h a0 (x1 + v1) (x2 + (1 : Int32)))
def b_X5_all_4 : Nat → Hp → Nat → Int32 → Int32 → Option (Int32)
  | 0 => fun _ _ _ _ => none
  | n + 1 => f_X5_all_4  (b_X5_all_4  n)
def sh_X5_all (h : Hp) (a0 : Nat) : Option (Int32) :=
b_X5_all_4 1000 h a0 (0 : Int32) (0 : Int32)
def sh_X5_allAfter (h : Hp) (a0 : Nat) (x1 : Int32) : Option (Int32 × Hp) :=
Option.bind (sh_X5_open h a0) fun h1 =>
Option.bind (sh_X5_run h1 a0 x1) fun h2 =>
Option.bind (sh_X5_all h2 a0) fun v3 =>
Option.bind (sh_X5_close h2 a0) fun h4 =>
some (v3, h4)
def b_X5_all__30 (h : Hp) (s0 : Int32) : Option (Int32 × Hp) :=
some (s0, h)
def sh_X5_all_ (h : Hp) (a0 : Nat) (x1 : Int32) : Option (Int32 × Hp) :=
Option.bind (sh_X5_wrongDays (wI h a0 13 (0 : Int32)) x1 (0 : Int32) (60 : Int32)) fun v1 =>
if 0 ≤ v1 then (
Option.bind (sh_X5_allAfter (wI h a0 13 (0 : Int32)) a0 x1) fun q2 =>
b_X5_all__30 q2.2 q2.1)
else (
Option.bind (sh_X5_refuse (wI h a0 13 (0 : Int32)) a0 v1) fun q3 =>
b_X5_all__30 q3.2 q3.1)
def b_X5_enough_78 (h : Hp) (s0 : Int32) : Option (Int32 × Hp) :=
some (s0, h)
def b_X5_enough_60 (h : Hp) (a0 : Nat) (x4 : Int32) : Option (Int32 × Hp) :=
Option.bind (sh_X5_close h a0) fun h1 =>
if (60 : Int32) < x4 then (
b_X5_enough_78 h1 (-9 : Int32))
else (
b_X5_enough_78 h1 x4)
def f_X5_enough_33 (k33 : Hp → Nat → Int32 → Int32 → Int32 → Option (Int32 × Hp)) (h : Hp) (a0 : Nat) (x1 : Int32) (x2 : Int32) (x4 : Int32) : Option (Int32 × Hp) :=
if (60 : Int32) < x4 then (
b_X5_enough_60 h a0 x4)
else (
Option.bind (ldI h (rf a0 10) x1) fun v1 =>
if x2 ≤ v1 then (
b_X5_enough_60 h a0 x4)
else (
Option.bind (sh_X5_dayOn h a0) fun h2 =>
k33 h2 a0 x1 x2 (x4 + (1 : Int32))))
def b_X5_enough_33 : Nat → Hp → Nat → Int32 → Int32 → Int32 → Option (Int32 × Hp)
  | 0 => fun _ _ _ _ _ => none
  | n + 1 => f_X5_enough_33  (b_X5_enough_33  n)
def sh_X5_enough (h : Hp) (a0 : Nat) (x1 : Int32) (x2 : Int32) : Option (Int32 × Hp) :=
Option.bind (sh_X5_wrongOne (wI h a0 13 (0 : Int32)) a0 x1 x2 (0 : Int32) (9999 : Int32)) fun v1 =>
if 0 ≤ v1 then (
Option.bind (sh_X5_open (wI h a0 13 (0 : Int32)) a0) fun h2 =>
b_X5_enough_33 1000 h2 a0 x1 x2 (0 : Int32))
else (
Option.bind (sh_X5_refuse (wI h a0 13 (0 : Int32)) a0 v1) fun q3 =>
some (q3.1, q3.2))
def b_X5_richestNow_37 (k5 : Hp → Nat → Int32 → Int32 → Option (Int32)) (h : Hp) (a0 : Nat) (x2 : Int32) (s0 : Int32) : Option (Int32) :=
k5 h a0 s0 (x2 + (1 : Int32))
def b_X5_richestNow_32 (k5 : Hp → Nat → Int32 → Int32 → Option (Int32)) (h : Hp) (a0 : Nat) (x2 : Int32) : Option (Int32) :=
b_X5_richestNow_37 k5 h a0 x2 x2
def f_X5_richestNow_5 (k5 : Hp → Nat → Int32 → Int32 → Option (Int32)) (h : Hp) (a0 : Nat) (x1 : Int32) (x2 : Int32) : Option (Int32) :=
if (h.1 a0 0) ≤ x2 then (
some x1)
else (
if x1 < 0 then (
b_X5_richestNow_32 k5 h a0 x2)
else (
Option.bind (ldI h (rf a0 10) x2) fun v1 =>
Option.bind (ldI h (rf a0 10) x1) fun v2 =>
if v1 ≤ v2 then (
b_X5_richestNow_37 k5 h a0 x2 x1)
else (
b_X5_richestNow_32 k5 h a0 x2)))
def b_X5_richestNow_5 : Nat → Hp → Nat → Int32 → Int32 → Option (Int32)
  | 0 => fun _ _ _ _ => none
  | n + 1 => f_X5_richestNow_5  (b_X5_richestNow_5  n)
def sh_X5_richestNow (h : Hp) (a0 : Nat) : Option (Int32) :=
b_X5_richestNow_5 1000 h a0 (-9 : Int32) (0 : Int32)
def sh_X5_richest (h : Hp) (a0 : Nat) (x1 : Int32) : Option (Int32 × Hp) :=
Option.bind (sh_X5_wrongDays (wI h a0 13 (0 : Int32)) x1 (0 : Int32) (60 : Int32)) fun v1 =>
if 0 ≤ v1 then (
Option.bind (sh_X5_open (wI h a0 13 (0 : Int32)) a0) fun h2 =>
Option.bind (sh_X5_run h2 a0 x1) fun h3 =>
Option.bind (sh_X5_richestNow h3 a0) fun v4 =>
Option.bind (sh_X5_close h3 a0) fun h5 =>
some (v4, h5))
else (
Option.bind (sh_X5_refuse (wI h a0 13 (0 : Int32)) a0 v1) fun q6 =>
some (q6.1, q6.2))
def sh_X5_lost (h : Hp) (a0 : Nat) (x1 : Int32) : Option (Int32 × Hp) :=
Option.bind (sh_X5_wrongDays (wI h a0 13 (0 : Int32)) x1 (0 : Int32) (60 : Int32)) fun v1 =>
if 0 ≤ v1 then (
Option.bind (sh_X5_open (wI h a0 13 (0 : Int32)) a0) fun h2 =>
Option.bind (sh_X5_run (wI h2 a0 12 (0 : Int32)) a0 x1) fun h3 =>
Option.bind (sh_X5_close h3 a0) fun h4 =>
some ((h3.1 a0 12), h4))
else (
Option.bind (sh_X5_refuse (wI h a0 13 (0 : Int32)) a0 v1) fun q5 =>
some (q5.1, q5.2))
def b_X5_grows_56 (h : Hp) (s0 : Int32) : Option (Int32 × Hp) :=
some (s0, h)
def sh_X5_grows (h : Hp) (a0 : Nat) (x1 : Int32) : Option (Int32 × Hp) :=
Option.bind (sh_X5_wrongDays (wI h a0 13 (0 : Int32)) x1 (1 : Int32) (60 : Int32)) fun v1 =>
if 0 ≤ v1 then (
Option.bind (sh_X5_all (wI h a0 13 (0 : Int32)) a0) fun v2 =>
Option.bind (sh_X5_allAfter (wI h a0 13 (0 : Int32)) a0 x1) fun q3 =>
if q3.1 ≤ v2 then (
if q3.1 = v2 then (
b_X5_grows_56 q3.2 (0 : Int32))
else (
b_X5_grows_56 q3.2 (2 : Int32)))
else (
b_X5_grows_56 q3.2 (1 : Int32)))
else (
Option.bind (sh_X5_refuse (wI h a0 13 (0 : Int32)) a0 v1) fun q4 =>
some (q4.1, q4.2))
def b_X5_isAsThen_34 (k4 : Hp → Nat → Int32 → Int32 → Option (Int32)) (h : Hp) (a0 : Nat) (x2 : Int32) (s0 : Int32) : Option (Int32) :=
k4 h a0 s0 (x2 + (1 : Int32))
def b_X5_isAsThen_33 (k4 : Hp → Nat → Int32 → Int32 → Option (Int32)) (h : Hp) (a0 : Nat) (x2 : Int32) : Option (Int32) :=
b_X5_isAsThen_34 k4 h a0 x2 (0 : Int32)
def f_X5_isAsThen_4 (k4 : Hp → Nat → Int32 → Int32 → Option (Int32)) (h : Hp) (a0 : Nat) (x1 : Int32) (x2 : Int32) : Option (Int32) :=
if (6 : Int32) ≤ x2 then (
Option.bind (bol x1) fun v1 =>
some v1)
else (
if x1 = 0 then (
b_X5_isAsThen_33 k4 h a0 x2)
else (
Option.bind (ldI h (rf a0 10) x2) fun v2 =>
Option.bind (ldI h (rf a0 29) x2) fun v3 =>
if v2 = v3 then (
b_X5_isAsThen_34 k4 h a0 x2 (1 : Int32))
else (
b_X5_isAsThen_33 k4 h a0 x2)))
def b_X5_isAsThen_4 : Nat → Hp → Nat → Int32 → Int32 → Option (Int32)
  | 0 => fun _ _ _ _ => none
  | n + 1 => f_X5_isAsThen_4  (b_X5_isAsThen_4  n)
def sh_X5_isAsThen (h : Hp) (a0 : Nat) : Option (Int32) :=
b_X5_isAsThen_4 1000 h a0 (1 : Int32) (0 : Int32)
def b_X5_rest_88 (k16 : Hp → Nat → Int32 → Int32 → Int32 → Option (Int32 × Hp)) (h : Hp) (a0 : Nat) (x1 : Int32) (x3 : Int32) (s0 : Int32) : Option (Int32 × Hp) :=
k16 h a0 x1 s0 (x3 + (1 : Int32))
def b_X5_rest_74 (k16 : Hp → Nat → Int32 → Int32 → Int32 → Option (Int32 × Hp)) (h : Hp) (a0 : Nat) (x3 : Int32) (s0 : Int32) : Option (Int32 × Hp) :=
if s0 = (2 : Int32) then (
b_X5_rest_88 k16 h a0 s0 x3 (x3 - (1 : Int32)))
else (
b_X5_rest_88 k16 h a0 s0 x3 (-9 : Int32))
def f_X5_rest_29 (k16 : Hp → Nat → Int32 → Int32 → Int32 → Option (Int32 × Hp)) (k29 : Hp → Nat → Int32 → Int32 → Int32 → Option (Int32 × Hp)) (h : Hp) (a0 : Nat) (x1 : Int32) (x3 : Int32) (x4 : Int32) : Option (Int32 × Hp) :=
if (6 : Int32) ≤ x4 then (
Option.bind (sh_X5_dayOn h a0) fun h1 =>
Option.bind (sh_X5_isAsThen h1 a0) fun v2 =>
if v2 = 0 then (
b_X5_rest_74 k16 h1 a0 x3 (0 : Int32))
else (
b_X5_rest_74 k16 h1 a0 x3 (x1 + (1 : Int32))))
else (
Option.bind (ldI h (rf a0 10) x4) fun v3 =>
Option.bind (stI h (rf a0 29) x4 v3) fun h4 =>
k29 h4 a0 x1 x3 (x4 + (1 : Int32)))
def b_X5_rest_29 (k16 : Hp → Nat → Int32 → Int32 → Int32 → Option (Int32 × Hp)) : Nat → Hp → Nat → Int32 → Int32 → Int32 → Option (Int32 × Hp)
  | 0 => fun _ _ _ _ _ => none
  | n + 1 => f_X5_rest_29 k16 (b_X5_rest_29 k16 n)
def b_X5_rest_95 (h : Hp) (a0 : Nat) (x2 : Int32) : Option (Int32 × Hp) :=
Option.bind (sh_X5_close h a0) fun h1 =>
some (x2, h1)
def f_X5_rest_16 (k16 : Hp → Nat → Int32 → Int32 → Int32 → Option (Int32 × Hp)) (h : Hp) (a0 : Nat) (x1 : Int32) (x2 : Int32) (x3 : Int32) : Option (Int32 × Hp) :=
if (60 : Int32) ≤ x3 then (
b_X5_rest_95 h a0 x2)
else (
if 0 ≤ x2 then (
b_X5_rest_95 h a0 x2)
else (
b_X5_rest_29 k16 1000 h a0 x1 x3 (0 : Int32)))
def b_X5_rest_16 : Nat → Hp → Nat → Int32 → Int32 → Int32 → Option (Int32 × Hp)
  | 0 => fun _ _ _ _ _ => none
  | n + 1 => f_X5_rest_16  (b_X5_rest_16  n)
def sh_X5_rest (h : Hp) (a0 : Nat) : Option (Int32 × Hp) :=
Option.bind (sh_X5_open (wI h a0 13 (0 : Int32)) a0) fun h1 =>
b_X5_rest_16 1000 h1 a0 (0 : Int32) (-9 : Int32) (0 : Int32)
def f_X5_power_4 (k4 : Hp → Int32 → Int32 → Int32 → Option (Int32)) (h : Hp) (x0 : Int32) (x1 : Int32) (x2 : Int32) : Option (Int32) :=
if x0 ≤ x2 then (
some x1)
else (
k4 h x0 (x1 * (3 : Int32)) (x2 + (1 : Int32)))
def b_X5_power_4 : Nat → Hp → Int32 → Int32 → Int32 → Option (Int32)
  | 0 => fun _ _ _ _ => none
  | n + 1 => f_X5_power_4  (b_X5_power_4  n)
def sh_X5_power (h : Hp) (x0 : Int32) : Option (Int32) :=
b_X5_power_4 1000 h x0 (1 : Int32) (0 : Int32)
def b_X5_choose_83 (h : Hp) : Option (Hp) :=
some h
def b_X5_choose_69 (h : Hp) (a0 : Nat) (x3 : Int32) (b0 : Nat) (s1 : Int32) (s2 : Int32) : Option (Hp) :=
Option.bind (sh_X5_addGift h b0 s1 s2 x3) fun h1 =>
b_X5_choose_83 (wI h1 a0 30 ((h1.1 a0 30) + x3))
def b_X5_choose_58 (h : Hp) (a0 : Nat) (x3 : Int32) (b0 : Nat) (s1 : Int32) : Option (Hp) :=
b_X5_choose_69 h a0 x3 b0 s1 (6 : Int32)
def b_X5_choose_30 (h : Hp) (a0 : Nat) (x1 : Int32) (s0 : Int32) : Option (Hp) :=
if s0 ≤ 0 then (
b_X5_choose_83 h)
else (
Option.bind (ldI h (rf a0 9) x1) fun v1 =>
if v1 = x1 then (
b_X5_choose_58 h a0 s0 a0 x1)
else (
Option.bind (ldI h (rf a0 9) x1) fun v2 =>
if v2 = (9 : Int32) then (
b_X5_choose_58 h a0 s0 a0 x1)
else (
Option.bind (ldI h (rf a0 9) x1) fun v3 =>
b_X5_choose_69 h a0 s0 a0 x1 v3)))
def sh_X5_choose (h : Hp) (a0 : Nat) (x1 : Int32) (x2 : Int32) : Option (Hp) :=
if x2 = 0 then (
b_X5_choose_30 h a0 x1 (0 : Int32))
else (
if x2 = (1 : Int32) then (
Option.bind (ldI h (rf a0 10) x1) fun v1 =>
b_X5_choose_30 h a0 x1 (v1 / (2 : Int32)))
else (
Option.bind (ldI h (rf a0 10) x1) fun v2 =>
b_X5_choose_30 h a0 x1 v2))
def b_X5_byRow_68 (k18 : Hp → Nat → Int32 → Int32 → Int32 → Int32 → Int32 → Option (Int32 × Hp)) (k33 : Hp → Nat → Int32 → Int32 → Int32 → Int32 → Int32 → Int32 → Option (Int32 × Hp)) (h : Hp) (a0 : Nat) (x1 : Int32) (x2 : Int32) (x3 : Int32) (x4 : Int32) (x5 : Int32) (x6 : Int32) : Option (Int32 × Hp) :=
k33 h a0 x1 x2 x3 x4 x5 (x6 + (1 : Int32))
def f_X5_byRow_33 (k18 : Hp → Nat → Int32 → Int32 → Int32 → Int32 → Int32 → Option (Int32 × Hp)) (k33 : Hp → Nat → Int32 → Int32 → Int32 → Int32 → Int32 → Int32 → Option (Int32 × Hp)) (h : Hp) (a0 : Nat) (x1 : Int32) (x2 : Int32) (x3 : Int32) (x4 : Int32) (x5 : Int32) (x6 : Int32) : Option (Int32 × Hp) :=
if (h.1 a0 0) ≤ x6 then (
Option.bind (sh_X5_endDay h a0) fun h1 =>
k18 h1 a0 x1 x2 x3 x4 (x5 + (1 : Int32)))
else (
if x6 = x1 then (
Option.bind (dvI x3 x4) fun v2 =>
Option.bind (sh_X5_choose h a0 x1 (v2 - v2 / (3 : Int32) * (3 : Int32))) fun h3 =>
b_X5_byRow_68 k18 k33 h3 a0 x1 x2 x3 x4 x5 x6)
else (
Option.bind (sh_X5_giveByKind h a0 x6) fun h4 =>
b_X5_byRow_68 k18 k33 h4 a0 x1 x2 x3 x4 x5 x6))
def b_X5_byRow_33 (k18 : Hp → Nat → Int32 → Int32 → Int32 → Int32 → Int32 → Option (Int32 × Hp)) : Nat → Hp → Nat → Int32 → Int32 → Int32 → Int32 → Int32 → Int32 → Option (Int32 × Hp)
  | 0 => fun _ _ _ _ _ _ _ _ => none
  | n + 1 => f_X5_byRow_33 k18 (b_X5_byRow_33 k18 n)
def f_X5_byRow_18 (k18 : Hp → Nat → Int32 → Int32 → Int32 → Int32 → Int32 → Option (Int32 × Hp)) (h : Hp) (a0 : Nat) (x1 : Int32) (x2 : Int32) (x3 : Int32) (x4 : Int32) (x5 : Int32) : Option (Int32 × Hp) :=
if x2 ≤ x5 then (
Option.bind (ldI h (rf a0 10) x1) fun v1 =>
Option.bind (sh_X5_close h a0) fun h2 =>
some (v1, h2))
else (
b_X5_byRow_33 k18 1000 h a0 x1 x2 x3 (x4 / (3 : Int32)) x5 (0 : Int32))
def b_X5_byRow_18 : Nat → Hp → Nat → Int32 → Int32 → Int32 → Int32 → Int32 → Option (Int32 × Hp)
  | 0 => fun _ _ _ _ _ _ _ => none
  | n + 1 => f_X5_byRow_18  (b_X5_byRow_18  n)
def sh_X5_byRow (h : Hp) (a0 : Nat) (x1 : Int32) (x2 : Int32) (x3 : Int32) : Option (Int32 × Hp) :=
Option.bind (sh_X5_open h a0) fun h1 =>
Option.bind (sh_X5_power (wI h1 a0 30 (0 : Int32)) x2) fun v2 =>
b_X5_byRow_18 1000 (wI h1 a0 30 (0 : Int32)) a0 x1 x2 x3 v2 (0 : Int32)
def b_X5_findMost_69 (k12 : Hp → Nat → Int32 → Int32 → Int32 → Option (Hp)) (h : Hp) (a0 : Nat) (x1 : Int32) (x2 : Int32) (x3 : Int32) (b0 : Nat) (s1 : Int32) : Option (Hp) :=
k12 (wI h b0 32 s1) a0 x1 x2 (x3 + (1 : Int32))
def b_X5_findMost_47 (k12 : Hp → Nat → Int32 → Int32 → Int32 → Option (Hp)) (h : Hp) (a0 : Nat) (x1 : Int32) (x2 : Int32) (x3 : Int32) (x4 : Int32) (b0 : Nat) (s1 : Int32) : Option (Hp) :=
if x4 ≤ ((wI h b0 31 s1).1 a0 32) then (
b_X5_findMost_69 k12 (wI h b0 31 s1) a0 x1 x2 x3 a0 ((wI h b0 31 s1).1 a0 32))
else (
b_X5_findMost_69 k12 (wI h b0 31 s1) a0 x1 x2 x3 a0 x4)
def f_X5_findMost_12 (k12 : Hp → Nat → Int32 → Int32 → Int32 → Option (Hp)) (h : Hp) (a0 : Nat) (x1 : Int32) (x2 : Int32) (x3 : Int32) : Option (Hp) :=
Option.bind (sh_X5_power h x2) fun v1 =>
if v1 ≤ x3 then (
some h)
else (
Option.bind (sh_X5_byRow h a0 x1 x2 x3) fun q2 =>
if q2.1 ≤ (q2.2.1 a0 32) then (
b_X5_findMost_47 k12 q2.2 a0 x1 x2 x3 q2.1 a0 (q2.2.1 a0 31))
else (
b_X5_findMost_47 k12 q2.2 a0 x1 x2 x3 q2.1 a0 x3))
def b_X5_findMost_12 : Nat → Hp → Nat → Int32 → Int32 → Int32 → Option (Hp)
  | 0 => fun _ _ _ _ _ => none
  | n + 1 => f_X5_findMost_12  (b_X5_findMost_12  n)
def sh_X5_findMost (h : Hp) (a0 : Nat) (x1 : Int32) (x2 : Int32) : Option (Hp) :=
b_X5_findMost_12 1000 (wI (wI h a0 31 (0 : Int32)) a0 32 (-1 : Int32)) a0 x1 x2 (0 : Int32)
def sh_X5_most (h : Hp) (a0 : Nat) (x1 : Int32) (x2 : Int32) : Option (Int32 × Hp) :=
Option.bind (sh_X5_wrongOne (wI h a0 13 (0 : Int32)) a0 x1 x2 (1 : Int32) (6 : Int32)) fun v1 =>
if 0 ≤ v1 then (
Option.bind (sh_X5_findMost (wI h a0 13 (0 : Int32)) a0 x1 x2) fun h2 =>
some ((h2.1 a0 32), h2))
else (
Option.bind (sh_X5_refuse (wI h a0 13 (0 : Int32)) a0 v1) fun q3 =>
some (q3.1, q3.2))
def b_X5_choice_88 (h : Hp) (s0 : Int32) : Option (Int32 × Hp) :=
some (s0, h)
def b_X5_choice_43 (h : Hp) (a0 : Nat) (x1 : Int32) (x2 : Int32) (x3 : Int32) (s0 : Int32) : Option (Int32 × Hp) :=
if 0 ≤ s0 then (
Option.bind (sh_X5_findMost h a0 x1 x2) fun h1 =>
if x2 ≤ x3 then (
b_X5_choice_88 h1 (-9 : Int32))
else (
Option.bind (sh_X5_power h1 ((x2 - (1 : Int32)) - x3)) fun v2 =>
Option.bind (dvI (h1.1 a0 31) v2) fun v3 =>
b_X5_choice_88 h1 (v3 - v3 / (3 : Int32) * (3 : Int32))))
else (
Option.bind (sh_X5_refuse h a0 s0) fun q4 =>
some (q4.1, q4.2))
def b_X5_choice_26 (h : Hp) (a0 : Nat) (x1 : Int32) (x2 : Int32) (x3 : Int32) : Option (Int32 × Hp) :=
b_X5_choice_43 h a0 x1 x2 x3 (-4 : Int32)
def sh_X5_choice (h : Hp) (a0 : Nat) (x1 : Int32) (x2 : Int32) (x3 : Int32) : Option (Int32 × Hp) :=
Option.bind (sh_X5_isOne (wI h a0 13 (0 : Int32)) a0 x1) fun v1 =>
if v1 = 0 then (
b_X5_choice_43 (wI h a0 13 (0 : Int32)) a0 x1 x2 x3 (-1 : Int32))
else (
if x2 < (1 : Int32) then (
b_X5_choice_26 (wI h a0 13 (0 : Int32)) a0 x1 x2 x3)
else (
if 0 ≤ x3 then (
if x2 ≤ (6 : Int32) then (
b_X5_choice_43 (wI h a0 13 (0 : Int32)) a0 x1 x2 x3 (0 : Int32))
else (
b_X5_choice_43 (wI h a0 13 (0 : Int32)) a0 x1 x2 x3 (-6 : Int32)))
else (
b_X5_choice_26 (wI h a0 13 (0 : Int32)) a0 x1 x2 x3)))
def sh_X5_gap (h : Hp) (a0 : Nat) (x1 : Int32) (x2 : Int32) : Option (Int32 × Hp) :=
Option.bind (sh_X5_wrongOne (wI h a0 13 (0 : Int32)) a0 x1 x2 (1 : Int32) (6 : Int32)) fun v1 =>
if 0 ≤ v1 then (
Option.bind (sh_X5_findMost (wI h a0 13 (0 : Int32)) a0 x1 x2) fun h2 =>
Option.bind (sh_X5_hasAfter h2 a0 x1 x2) fun q3 =>
some (((h2.1 a0 32) - q3.1), q3.2))
else (
Option.bind (sh_X5_refuse (wI h a0 13 (0 : Int32)) a0 v1) fun q4 =>
some (((1000000000 : Int32) - q4.1), q4.2))
def b_X5_feast_127 (k71 : Hp → Nat → Int32 → Int32 → Int32 → Int32 → Int32 → Option (Int32 × Hp)) (h : Hp) (a0 : Nat) (x1 : Int32) (x2 : Int32) (x3 : Int32) (x6 : Int32) (s0 : Int32) : Option (Int32 × Hp) :=
k71 h a0 x1 x2 x3 s0 (x6 + (1 : Int32))
def b_X5_feast_118 (k71 : Hp → Nat → Int32 → Int32 → Int32 → Int32 → Int32 → Option (Int32 × Hp)) (h : Hp) (a0 : Nat) (x1 : Int32) (x2 : Int32) (x3 : Int32) (x6 : Int32) : Option (Int32 × Hp) :=
b_X5_feast_127 k71 h a0 x1 x2 x3 x6 (h.1 a0 30)
def b_X5_feast_125 (k71 : Hp → Nat → Int32 → Int32 → Int32 → Int32 → Int32 → Option (Int32 × Hp)) (h : Hp) (a0 : Nat) (x1 : Int32) (x2 : Int32) (x3 : Int32) (x5 : Int32) (x6 : Int32) : Option (Int32 × Hp) :=
b_X5_feast_127 k71 h a0 x1 x2 x3 x6 x5
def b_X5_feast_97 (k71 : Hp → Nat → Int32 → Int32 → Int32 → Int32 → Int32 → Option (Int32 × Hp)) (h : Hp) (a0 : Nat) (x1 : Int32) (x2 : Int32) (x3 : Int32) (x5 : Int32) (x6 : Int32) (s0 : Int32) : Option (Int32 × Hp) :=
if s0 = 0 then (
b_X5_feast_125 k71 h a0 x1 x2 x3 x5 x6)
else (
if x5 < 0 then (
b_X5_feast_118 k71 h a0 x1 x2 x3 x6)
else (
if x5 ≤ (h.1 a0 30) then (
b_X5_feast_125 k71 h a0 x1 x2 x3 x5 x6)
else (
b_X5_feast_118 k71 h a0 x1 x2 x3 x6)))
def f_X5_feast_71 (k71 : Hp → Nat → Int32 → Int32 → Int32 → Int32 → Int32 → Option (Int32 × Hp)) (h : Hp) (a0 : Nat) (x1 : Int32) (x2 : Int32) (x3 : Int32) (x5 : Int32) (x6 : Int32) : Option (Int32 × Hp) :=
Option.bind (sh_X5_power h x2) fun v1 =>
if v1 ≤ x6 then (
some (x5, h))
else (
Option.bind (sh_X5_byRow h a0 x1 x2 x6) fun q2 =>
if q2.1 < x3 then (
b_X5_feast_97 k71 q2.2 a0 x1 x2 x3 x5 x6 (0 : Int32))
else (
b_X5_feast_97 k71 q2.2 a0 x1 x2 x3 x5 x6 (1 : Int32)))
def b_X5_feast_71 : Nat → Hp → Nat → Int32 → Int32 → Int32 → Int32 → Int32 → Option (Int32 × Hp)
  | 0 => fun _ _ _ _ _ _ _ => none
  | n + 1 => f_X5_feast_71  (b_X5_feast_71  n)
def b_X5_feast_50 (h : Hp) (a0 : Nat) (x1 : Int32) (x2 : Int32) (x3 : Int32) (s0 : Int32) : Option (Int32 × Hp) :=
if 0 ≤ s0 then (
b_X5_feast_71 1000 h a0 x1 x2 x3 (-9 : Int32) (0 : Int32))
else (
Option.bind (sh_X5_refuse h a0 s0) fun q1 =>
some (q1.1, q1.2))
def b_X5_feast_26 (h : Hp) (a0 : Nat) (x1 : Int32) (x2 : Int32) (x3 : Int32) : Option (Int32 × Hp) :=
b_X5_feast_50 h a0 x1 x2 x3 (-4 : Int32)
def b_X5_feast_44 (h : Hp) (a0 : Nat) (x1 : Int32) (x2 : Int32) (x3 : Int32) : Option (Int32 × Hp) :=
b_X5_feast_50 h a0 x1 x2 x3 (-6 : Int32)
def sh_X5_feast (h : Hp) (a0 : Nat) (x1 : Int32) (x2 : Int32) (x3 : Int32) : Option (Int32 × Hp) :=
Option.bind (sh_X5_isOne (wI h a0 13 (0 : Int32)) a0 x1) fun v1 =>
if v1 = 0 then (
b_X5_feast_50 (wI h a0 13 (0 : Int32)) a0 x1 x2 x3 (-1 : Int32))
else (
if x2 < (1 : Int32) then (
b_X5_feast_26 (wI h a0 13 (0 : Int32)) a0 x1 x2 x3)
else (
if 0 ≤ x3 then (
if (6 : Int32) < x2 then (
b_X5_feast_44 (wI h a0 13 (0 : Int32)) a0 x1 x2 x3)
else (
if x3 ≤ (9999 : Int32) then (
b_X5_feast_50 (wI h a0 13 (0 : Int32)) a0 x1 x2 x3 (0 : Int32))
else (
b_X5_feast_44 (wI h a0 13 (0 : Int32)) a0 x1 x2 x3)))
else (
b_X5_feast_26 (wI h a0 13 (0 : Int32)) a0 x1 x2 x3)))
def b_X5_isAimedAt_70 (k4 : Hp → Nat → Int32 → Int32 → Int32 → Option (Int32)) (h : Hp) (a0 : Nat) (x1 : Int32) (x3 : Int32) (s0 : Int32) : Option (Int32) :=
k4 h a0 x1 s0 (x3 + (1 : Int32))
def b_X5_isAimedAt_65 (k4 : Hp → Nat → Int32 → Int32 → Int32 → Option (Int32)) (h : Hp) (a0 : Nat) (x1 : Int32) (x3 : Int32) : Option (Int32) :=
b_X5_isAimedAt_70 k4 h a0 x1 x3 (1 : Int32)
def b_X5_isAimedAt_69 (k4 : Hp → Nat → Int32 → Int32 → Int32 → Option (Int32)) (h : Hp) (a0 : Nat) (x1 : Int32) (x3 : Int32) : Option (Int32) :=
b_X5_isAimedAt_70 k4 h a0 x1 x3 (0 : Int32)
def b_X5_isAimedAt_39 (k4 : Hp → Nat → Int32 → Int32 → Int32 → Option (Int32)) (h : Hp) (a0 : Nat) (x1 : Int32) (x2 : Int32) (x3 : Int32) (s0 : Int32) : Option (Int32) :=
if x2 = 0 then (
if x3 = x1 then (
b_X5_isAimedAt_69 k4 h a0 x1 x3)
else (
Option.bind (ldI h (rf a0 10) x3) fun v1 =>
if v1 ≤ 0 then (
b_X5_isAimedAt_69 k4 h a0 x1 x3)
else (
if s0 = x1 then (
b_X5_isAimedAt_65 k4 h a0 x1 x3)
else (
b_X5_isAimedAt_69 k4 h a0 x1 x3))))
else (
b_X5_isAimedAt_65 k4 h a0 x1 x3)
def f_X5_isAimedAt_4 (k4 : Hp → Nat → Int32 → Int32 → Int32 → Option (Int32)) (h : Hp) (a0 : Nat) (x1 : Int32) (x2 : Int32) (x3 : Int32) : Option (Int32) :=
if (h.1 a0 0) ≤ x3 then (
Option.bind (bol x2) fun v1 =>
some v1)
else (
Option.bind (ldI h (rf a0 6) x3) fun v2 =>
if v2 = (4 : Int32) then (
Option.bind (rmI (x3 + (1 : Int32)) (h.1 a0 0)) fun v3 =>
b_X5_isAimedAt_39 k4 h a0 x1 x2 x3 v3)
else (
Option.bind (ldI h (rf a0 9) x3) fun v4 =>
b_X5_isAimedAt_39 k4 h a0 x1 x2 x3 v4))
def b_X5_isAimedAt_4 : Nat → Hp → Nat → Int32 → Int32 → Int32 → Option (Int32)
  | 0 => fun _ _ _ _ _ => none
  | n + 1 => f_X5_isAimedAt_4  (b_X5_isAimedAt_4  n)
def sh_X5_isAimedAt (h : Hp) (a0 : Nat) (x1 : Int32) : Option (Int32) :=
b_X5_isAimedAt_4 1000 h a0 x1 (0 : Int32) (0 : Int32)
def b_X5_stuck_65 (k4 : Hp → Nat → Int32 → Int32 → Option (Int32)) (h : Hp) (a0 : Nat) (x2 : Int32) (s0 : Int32) : Option (Int32) :=
k4 h a0 s0 (x2 + (1 : Int32))
def b_X5_stuck_51 (k4 : Hp → Nat → Int32 → Int32 → Option (Int32)) (h : Hp) (a0 : Nat) (x1 : Int32) (x2 : Int32) (s0 : Int32) : Option (Int32) :=
if s0 = 0 then (
b_X5_stuck_65 k4 h a0 x2 x1)
else (
b_X5_stuck_65 k4 h a0 x2 (x1 ||| ((1 : Int32) <<< (x2 &&& 31))))
def b_X5_stuck_50 (k4 : Hp → Nat → Int32 → Int32 → Option (Int32)) (h : Hp) (a0 : Nat) (x1 : Int32) (x2 : Int32) : Option (Int32) :=
b_X5_stuck_51 k4 h a0 x1 x2 (0 : Int32)
def b_X5_stuck_38 (k4 : Hp → Nat → Int32 → Int32 → Option (Int32)) (h : Hp) (a0 : Nat) (x1 : Int32) (x2 : Int32) : Option (Int32) :=
Option.bind (sh_X5_isAimedAt h a0 x2) fun v1 =>
if v1 = 0 then (
b_X5_stuck_51 k4 h a0 x1 x2 (1 : Int32))
else (
b_X5_stuck_50 k4 h a0 x1 x2)
def f_X5_stuck_4 (k4 : Hp → Nat → Int32 → Int32 → Option (Int32)) (h : Hp) (a0 : Nat) (x1 : Int32) (x2 : Int32) : Option (Int32) :=
if (h.1 a0 0) ≤ x2 then (
some x1)
else (
Option.bind (ldI h (rf a0 10) x2) fun v1 =>
if v1 = 0 then (
Option.bind (ldI h (rf a0 8) x2) fun v2 =>
if v2 = 0 then (
b_X5_stuck_38 k4 h a0 x1 x2)
else (
Option.bind (sh_X5_leave h a0 x2) fun v3 =>
if v3 = 0 then (
b_X5_stuck_38 k4 h a0 x1 x2)
else (
b_X5_stuck_50 k4 h a0 x1 x2)))
else (
b_X5_stuck_50 k4 h a0 x1 x2))
def b_X5_stuck_4 : Nat → Hp → Nat → Int32 → Int32 → Option (Int32)
  | 0 => fun _ _ _ _ => none
  | n + 1 => f_X5_stuck_4  (b_X5_stuck_4  n)
def sh_X5_stuck (h : Hp) (a0 : Nat) : Option (Int32) :=
b_X5_stuck_4 1000 h a0 (0 : Int32) (0 : Int32)
def sh_X5_begins (h : Hp) (a0 : Nat) : Option (Int32 × Hp) :=
Option.bind (sh_X5_stuck (wI h a0 13 (0 : Int32)) a0) fun v1 =>
some (v1, (wI h a0 13 (0 : Int32)))
def b_X5_helps_63 (h : Hp) (s0 : Int32) : Option (Int32 × Hp) :=
some (s0, h)
def b_X5_helps_61 (h : Hp) : Option (Int32 × Hp) :=
b_X5_helps_63 h (-9 : Int32)
def f_X5_helps_14 (k14 : Hp → Nat → Int32 → Int32 → Int32 → Option (Int32 × Hp)) (h : Hp) (a0 : Nat) (x1 : Int32) (x2 : Int32) (x3 : Int32) : Option (Int32 × Hp) :=
if (6 : Int32) ≤ x3 then (
Option.bind (sh_X5_richestNow h a0) fun v1 =>
if x2 ≤ 0 then (
b_X5_helps_61 h)
else (
if v1 < 0 then (
b_X5_helps_61 h)
else (
Option.bind (ldI h (rf a0 10) v1) fun v2 =>
if v2 ≤ x2 then (
b_X5_helps_61 h)
else (
b_X5_helps_63 h v1))))
else (
k14 h a0 x1 (x2 + ((x1 >>> (x3 &&& 31)) &&& (1 : Int32))) (x3 + (1 : Int32)))
def b_X5_helps_14 : Nat → Hp → Nat → Int32 → Int32 → Int32 → Option (Int32 × Hp)
  | 0 => fun _ _ _ _ _ => none
  | n + 1 => f_X5_helps_14  (b_X5_helps_14  n)
def sh_X5_helps (h : Hp) (a0 : Nat) : Option (Int32 × Hp) :=
Option.bind (sh_X5_stuck (wI h a0 13 (0 : Int32)) a0) fun v1 =>
b_X5_helps_14 1000 (wI h a0 13 (0 : Int32)) a0 v1 (0 : Int32) (0 : Int32)
def sh_X5_hasBy (h : Hp) (a0 : Nat) (x1 : Int32) (x2 : Int32) (x3 : Int32) (x4 : Int32) : Option (Int32 × Hp) :=
Option.bind (sh_X5_open h a0) fun h1 =>
Option.bind (sh_X5_run (wI (wI h1 a0 2 x3) a0 4 x4) a0 x2) fun h2 =>
Option.bind (ldI h2 (rf a0 10) x1) fun v3 =>
Option.bind (sh_X5_close h2 a0) fun h4 =>
some (v3, h4)
def b_X5_byLaw_58 (h : Hp) (s0 : Int32) : Option (Int32 × Hp) :=
some (s0, h)
def b_X5_byLaw_31 (h : Hp) (a0 : Nat) (x1 : Int32) (x2 : Int32) (x3 : Int32) (s0 : Int32) : Option (Int32 × Hp) :=
if 0 ≤ s0 then (
Option.bind (sh_X5_hasBy h a0 x2 x3 x1 (h.1 a0 4)) fun q1 =>
b_X5_byLaw_58 q1.2 q1.1)
else (
Option.bind (sh_X5_refuse h a0 s0) fun q2 =>
b_X5_byLaw_58 q2.2 q2.1)
def sh_X5_byLaw (h : Hp) (a0 : Nat) (x1 : Int32) (x2 : Int32) (x3 : Int32) : Option (Int32 × Hp) :=
Option.bind (sh_X5_in (wI h a0 13 (0 : Int32)) (x1).toInt64 (0 : Int64) (5 : Int64)) fun v1 =>
if v1 = 0 then (
b_X5_byLaw_31 (wI h a0 13 (0 : Int32)) a0 x1 x2 x3 (-2 : Int32))
else (
Option.bind (sh_X5_wrongOne (wI h a0 13 (0 : Int32)) a0 x2 x3 (0 : Int32) (60 : Int32)) fun v2 =>
b_X5_byLaw_31 (wI h a0 13 (0 : Int32)) a0 x1 x2 x3 v2)
def b_X5_byBack_74 (h : Hp) (s0 : Int32) : Option (Int32 × Hp) :=
some (s0, h)
def b_X5_byBack_47 (h : Hp) (a0 : Nat) (x1 : Int32) (x2 : Int32) (x3 : Int32) (s0 : Int32) : Option (Int32 × Hp) :=
if 0 ≤ s0 then (
Option.bind (sh_X5_hasBy h a0 x2 x3 (h.1 a0 2) x1) fun q1 =>
b_X5_byBack_74 q1.2 q1.1)
else (
Option.bind (sh_X5_refuse h a0 s0) fun q2 =>
b_X5_byBack_74 q2.2 q2.1)
def b_X5_byBack_25 (h : Hp) (a0 : Nat) (x1 : Int32) (x2 : Int32) (x3 : Int32) : Option (Int32 × Hp) :=
b_X5_byBack_47 h a0 x1 x2 x3 (-4 : Int32)
def b_X5_byBack_41 (h : Hp) (a0 : Nat) (x1 : Int32) (x2 : Int32) (x3 : Int32) : Option (Int32 × Hp) :=
b_X5_byBack_47 h a0 x1 x2 x3 (-6 : Int32)
def sh_X5_byBack (h : Hp) (a0 : Nat) (x1 : Int32) (x2 : Int32) (x3 : Int32) : Option (Int32 × Hp) :=
Option.bind (sh_X5_isOne (wI h a0 13 (0 : Int32)) a0 x2) fun v1 =>
if v1 = 0 then (
b_X5_byBack_47 (wI h a0 13 (0 : Int32)) a0 x1 x2 x3 (-1 : Int32))
else (
if x1 < 0 then (
b_X5_byBack_25 (wI h a0 13 (0 : Int32)) a0 x1 x2 x3)
else (
if 0 ≤ x3 then (
if (5 : Int32) < x1 then (
b_X5_byBack_41 (wI h a0 13 (0 : Int32)) a0 x1 x2 x3)
else (
if x3 ≤ (60 : Int32) then (
b_X5_byBack_47 (wI h a0 13 (0 : Int32)) a0 x1 x2 x3 (0 : Int32))
else (
b_X5_byBack_41 (wI h a0 13 (0 : Int32)) a0 x1 x2 x3)))
else (
b_X5_byBack_25 (wI h a0 13 (0 : Int32)) a0 x1 x2 x3)))
def b_X5_leastLaw_95 (k44 : Hp → Nat → Int32 → Int32 → Int32 → Int32 → Int32 → Option (Int32 × Hp)) (h : Hp) (a0 : Nat) (x1 : Int32) (x2 : Int32) (x4 : Int32) (x6 : Int32) (s0 : Int32) : Option (Int32 × Hp) :=
k44 h a0 x1 x2 x4 s0 (x6 + (1 : Int32))
def b_X5_leastLaw_79 (k44 : Hp → Nat → Int32 → Int32 → Int32 → Int32 → Int32 → Option (Int32 × Hp)) (h : Hp) (a0 : Nat) (x1 : Int32) (x2 : Int32) (x5 : Int32) (x6 : Int32) (x7 : Int32) (s0 : Int32) : Option (Int32 × Hp) :=
if x5 ≤ x7 then (
b_X5_leastLaw_95 k44 h a0 x1 x2 s0 x6 x5)
else (
b_X5_leastLaw_95 k44 h a0 x1 x2 s0 x6 x7)
def f_X5_leastLaw_44 (k44 : Hp → Nat → Int32 → Int32 → Int32 → Int32 → Int32 → Option (Int32 × Hp)) (h : Hp) (a0 : Nat) (x1 : Int32) (x2 : Int32) (x4 : Int32) (x5 : Int32) (x6 : Int32) : Option (Int32 × Hp) :=
if (6 : Int32) ≤ x6 then (
some (x4, h))
else (
Option.bind (sh_X5_hasBy h a0 x1 x2 x6 (h.1 a0 4)) fun q1 =>
if x5 ≤ q1.1 then (
b_X5_leastLaw_79 k44 q1.2 a0 x1 x2 x5 x6 q1.1 x4)
else (
b_X5_leastLaw_79 k44 q1.2 a0 x1 x2 x5 x6 q1.1 x6))
def b_X5_leastLaw_44 : Nat → Hp → Nat → Int32 → Int32 → Int32 → Int32 → Int32 → Option (Int32 × Hp)
  | 0 => fun _ _ _ _ _ _ _ => none
  | n + 1 => f_X5_leastLaw_44  (b_X5_leastLaw_44  n)
def sh_X5_leastLaw (h : Hp) (a0 : Nat) (x1 : Int32) (x2 : Int32) : Option (Int32 × Hp) :=
Option.bind (sh_X5_wrongOne (wI h a0 13 (0 : Int32)) a0 x1 x2 (0 : Int32) (60 : Int32)) fun v1 =>
if 0 ≤ v1 then (
Option.bind (sh_X5_hasBy (wI h a0 13 (0 : Int32)) a0 x1 x2 (0 : Int32) ((wI h a0 13 (0 : Int32)).1 a0 4)) fun q2 =>
b_X5_leastLaw_44 1000 q2.2 a0 x1 x2 (0 : Int32) q2.1 (1 : Int32))
else (
Option.bind (sh_X5_refuse (wI h a0 13 (0 : Int32)) a0 v1) fun q3 =>
some (q3.1, q3.2))
def b_X5_row_32 (h : Hp) (a0 : Nat) : Option (Int32 × Hp) :=
Option.bind (sh_X5_refuse h a0 (-6 : Int32)) fun q1 =>
some (q1.1, q1.2)
def sh_X5_row (h : Hp) (a0 : Nat) (x1 : Int32) : Option (Int32 × Hp) :=
if 0 ≤ x1 then (
if (9999 : Int32) < x1 then (
b_X5_row_32 (wI h a0 13 (0 : Int32)) a0)
else (
if ((wI h a0 13 (0 : Int32)).1 a0 34) = (12 : Int32) then (
b_X5_row_32 (wI h a0 13 (0 : Int32)) a0)
else (
Option.bind (stI (wI h a0 13 (0 : Int32)) (rf a0 33) ((wI h a0 13 (0 : Int32)).1 a0 34) x1) fun h1 =>
some (((wI h1 a0 34 ((h1.1 a0 34) + (1 : Int32))).1 a0 34), (wI h1 a0 34 ((h1.1 a0 34) + (1 : Int32)))))))
else (
Option.bind (sh_X5_refuse (wI h a0 13 (0 : Int32)) a0 (-4 : Int32)) fun q2 =>
some (q2.1, q2.2))
def b_X5_bookOf_79 (k21 : Hp → Nat → Int32 → Int32 → Int32 → Int32 → Int32 → Option (Int32 × Hp)) (h : Hp) (a0 : Nat) (x1 : Int32) (x2 : Int32) (x3 : Int32) (x5 : Int32) (s0 : Int32) : Option (Int32 × Hp) :=
k21 h a0 x1 x2 x3 s0 (x5 + (1 : Int32))
def b_X5_bookOf_72 (k21 : Hp → Nat → Int32 → Int32 → Int32 → Int32 → Int32 → Option (Int32 × Hp)) (h : Hp) (a0 : Nat) (x1 : Int32) (x2 : Int32) (x3 : Int32) (x5 : Int32) : Option (Int32 × Hp) :=
b_X5_bookOf_79 k21 h a0 x1 x2 x3 x5 x5
def b_X5_bookOf_77 (k21 : Hp → Nat → Int32 → Int32 → Int32 → Int32 → Int32 → Option (Int32 × Hp)) (h : Hp) (a0 : Nat) (x1 : Int32) (x2 : Int32) (x3 : Int32) (x5 : Int32) : Option (Int32 × Hp) :=
b_X5_bookOf_79 k21 h a0 x1 x2 x3 x5 (-9 : Int32)
def b_X5_bookOf_87 (h : Hp) (a0 : Nat) (x4 : Int32) : Option (Int32 × Hp) :=
Option.bind (sh_X5_close h a0) fun h1 =>
some (x4, h1)
def f_X5_bookOf_21 (k21 : Hp → Nat → Int32 → Int32 → Int32 → Int32 → Int32 → Option (Int32 × Hp)) (h : Hp) (a0 : Nat) (x1 : Int32) (x2 : Int32) (x3 : Int32) (x4 : Int32) (x5 : Int32) : Option (Int32 × Hp) :=
if x3 ≤ x5 then (
b_X5_bookOf_87 h a0 x4)
else (
if 0 ≤ x4 then (
b_X5_bookOf_87 h a0 x4)
else (
Option.bind (sh_X5_dayOn h a0) fun h1 =>
Option.bind (ldI h1 (rf a0 33) x5) fun v2 =>
Option.bind (ldI h1 (rf a0 10) x1) fun v3 =>
if v3 < v2 then (
b_X5_bookOf_72 k21 h1 a0 x1 x2 x3 x5)
else (
if x2 = 0 then (
b_X5_bookOf_77 k21 h1 a0 x1 x2 x3 x5)
else (
Option.bind (ldI h1 (rf a0 33) x5) fun v4 =>
Option.bind (ldI h1 (rf a0 10) x1) fun v5 =>
if v4 = v5 then (
b_X5_bookOf_77 k21 h1 a0 x1 x2 x3 x5)
else (
b_X5_bookOf_72 k21 h1 a0 x1 x2 x3 x5)))))
def b_X5_bookOf_21 : Nat → Hp → Nat → Int32 → Int32 → Int32 → Int32 → Int32 → Option (Int32 × Hp)
  | 0 => fun _ _ _ _ _ _ _ => none
  | n + 1 => f_X5_bookOf_21  (b_X5_bookOf_21  n)
def sh_X5_bookOf (h : Hp) (a0 : Nat) (x1 : Int32) (x2 : Int32) : Option (Int32 × Hp) :=
Option.bind (sh_X5_open (wI h a0 34 (0 : Int32)) a0) fun h1 =>
b_X5_bookOf_21 1000 h1 a0 x1 x2 (h.1 a0 34) (-9 : Int32) (0 : Int32)
def b_X5_found_27 (h : Hp) (s0 : Int32) : Option (Int32 × Hp) :=
some (s0, h)
def sh_X5_found (h : Hp) (a0 : Nat) (x1 : Int32) : Option (Int32 × Hp) :=
Option.bind (sh_X5_isOne (wI h a0 13 (0 : Int32)) a0 x1) fun v1 =>
if v1 = 0 then (
Option.bind (sh_X5_refuse (wI h a0 13 (0 : Int32)) a0 (-1 : Int32)) fun q2 =>
b_X5_found_27 q2.2 q2.1)
else (
Option.bind (sh_X5_bookOf (wI h a0 13 (0 : Int32)) a0 x1 (0 : Int32)) fun q3 =>
b_X5_found_27 q3.2 q3.1)
def b_X5_judge_27 (h : Hp) (s0 : Int32) : Option (Int32 × Hp) :=
some (s0, h)
def sh_X5_judge (h : Hp) (a0 : Nat) (x1 : Int32) : Option (Int32 × Hp) :=
Option.bind (sh_X5_isOne (wI h a0 13 (0 : Int32)) a0 x1) fun v1 =>
if v1 = 0 then (
Option.bind (sh_X5_refuse (wI h a0 13 (0 : Int32)) a0 (-1 : Int32)) fun q2 =>
b_X5_judge_27 q2.2 q2.1)
else (
Option.bind (sh_X5_bookOf (wI h a0 13 (0 : Int32)) a0 x1 (1 : Int32)) fun q3 =>
b_X5_judge_27 q3.2 q3.1)
def b_X5_told_113 (k24 : Hp → Nat → Int32 → Int32 → Int32 → Option (Int32 × Hp)) (h : Hp) (a0 : Nat) (x1 : Int32) (x2 : Int32) (x3 : Int32) : Option (Int32 × Hp) :=
k24 h a0 x1 x2 (x3 + (3 : Int32))
def b_X5_told_102 (k24 : Hp → Nat → Int32 → Int32 → Int32 → Option (Int32 × Hp)) (h : Hp) (a0 : Nat) (x1 : Int32) (x2 : Int32) (x3 : Int32) (b0 : Nat) (s1 : Int32) (s2 : Int32) : Option (Int32 × Hp) :=
Option.bind (ldI h (rf a0 33) (x3 + (2 : Int32))) fun v1 =>
Option.bind (sh_X5_addGift h b0 s1 s2 v1) fun h2 =>
b_X5_told_113 k24 h2 a0 x1 x2 x3
def b_X5_told_138 (h : Hp) (s0 : Int32) : Option (Int32 × Hp) :=
some (s0, h)
def b_X5_told_133 (h : Hp) (x2 : Int32) : Option (Int32 × Hp) :=
b_X5_told_138 h x2
def b_X5_told_119 (h : Hp) (a0 : Nat) (x1 : Int32) (x2 : Int32) : Option (Int32 × Hp) :=
Option.bind (sh_X5_close h a0) fun h1 =>
if 0 ≤ x2 then (
b_X5_told_133 h1 x2)
else (
if (x1 - x1 / (3 : Int32) * (3 : Int32)) = 0 then (
b_X5_told_133 h1 x2)
else (
b_X5_told_138 h1 x1))
def f_X5_told_24 (k24 : Hp → Nat → Int32 → Int32 → Int32 → Option (Int32 × Hp)) (h : Hp) (a0 : Nat) (x1 : Int32) (x2 : Int32) (x3 : Int32) : Option (Int32 × Hp) :=
if x1 ≤ (x3 + (2 : Int32)) then (
b_X5_told_119 h a0 x1 x2)
else (
if 0 ≤ x2 then (
b_X5_told_119 h a0 x1 x2)
else (
Option.bind (ldI h (rf a0 33) x3) fun v1 =>
Option.bind (ldI h (rf a0 33) (x3 + (1 : Int32))) fun v2 =>
Option.bind (ldI h (rf a0 33) (x3 + (2 : Int32))) fun v3 =>
Option.bind (sh_X5_wrongGift h a0 v1 v2 v3) fun v4 =>
if 0 ≤ v4 then (
Option.bind (ldI h (rf a0 33) x3) fun v5 =>
Option.bind (ldI h (rf a0 33) (x3 + (1 : Int32))) fun v6 =>
if v6 = (9 : Int32) then (
b_X5_told_102 k24 h a0 x1 x2 x3 a0 v5 (6 : Int32))
else (
Option.bind (ldI h (rf a0 33) (x3 + (1 : Int32))) fun v7 =>
b_X5_told_102 k24 h a0 x1 x2 x3 a0 v5 v7))
else (
b_X5_told_113 k24 h a0 x1 x3 x3)))
def b_X5_told_24 : Nat → Hp → Nat → Int32 → Int32 → Int32 → Option (Int32 × Hp)
  | 0 => fun _ _ _ _ _ => none
  | n + 1 => f_X5_told_24  (b_X5_told_24  n)
def sh_X5_told (h : Hp) (a0 : Nat) : Option (Int32 × Hp) :=
Option.bind (sh_X5_open (wI (wI h a0 13 (0 : Int32)) a0 34 (0 : Int32)) a0) fun h1 =>
b_X5_told_24 1000 h1 a0 ((wI h a0 13 (0 : Int32)).1 a0 34) (-9 : Int32) (0 : Int32)
def sh_X5_draw (h : Hp) (a0 : Nat) (x1 : Int32) : Option (Int32 × Hp) :=
Option.bind (rmI ((((wI h a0 35 (((h.1 a0 35) * (1103515245 : Int32)) + (12345 : Int32))).1 a0 35) &&& (2147483647 : Int32)) / (65536 : Int32)) x1) fun v1 =>
some (v1, (wI h a0 35 (((h.1 a0 35) * (1103515245 : Int32)) + (12345 : Int32))))
def f_X5_seeds_53 (k53 : Hp → Nat → Int32 → Int32 → Option (Int32 × Hp)) (h : Hp) (a0 : Nat) (x1 : Int32) (x4 : Int32) : Option (Int32 × Hp) :=
if x1 ≤ x4 then (
Option.bind (sh_X5_all h a0) fun v1 =>
Option.bind (sh_X5_close h a0) fun h2 =>
some (v1, h2))
else (
Option.bind (sh_X5_draw h a0 (h.1 a0 0)) fun q3 =>
Option.bind (ldI q3.2 (rf a0 10) q3.1) fun v4 =>
Option.bind (sh_X5_draw q3.2 a0 (10 : Int32)) fun q5 =>
Option.bind (sh_X5_lesser q5.2 (9999 : Int32) (v4 + q5.1)) fun v6 =>
Option.bind (stI q5.2 (rf a0 10) q3.1 v6) fun h7 =>
Option.bind (sh_X5_dayOn h7 a0) fun h8 =>
k53 h8 a0 x1 (x4 + (1 : Int32)))
def b_X5_seeds_53 : Nat → Hp → Nat → Int32 → Int32 → Option (Int32 × Hp)
  | 0 => fun _ _ _ _ => none
  | n + 1 => f_X5_seeds_53  (b_X5_seeds_53  n)
def b_X5_seeds_30 (h : Hp) (a0 : Nat) (x1 : Int32) (x2 : Int32) (s0 : Int32) : Option (Int32 × Hp) :=
if 0 ≤ s0 then (
Option.bind (sh_X5_open h a0) fun h1 =>
b_X5_seeds_53 1000 (wI h1 a0 35 x2) a0 x1 (0 : Int32))
else (
Option.bind (sh_X5_refuse h a0 s0) fun q2 =>
some (q2.1, q2.2))
def b_X5_seeds_29 (h : Hp) (a0 : Nat) (x1 : Int32) (x2 : Int32) (x3 : Int32) : Option (Int32 × Hp) :=
b_X5_seeds_30 h a0 x1 x2 x3
def sh_X5_seeds (h : Hp) (a0 : Nat) (x1 : Int32) (x2 : Int32) : Option (Int32 × Hp) :=
Option.bind (sh_X5_wrongDays (wI h a0 13 (0 : Int32)) x1 (1 : Int32) (20 : Int32)) fun v1 =>
if v1 = 0 then (
if ((wI h a0 13 (0 : Int32)).1 a0 0) = 0 then (
b_X5_seeds_30 (wI h a0 13 (0 : Int32)) a0 x1 x2 (-3 : Int32))
else (
b_X5_seeds_29 (wI h a0 13 (0 : Int32)) a0 x1 x2 v1))
else (
b_X5_seeds_29 (wI h a0 13 (0 : Int32)) a0 x1 x2 v1)
def b_X5_carryMore_14 (h : Hp) (a0 : Nat) (x1 : Int32) : Option (Int32 × Hp) :=
Option.bind (ldI h (rf a0 38) x1) fun v1 =>
some (v1, h)
def sh_X5_carryMore (h : Hp) (a0 : Nat) (x1 : Int32) (x2 : Int32) : Option (Int32 × Hp) :=
if (h.1 a0 18) = 0 then (
b_X5_carryMore_14 h a0 x1)
else (
Option.bind (stI h (rf a0 38) x1 x2) fun h1 =>
b_X5_carryMore_14 h1 a0 x1)
def f_X5_carryAll_50 (k50 : Hp → Nat → Int32 → Option (Hp)) (h : Hp) (a0 : Nat) (x2 : Int32) : Option (Hp) :=
if (6 : Int32) ≤ x2 then (
some h)
else (
Option.bind (ldI h (rf a0 6) x2) fun v1 =>
Option.bind (sh_X5_carryMore h a0 ((3 : Int32) + x2) v1) fun q2 =>
Option.bind (stI q2.2 (rf a0 6) x2 q2.1) fun h3 =>
Option.bind (ldI h3 (rf a0 7) x2) fun v4 =>
Option.bind (sh_X5_carryMore h3 a0 ((9 : Int32) + x2) v4) fun q5 =>
Option.bind (stI q5.2 (rf a0 7) x2 q5.1) fun h6 =>
Option.bind (ldI h6 (rf a0 8) x2) fun v7 =>
Option.bind (sh_X5_carryMore h6 a0 ((15 : Int32) + x2) v7) fun q8 =>
Option.bind (stI q8.2 (rf a0 8) x2 q8.1) fun h9 =>
Option.bind (ldI h9 (rf a0 9) x2) fun v10 =>
Option.bind (sh_X5_carryMore h9 a0 ((21 : Int32) + x2) v10) fun q11 =>
Option.bind (stI q11.2 (rf a0 9) x2 q11.1) fun h12 =>
k50 h12 a0 (x2 + (1 : Int32)))
def b_X5_carryAll_50 : Nat → Hp → Nat → Int32 → Option (Hp)
  | 0 => fun _ _ _ => none
  | n + 1 => f_X5_carryAll_50  (b_X5_carryAll_50  n)
def sh_X5_carryAll (h : Hp) (a0 : Nat) (x1 : Int32) : Option (Hp) :=
Option.bind (sh_X5_carryDays h a0 (rf a0 37) x1) fun h1 =>
Option.bind (sh_X5_carryMore h1 a0 (0 : Int32) (h1.1 a0 0)) fun q2 =>
Option.bind (sh_X5_carryMore (wI q2.2 a0 0 q2.1) a0 (1 : Int32) ((wI q2.2 a0 0 q2.1).1 a0 3)) fun q3 =>
Option.bind (sh_X5_carryMore (wI q3.2 a0 3 q3.1) a0 (2 : Int32) ((wI q3.2 a0 3 q3.1).1 a0 5)) fun q4 =>
b_X5_carryAll_50 1000 (wI q4.2 a0 5 q4.1) a0 (0 : Int32)
def sh_X5_image (h : Hp) (a0 : Nat) : Option (Int32 × Hp) :=
Option.bind (sh_X5_carryAll (wI (wI h a0 13 (0 : Int32)) a0 36 (1 : Int32)) a0 (1 : Int32)) fun h1 =>
some ((h1.1 a0 1), h1)
def sh_X5_restore (h : Hp) (a0 : Nat) : Option (Int32 × Hp) :=
if ((wI h a0 13 (0 : Int32)).1 a0 36) = 0 then (
Option.bind (sh_X5_refuse (wI h a0 13 (0 : Int32)) a0 (-3 : Int32)) fun q1 =>
some (q1.1, q1.2))
else (
Option.bind (sh_X5_carryAll (wI h a0 13 (0 : Int32)) a0 (0 : Int32)) fun h2 =>
some ((h2.1 a0 1), h2))
def b_X5_sum_38 (k4 : Hp → Nat → Int32 → Int32 → Int32 → Option (Int32)) (h : Hp) (a0 : Nat) (x1 : Int32) (x3 : Int32) (s0 : Int32) (s1 : Int32) : Option (Int32) :=
k4 h a0 x1 (s0 + s1) (x3 + (1 : Int32))
def f_X5_sum_4 (k4 : Hp → Nat → Int32 → Int32 → Int32 → Option (Int32)) (h : Hp) (a0 : Nat) (x1 : Int32) (x2 : Int32) (x3 : Int32) : Option (Int32) :=
if (h.1 a0 0) ≤ x3 then (
some x2)
else (
if x1 = 0 then (
Option.bind (sh_X5_given h a0 (h.1 a0 1) x3) fun v1 =>
b_X5_sum_38 k4 h a0 x1 x3 x2 v1)
else (
Option.bind (sh_X5_got h a0 (h.1 a0 1) x3) fun v2 =>
b_X5_sum_38 k4 h a0 x1 x3 x2 v2))
def b_X5_sum_4 : Nat → Hp → Nat → Int32 → Int32 → Int32 → Option (Int32)
  | 0 => fun _ _ _ _ _ => none
  | n + 1 => f_X5_sum_4  (b_X5_sum_4  n)
def sh_X5_sum (h : Hp) (a0 : Nat) (x1 : Int32) : Option (Int32) :=
b_X5_sum_4 1000 h a0 x1 (0 : Int32) (0 : Int32)
def b_X5_count_113 (h : Hp) (s0 : Int32) : Option (Int32 × Hp) :=
some (s0, h)
def sh_X5_count (h : Hp) (a0 : Nat) (x1 : Int32) : Option (Int32 × Hp) :=
if x1 = (0 : Int32) then (
some (((wI h a0 13 (0 : Int32)).1 a0 0), (wI h a0 13 (0 : Int32))))
else if x1 = (1 : Int32) then (
some (((wI h a0 13 (0 : Int32)).1 a0 1), (wI h a0 13 (0 : Int32))))
else if x1 = (2 : Int32) then (
Option.bind (sh_X5_all (wI h a0 13 (0 : Int32)) a0) fun v1 =>
some (v1, (wI h a0 13 (0 : Int32))))
else if x1 = (3 : Int32) then (
Option.bind (sh_X5_sum (wI h a0 13 (0 : Int32)) a0 (1 : Int32)) fun v2 =>
some (v2, (wI h a0 13 (0 : Int32))))
else if x1 = (4 : Int32) then (
Option.bind (sh_X5_sum (wI h a0 13 (0 : Int32)) a0 (0 : Int32)) fun v3 =>
some (v3, (wI h a0 13 (0 : Int32))))
else if x1 = (5 : Int32) then (
some (((wI h a0 13 (0 : Int32)).1 a0 21), (wI h a0 13 (0 : Int32))))
else if x1 = (6 : Int32) then (
some (((wI h a0 13 (0 : Int32)).1 a0 34), (wI h a0 13 (0 : Int32))))
else (
Option.bind (sh_X5_in (wI h a0 13 (0 : Int32)) (x1).toInt64 (11 : Int64) (16 : Int64)) fun v4 =>
if v4 = 0 then (
b_X5_count_113 (wI h a0 13 (0 : Int32)) (-9 : Int32))
else (
Option.bind (ldI (wI h a0 13 (0 : Int32)) (rf a0 14) (x1 - (10 : Int32))) fun v5 =>
b_X5_count_113 (wI h a0 13 (0 : Int32)) v5))
