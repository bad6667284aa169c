/-! PURE: letters; feed; how the class scans them -/
section FE
variable {h h' h1 h2 : Hp} {k : Nat} {X Y : St}
set_option maxHeartbeats 400000 in
theorem a_feed (x1 : Int32) : Same k (fun h => sh_X4_feed h 0 x1) (fun h => sh_X5_feed h 120 x1) := by
  intro h X Y g hk
  obtain ⟨L, l1, l2, l3, l4⟩ := g.2.2.2.2.1
  by_cases w1 : (0 : Int32) ≤ x1
  · by_cases w2 : (255 : Int32) < x1
    · refine s_ref g hk (r := -6) (by unfold isR; simp) ?_ (fun h1 _ _ m => ?_)
      · show sh_X4_feed h 0 x1 = _
        unfold sh_X4_feed
        rw [if_pos w1, if_pos w2]
        rfl
      · show sh_X5_feed h1 120 x1 = _
        unfold sh_X5_feed
        rw [if_pos w1, if_pos w2]
        rfl
    · by_cases z : L = 64
      · refine s_ref g hk (r := -6) (by unfold isR; simp) ?_ (fun h1 q _ m => ?_)
        · show sh_X4_feed h 0 x1 = _
          unfold sh_X4_feed sh_X1_isFull
          rw [if_pos w1, if_neg w2, xf4, l2, z, if_neg (show ¬ nI 64 < (64 : Int32) from by decide)]
          rfl
        · show sh_X5_feed h1 120 x1 = _
          unfold sh_X5_feed
          rw [if_pos w1, if_neg w2]
          show (if (th h1).1 120 21 = (64 : Int32) then _ else _) = _
          rw [th_ne (by omega), q 120 21 (by omega), l3, z, if_pos (show nI 64 = (64 : Int32) from rfl)]
          rfl
      · refine ⟨nI (L + 1), wI (wI h 6 L x1) 5 1 (nI (L + 1)), wI (wI (th (wI (wI h 6 L x1) 5 1 (nI (L + 1)))) 130 L x1) 120 21 (nI (L + 1)), ?_, ?_, ?_⟩
        · show sh_X4_feed h 0 x1 = _
          unfold sh_X4_feed sh_X1_isFull sh_X1_add b_X1_add_29
          rw [if_pos w1, if_neg w2, xf4, l2, L64, if_pos (nI_lt (by omega) (by omega)), if_neg (nI_ge (by omega) (by omega))]
          show Option.bind (Option.bind (stI h 6 (nI L) x1) _) _ = _
          rw [stI_n (a := 6) (show L < 64 from by omega) (by omega), Option.bind_some, rdI, if_pos ⟨rfl, rfl⟩, rdI, if_neg (by omega), l2, L1, nI_add]
          rfl
        · show sh_X5_feed _ 120 x1 = _
          unfold sh_X5_feed
          rw [if_pos w1, if_neg w2]
          generalize hh : wI (wI h 6 L x1) 5 1 (nI (L + 1)) = h1
          have e34 : (th h1).1 120 21 = nI L := by rw [th_ne (by omega), ← hh, rdI, if_neg (by omega), rdI, if_neg (by omega), l3]
          show (if (th h1).1 120 21 = (64 : Int32) then _ else Option.bind (stI (th h1) (rf 120 20) ((th h1).1 120 21) x1) _) = _
          rw [e34, if_neg (show ¬ nI L = (64 : Int32) from by rw [L64, nI_eq (by omega) (by omega)]; exact z), mf20, stI_n (a := 130) (show L < 64 from by omega) (by omega), Option.bind_some, rdI, if_pos ⟨rfl, rfl⟩, rdI, if_neg (by omega), e34, L1, nI_add]
        · obtain ⟨R, r1, r2, r3, r4⟩ := g.2.2.2.2.2.1
          have ee : ∀ c j, (wI (wI (th (wI (wI h 6 L x1) 5 1 (nI (L + 1)))) 130 L x1) 120 21 (nI (L + 1))).1 c j = if c = 120 ∧ j = 21 then nI (L + 1) else if c = 130 ∧ j = L then x1 else if c = 120 ∧ j = 13 then 0 else if c = 5 ∧ j = 1 then nI (L + 1) else if c = 6 ∧ j = L then x1 else h.1 c j := fun c j => by
            rw [rdI, rdI]
            unfold th
            rw [rdI, rdI, rdI]
          refine ⟨X, Y, Gi.mono (k := k) ?_ (by omega) (by omega)⟩
          refine g.rl ?_ ?_ (fun c j q1 q2 => ?_) (fun c j _ => rfl)
          · refine ⟨L + 1, by omega, ?_, ?_, fun j hj => ?_⟩
            · rw [ee, if_neg (by omega), if_neg (by omega), if_neg (by omega), if_pos ⟨rfl, rfl⟩]
            · rw [ee, if_pos ⟨rfl, rfl⟩]
            · by_cases y : j = L
              · rw [ee, if_neg (by omega), if_neg (by omega), if_neg (by omega), if_neg (by omega), if_pos ⟨rfl, y⟩, ee, if_neg (by omega), if_pos ⟨rfl, y⟩]
              · rw [ee, if_neg (by omega), if_neg (by omega), if_neg (by omega), if_neg (by omega), if_neg (by omega), ee, if_neg (by omega), if_neg (by omega), if_neg (by omega), if_neg (by omega), if_neg (by omega)]
                exact l4 j (by omega)
          · refine ⟨R, r1, ?_, ?_, fun j hj => ?_⟩
            · rw [ee, if_neg (by omega), if_neg (by omega), if_neg (by omega), if_neg (by omega), if_neg (by omega), r2]
            · rw [ee, if_neg (by omega), if_neg (by omega), if_neg (by omega), if_neg (by omega), if_neg (by omega), r3]
            · rw [ee, if_neg (by omega), if_neg (by omega), if_neg (by omega), if_neg (by omega), if_neg (by omega), ee, if_neg (by omega), if_neg (by omega), if_neg (by omega), if_neg (by omega), if_neg (by omega)]
              exact r4 j hj
          · unfold Jn at q1
            unfold RLJ at q2
            rw [ee, if_neg (by omega), if_neg (by omega), if_neg (by omega), if_neg (by omega), if_neg (by omega)]
  · refine s_ref g hk (r := -4) (by unfold isR; simp) ?_ (fun h1 _ _ m => ?_)
    · show sh_X4_feed h 0 x1 = _
      unfold sh_X4_feed
      rw [if_neg w1]
    · show sh_X5_feed h1 120 x1 = _
      unfold sh_X5_feed
      rw [if_neg w1]
      rfl
/-! letters as a function: -1 behind the end -/
def dg (x : Int32) : Bool := decide ((48 : Int32) ≤ x) && decide (x ≤ (57 : Int32))
def rn (c : Nat → Int32) (j : Nat) : Nat → Nat
  | 0 => 0
  | m + 1 => if dg (c j) then 1 + rn c (j + 1) m else 0
def ps (c : Nat → Int32) (i : Nat) : Bool × Nat :=
  if c i = 108 then (if rn c (i + 1) 3 < 3 then (false, i + 1 + rn c (i + 1) 3) else if c (i + 4) = 59 then (true, i + 5) else (false, i + 4))
  else if c i = 112 then (if rn c (i + 1) 7 < 4 then (false, i + 1 + rn c (i + 1) 7) else if c (i + 1 + rn c (i + 1) 7) = 44 then (if rn c (i + 1 + rn c (i + 1) 7 + 1) 2 < 1 then (false, i + 1 + rn c (i + 1) 7 + 1 + rn c (i + 1 + rn c (i + 1) 7 + 1) 2) else if c (i + 1 + rn c (i + 1) 7 + 1 + rn c (i + 1 + rn c (i + 1) 7 + 1) 2) = 59 then (true, i + 1 + rn c (i + 1) 7 + 1 + rn c (i + 1 + rn c (i + 1) 7 + 1) 2 + 1) else (false, i + 1 + rn c (i + 1) 7 + 1 + rn c (i + 1 + rn c (i + 1) 7 + 1) 2)) else (false, i + 1 + rn c (i + 1) 7))
  else (false, i)
set_option maxHeartbeats 400000 in
theorem rn_le (c : Nat → Int32) : ∀ (m j : Nat), rn c j m ≤ m
  | 0, j => Nat.le_refl _
  | m + 1, j => by
    have := rn_le c m (j + 1)
    show (if dg (c j) then 1 + rn c (j + 1) m else 0) ≤ m + 1
    split <;> omega
def TX (L : Nat) (c : Nat → Int32) (h : Hp) : Prop := h.1 5 1 = nI L ∧ ∀ j, j < L → h.1 6 j = c j
def Ch (L : Nat) (c : Nat → Int32) : Prop := L ≤ 64 ∧ ∀ j, L ≤ j → c j = -1
variable {L : Nat} {c : Nat → Int32}
set_option maxHeartbeats 400000 in
theorem zf0 : rf 5 0 = 6 := rfl
set_option maxHeartbeats 400000 in
theorem TX.pos (t : TX L c h) (x : Int32) : TX L c (wI h 5 2 x) := ⟨by rw [rdI, if_neg (by omega)]; exact t.1, fun j hj => by rw [rdI, if_neg (by omega)]; exact t.2 j hj⟩
set_option maxHeartbeats 400000 in
theorem x_isAt (hc : Ch L c) (t : TX L c h) (x : Int32) (hx : x ≠ -1) {j : Nat} (hj : j < 100000) : sh_X1_isAt h 5 x (nI j) = some (nI (if c j = x then 1 else 0)) := by
  have hL := hc.1
  unfold sh_X1_isAt b_X1_isAt_26 b_X1_isAt_27
  rw [if_neg (nI_pos (by omega)), t.1]
  by_cases w : L ≤ j
  · rw [if_pos (nI_le w (by omega)), hc.2 j w, if_neg (fun z => hx z.symm)]
    rfl
  · rw [if_neg (nI_ge (by omega) (by omega)), zf0, ldI_n (a := 6) (show j < 64 from by omega) (by omega), Option.bind_some, t.2 j (by omega)]
    by_cases z : c j = x
    · rw [if_pos z, if_pos z]
      rfl
    · rw [if_neg z, if_neg z]
      rfl
set_option maxHeartbeats 400000 in
theorem x_dig (hc : Ch L c) (t : TX L c h) {j : Nat} (hj : j < 100000) : sh_X1_isDigitAt h 5 (nI j) = some (nI (if dg (c j) then 1 else 0)) := by
  have hL := hc.1
  unfold sh_X1_isDigitAt b_X1_isDigitAt_38 b_X1_isDigitAt_39
  rw [if_neg (nI_pos (by omega)), t.1]
  by_cases w : L ≤ j
  · rw [if_pos (nI_le w (by omega)), hc.2 j w]
    rfl
  · rw [if_neg (nI_ge (by omega) (by omega)), zf0, ldI_n (a := 6) (show j < 64 from by omega) (by omega), Option.bind_some, Option.bind_some, t.2 j (by omega)]
    unfold dg
    by_cases z1 : (48 : Int32) ≤ c j
    · rw [if_neg (show ¬ c j < 48 from i_nlt.mpr z1)]
      by_cases z2 : c j ≤ (57 : Int32)
      · rw [if_neg (show ¬ (57 : Int32) < c j from i_nlt.mpr z2), decide_eq_true z1, decide_eq_true z2]
        rfl
      · rw [if_pos (i_nle.mp z2), decide_eq_false z2, Bool.and_false]
        rfl
    · rw [if_pos (i_nle.mp z1), decide_eq_false z1, Bool.false_and]
      rfl
set_option maxHeartbeats 400000 in
theorem wI_wI (h : Hp) (a j : Nat) (x y : Int32) : wI (wI h a j x) a j y = wI h a j y := by
  have : (wI (wI h a j x) a j y).1 = (wI h a j y).1 := by
    funext b i
    rw [rdI, rdI, rdI]
    by_cases w : b = a ∧ i = j
    · rw [if_pos w, if_pos w]
    · rw [if_neg w, if_neg w, if_neg w]
  exact Prod.ext this rfl
set_option maxHeartbeats 400000 in
theorem x_passes (hc : Ch L c) (t : TX L c h) (x : Int32) (hx : x ≠ -1) {i : Nat} (hi : i < 1000) : sh_X1_passes (wI h 5 2 (nI i)) 5 x = some (nI (if c i = x then 1 else 0), wI h 5 2 (nI (if c i = x then i + 1 else i))) := by
  unfold sh_X1_passes
  have e : (wI h 5 2 (nI i)).1 5 2 = nI i := by rw [rdI, if_pos ⟨rfl, rfl⟩]
  rw [e, x_isAt hc (t.pos _) x hx (by omega), Option.bind_some]
  by_cases w : c i = x
  · rw [if_pos w, if_neg (by decide), if_pos w, wI_wI, L1, nI_add]
  · rw [if_neg w, if_pos (by decide), if_neg w]
    rfl
set_option maxHeartbeats 400000 in
theorem x_digits2 (hc : Ch L c) (t : TX L c h) {lo hi : Nat} (hhi : hi < 100) (hlo : lo < 100) : ∀ (m i x fuel : Nat), x + m = hi → m < fuel → i + m < 1000 → b_X1_passesDigits_2 fuel (wI h 5 2 (nI i)) 5 (nI lo) (nI hi) (nI x) = some (nI (if x + rn c i m < lo then 0 else 1), wI h 5 2 (nI (i + rn c i m)))
  | m, i, x, 0, e, hf, hi2 => by omega
  | 0, i, x, fuel + 1, e, hf, hi2 => by
    show f_X1_passesDigits_2 (b_X1_passesDigits_2 fuel) (wI h 5 2 (nI i)) 5 (nI lo) (nI hi) (nI x) = _
    unfold f_X1_passesDigits_2 b_X1_passesDigits_34 b_X1_passesDigits_44
    rw [if_pos (nI_le (by omega) (by omega))]
    show _ = some (nI (if x + 0 < lo then 0 else 1), wI h 5 2 (nI (i + 0)))
    by_cases w : x < lo
    · rw [if_pos (nI_lt w (by omega)), if_pos (by omega)]
      rfl
    · rw [if_neg (nI_nlt (by omega) (by omega)), if_neg (by omega)]
      rfl
  | m + 1, i, x, fuel + 1, e, hf, hi2 => by
    have er : (wI h 5 2 (nI i)).1 5 2 = nI i := by rw [rdI, if_pos ⟨rfl, rfl⟩]
    show f_X1_passesDigits_2 (b_X1_passesDigits_2 fuel) (wI h 5 2 (nI i)) 5 (nI lo) (nI hi) (nI x) = _
    unfold f_X1_passesDigits_2
    rw [if_neg (nI_ge (by omega) (by omega)), er, x_dig hc (t.pos _) (by omega), Option.bind_some]
    show _ = some (nI (if x + (if dg (c i) then 1 + rn c (i + 1) m else 0) < lo then 0 else 1), wI h 5 2 (nI (i + (if dg (c i) then 1 + rn c (i + 1) m else 0))))
    by_cases w : dg (c i) = true
    · rw [if_pos w, if_neg (by decide), wI_wI, L1, nI_add, nI_add, x_digits2 hc t hhi hlo m (i + 1) (x + 1) fuel (by omega) (by omega) (by omega), if_pos w, show x + 1 + rn c (i + 1) m = x + (1 + rn c (i + 1) m) from by omega, show i + 1 + rn c (i + 1) m = i + (1 + rn c (i + 1) m) from by omega]
    · rw [if_neg w, if_pos (by decide), if_neg w]
      unfold b_X1_passesDigits_34 b_X1_passesDigits_44
      rw [Nat.add_zero, Nat.add_zero]
      by_cases z : x < lo
      · rw [if_pos (nI_lt z (by omega)), if_pos z]
        rfl
      · rw [if_neg (nI_nlt (by omega) (by omega)), if_neg z]
        rfl
set_option maxHeartbeats 400000 in
theorem x_digits (hc : Ch L c) (t : TX L c h) {lo hi i : Nat} (hhi : hi < 100) (hlo : lo < 100) (hi2 : i + hi < 1000) : sh_X1_passesDigits (wI h 5 2 (nI i)) 5 (nI lo) (nI hi) = some (nI (if rn c i hi < lo then 0 else 1), wI h 5 2 (nI (i + rn c i hi))) := by
  unfold sh_X1_passesDigits
  have := x_digits2 hc t (lo := lo) hhi hlo hi i 0 1000 (by omega) (by omega) hi2
  rw [Nat.zero_add] at this
  exact this
set_option maxHeartbeats 400000 in
theorem x_stmt (hc : Ch L c) (t : TX L c h) {i : Nat} (hi : i < 100) : sh_X1_passesStatement (wI h 5 2 (nI i)) 5 = some (nI (if (ps c i).1 then 1 else 0), wI h 5 2 (nI (ps c i).2)) := by
  have r3 := rn_le c 3 (i + 1)
  have r7 := rn_le c 7 (i + 1)
  have r2 := rn_le c 2 (i + 1 + rn c (i + 1) 7 + 1)
  unfold sh_X1_passesStatement b_X1_passesStatement_31 b_X1_passesStatement_32 b_X1_passesStatement_83 b_X1_passesStatement_84 ps
  rw [x_passes hc t 108 (by decide) (by omega), Option.bind_some]
  by_cases w : c i = 108
  · rw [if_pos w, if_pos w, if_neg (show ¬ nI 1 = 0 from by decide), if_pos w, L3, x_digits hc t (by decide) (by decide) (by omega), Option.bind_some]
    by_cases w1 : rn c (i + 1) 3 < 3
    · rw [if_pos w1, if_pos (show nI 0 = 0 from rfl), if_pos w1]
      rfl
    · rw [if_neg w1, if_neg (show ¬ nI 1 = 0 from by decide), if_neg w1, show i + 1 + rn c (i + 1) 3 = i + 4 from by omega, x_passes hc t 59 (by decide) (by omega), Option.bind_some]
      by_cases w2 : c (i + 4) = 59
      · rw [if_pos w2, if_pos w2, if_pos w2, if_neg (show ¬ nI 1 = 0 from by decide)]
        rfl
      · rw [if_neg w2, if_neg w2, if_neg w2, if_pos (show nI 0 = 0 from rfl)]
        rfl
  · rw [if_neg w, if_neg w, if_pos (show nI 0 = 0 from rfl), if_neg w, x_passes hc t 112 (by decide) (by omega), Option.bind_some]
    by_cases v : c i = 112
    · rw [if_pos v, if_pos v, if_neg (show ¬ nI 1 = 0 from by decide), if_pos v, L4, L7, x_digits hc t (by decide) (by decide) (by omega), Option.bind_some]
      generalize hk7 : rn c (i + 1) 7 = k7 at *
      by_cases w1 : k7 < 4
      · rw [if_pos w1, if_pos (show nI 0 = 0 from rfl), if_pos w1]
        rfl
      · rw [if_neg w1, if_neg (show ¬ nI 1 = 0 from by decide), if_neg w1, x_passes hc t 44 (by decide) (by omega), Option.bind_some]
        by_cases w2 : c (i + 1 + k7) = 44
        · rw [if_pos w2, if_pos w2, if_pos w2, if_neg (show ¬ nI 1 = 0 from by decide), L1, L2, x_digits hc t (by decide) (by decide) (by omega), Option.bind_some]
          generalize hk2 : rn c (i + 1 + k7 + 1) 2 = k2 at *
          by_cases w3 : k2 < 1
          · rw [if_pos w3, if_pos (show nI 0 = 0 from rfl), if_pos w3]
            rfl
          · rw [if_neg w3, if_neg (show ¬ nI 1 = 0 from by decide), if_neg w3, x_passes hc t 59 (by decide) (by omega), Option.bind_some]
            by_cases w4 : c (i + 1 + k7 + 1 + k2) = 59
            · rw [if_pos w4, if_pos w4, if_pos w4, if_neg (show ¬ nI 1 = 0 from by decide)]
              rfl
            · rw [if_neg w4, if_neg w4, if_neg w4, if_pos (show nI 0 = 0 from rfl)]
              rfl
        · rw [if_neg w2, if_neg w2, if_neg w2, if_pos (show nI 0 = 0 from rfl)]
          rfl
    · rw [if_neg v, if_neg v, if_neg v, if_pos (show nI 0 = 0 from rfl)]
      rfl
end FE
