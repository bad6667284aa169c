/-! PURE: statements come, to both -/
section CM
variable {h h' h1 h2 : Hp} {k : Nat} {X Y : St} {L : Nat} {c : Nat → Int32}
set_option maxHeartbeats 400000 in
theorem c_law (hv : VR h 32 X) (hI : Iv k X) {a b d : Nat} (ha : a ≤ 9) (hb : b ≤ 9) (hd : d ≤ 9) : (a ≤ 5 ∧ 1 ≤ b ∧ b ≤ 5 ∧ d ≤ 5 ∧ ∃ h', sh_X3_takeLaw h 32 (nI a) (nI b) (nI d) = some (nI 1, h') ∧ VR h' 32 (nL X a b d) ∧ VF 32 h h') ∨ (¬ (a ≤ 5 ∧ 1 ≤ b ∧ b ≤ 5 ∧ d ≤ 5) ∧ sh_X3_takeLaw h 32 (nI a) (nI b) (nI d) = some (nI 0, h)) := by
  have s1 : ldS 138 (1 : Int32) = some (nI 1) := rfl
  have s2 : ldS 139 (1 : Int32) = some (nI 5) := rfl
  unfold sh_X3_takeLaw b_X3_takeLaw_27
  by_cases w1 : a ≤ 5
  · rw [L5, if_neg (nI_nlt (a := 5) w1 (by omega)), s1, Option.bind_some, s2, Option.bind_some, out_val, Option.bind_some]
    unfold ov
    by_cases w2 : 1 ≤ b
    · rw [if_pos (nI_le w2 (by omega))]
      by_cases w3 : b ≤ 5
      · rw [if_pos (nI_le w3 (by omega)), if_pos rfl]
        by_cases w4 : d ≤ 5
        · refine Or.inl ⟨w1, w2, w3, w4, ?_⟩
          have v1 := hv.set (j := 0) (v := a) (by decide) (by decide)
          have v2 := v1.set (j := 1) (v := b) (by decide) (by decide)
          have i1 := Iv_set hI (j := 0) (v := a) (by decide) (Nat.zero_le _) (by show a ≤ 5; exact w1)
          have i2 := Iv_set i1 (j := 1) (v := b) (by decide) (by show 1 ≤ b; exact w2) (by show b ≤ 5; exact w3)
          obtain ⟨h', c1, c2, c3⟩ := p_change v32 v2 (j := 2) (v := d) (by decide) (fun _ => w4) (by omega) (by
            have := i2.2.2.2.2.2.2.1
            show (up1 (up1 X.1 0 (2 + 0) a) 0 (2 + 1) b) 0 4 ≤ 99
            have this' : (up1 (up1 X.1 0 (2 + 0) a) 0 (2 + 1) b) 0 4 ≤ 5 := this
            omega)
          refine ⟨h', ?_, c2, ((VF.wI h 0 (nI a) (by omega) (by omega)).tr (VF.wI _ 1 (nI b) (by omega) (by omega))).tr c3⟩
          rw [if_pos (nI_le w4 (by omega)), rf5 v32, L0, stI_n (a := 32 + 6) (show 0 < 4 from by decide) (by omega), Option.bind_some, L1, stI_n (a := 32 + 6) (show 1 < 4 from by decide) (by omega), Option.bind_some, L2, c1]
          rfl
        · refine Or.inr ⟨by omega, ?_⟩
          rw [if_neg (show ¬ nI d ≤ nI 5 from nI_ge (by omega) (by omega))]
          rfl
      · refine Or.inr ⟨by omega, ?_⟩
        rw [if_neg (show ¬ nI b ≤ nI 5 from nI_ge (by omega) (by omega)), if_neg (by decide)]
        rfl
    · refine Or.inr ⟨by omega, ?_⟩
      rw [if_neg (show ¬ nI 1 ≤ nI b from nI_ge (by omega) (by omega)), if_neg (by decide)]
      rfl
  · refine Or.inr ⟨by omega, ?_⟩
    rw [L5, if_pos (nI_lt (by omega) (by omega))]
    rfl
set_option maxHeartbeats 400000 in
theorem c_welcome (hv : VR h 32 X) (hI : Iv k X) {a b t s f : Nat} (ha : a ≤ 9) (ht : t ≤ 9) : ((a ≤ 7 ∧ (t = 9 ∨ t ≤ X.1 0 0) ∧ X.1 0 0 < 6 ∧ X.1 0 1 = 0) ∧ ∃ h', sh_X3_welcome h 32 (nI a) (nI b) (nI t) (nI s) (nI f) = some (nI 1, h') ∧ VR h' 32 (nP X a b t s f) ∧ VF 32 h h') ∨ (¬ (a ≤ 7 ∧ (t = 9 ∨ t ≤ X.1 0 0) ∧ X.1 0 0 < 6 ∧ X.1 0 1 = 0) ∧ sh_X3_welcome h 32 (nI a) (nI b) (nI t) (nI s) (nI f) = some (nI 0, h)) := by
  have hP := hI.2.1
  have hD : X.1 0 1 ≤ 1000 := Nat.le_trans hI.2.2.1 hI.1
  have st : sh_X3_welcome h 32 (nI a) (nI b) (nI t) (nI s) (nI f) = b_X3_welcome_19 h 32 (nI a) (nI b) (nI t) (nI s) (nI f) (nI (if t = 9 ∨ t ≤ X.1 0 0 then 1 else 0)) := by
    unfold sh_X3_welcome b_X3_welcome_14
    by_cases w : t = 9
    · rw [w, if_pos (show nI 9 = (9 : Int32) from rfl), if_pos (Or.inl rfl)]
      rfl
    · rw [if_neg (show ¬ nI t = (9 : Int32) from by rw [L9, nI_eq (by omega) (by omega)]; exact w), hv.1]
      by_cases w2 : t ≤ X.1 0 0
      · rw [if_neg (show ¬ nI (X.1 0 0) < nI t from nI_nlt w2 (by omega)), if_pos (Or.inr w2)]
        rfl
      · rw [if_pos (nI_lt (by omega) (by omega)), if_neg (by omega)]
        rfl
  rw [st]
  unfold b_X3_welcome_19 b_X3_welcome_48
  rw [hv.2.1, hv.1]
  by_cases w1 : X.1 0 1 = 0
  · rw [w1, if_neg (show ¬ (0 : Int32) < nI 0 from by decide)]
    by_cases w2 : X.1 0 0 < 6
    · rw [L6, if_neg (nI_ge w2 (by omega))]
      by_cases w3 : a ≤ 7
      · rw [L7, if_neg (show ¬ nI 7 < nI a from nI_nlt w3 (by omega))]
        by_cases w4 : t = 9 ∨ t ≤ X.1 0 0
        · rw [if_pos w4, if_neg (by decide)]
          refine Or.inl ⟨⟨w3, w4, w2, rfl⟩, ?_⟩
          generalize hp : X.1 0 0 = P at *
          have v1 := hv.fld (c := 1) (p := P) (v := a) (by decide) (by decide)
          have v2 := v1.fld (c := 2) (p := P) (v := b) (by decide) (by decide)
          have v3 := v2.fld (c := 3) (p := P) (v := t) (by decide) (by decide)
          have v4 := v3.fld (c := 4) (p := P) (v := s) (by decide) (by decide)
          have v5 := v4.fld (c := 5) (p := P) (v := f) (by decide) (by decide)
          have v6 := v5.ppl (P + 1)
          have e7 : h.1 32 7 = nI P := by rw [hv.1, hp]
          have r7 : ∀ (g : Hp) (q : Nat) (x : Int32), g.1 32 7 = nI P → (wI g (32 + q + 1) P x).1 32 7 = nI P := fun g q x e => by rw [rdI, if_neg (by omega), e]
          refine ⟨_, ?_, by unfold nP; rw [hp]; exact v6, (((((VF.wI h P (nI a) (by omega) (by omega)).tr (VF.wI _ P (nI b) (by omega) (by omega))).tr (VF.wI _ P (nI t) (by omega) (by omega))).tr (VF.wI _ P (nI s) (by omega) (by omega))).tr (VF.wI _ P (nI f) (by omega) (by omega))).tr (VF.wI _ 7 (nI (P + 1)) (by omega) (by omega))⟩
          have q1 : (wI h (32 + 1) P (nI a)).1 32 7 = nI P := r7 h 0 _ e7
          have q2 : (wI (wI h (32 + 1) P (nI a)) (32 + 2) P (nI b)).1 32 7 = nI P := r7 _ 1 _ q1
          have q3 : (wI (wI (wI h (32 + 1) P (nI a)) (32 + 2) P (nI b)) (32 + 3) P (nI t)).1 32 7 = nI P := r7 _ 2 _ q2
          have q4 : (wI (wI (wI (wI h (32 + 1) P (nI a)) (32 + 2) P (nI b)) (32 + 3) P (nI t)) (32 + 4) P (nI s)).1 32 7 = nI P := r7 _ 3 _ q3
          have q5 : (wI (wI (wI (wI (wI h (32 + 1) P (nI a)) (32 + 2) P (nI b)) (32 + 3) P (nI t)) (32 + 4) P (nI s)) (32 + 5) P (nI f)).1 32 7 = nI P := r7 _ 4 _ q4
          rw [rf0 v32, rf1 v32, rf2 v32, rf3 v32, rf4 v32, stI_n (a := 32 + 1) (show P < 6 from w2) (by omega), Option.bind_some, q1, stI_n (a := 32 + 2) (show P < 6 from w2) (by omega), Option.bind_some, q2, stI_n (a := 32 + 3) (show P < 6 from w2) (by omega), Option.bind_some, q3, stI_n (a := 32 + 4) (show P < 6 from w2) (by omega), Option.bind_some, q4, stI_n (a := 32 + 5) (show P < 6 from w2) (by omega), Option.bind_some, q5, L1, nI_add]
        · rw [if_neg w4, if_pos (by decide)]
          exact Or.inr ⟨by omega, rfl⟩
      · rw [L7, if_pos (nI_lt (by omega) (by omega))]
        exact Or.inr ⟨by omega, rfl⟩
    · rw [L6, if_pos (nI_le (by omega) (by omega))]
      exact Or.inr ⟨by omega, rfl⟩
  · rw [if_pos (show (0 : Int32) < nI (X.1 0 1) from by rw [L0]; exact nI_lt (by omega) (by omega))]
    exact Or.inr ⟨by omega, rfl⟩
set_option maxHeartbeats 400000 in
theorem dg44 : dg 44 = false := by decide
set_option maxHeartbeats 400000 in
theorem dg59 : dg 59 = false := by decide
set_option maxHeartbeats 400000 in
theorem dg_ne {x y : Int32} (h : dg x = true) (hy : dg y = false) : x ≠ y := fun e => by
  rw [e, hy] at h
  exact absurd h Bool.false_ne_true
-- where the letters of a person's statement lie
set_option maxHeartbeats 400000 in
theorem FS_next (hc : Ch L c) (t : TX L c h) {i e : Nat} (f : FS c i e) (hi : i < 90) : sh_X1_next h 5 (59 : Int32) (nI i) = some (nI (e - 1)) := by
  rcases f with ⟨w, q, q2, q3⟩ | ⟨w, w2, q, r, m, hr, r1, r2, r3, hm, m1, m2, m3, m4⟩
  · rw [q3, show i + 5 - 1 = i + 4 from by omega]
    refine x_next hc t (by decide) q2 (by omega) (fun x h1 h2 => ?_)
    by_cases z : x = i
    · rw [z, w]
      decide
    · have := rn_dg (c := c) 3 (i + 1) (x - (i + 1)) (by omega)
      rw [show i + 1 + (x - (i + 1)) = x from by omega] at this
      exact dg_ne this dg59
  · rw [m4, show i + 6 + r + m - 1 = i + 5 + r + m from by omega]
    refine x_next hc t (by decide) m3 (by omega) (fun x h1 h2 => ?_)
    by_cases z : x = i
    · rw [z, w2]
      decide
    · by_cases z2 : x < i + 4
      · have := rn_dg (c := c) 3 (i + 1) (x - (i + 1)) (by omega)
        rw [show i + 1 + (x - (i + 1)) = x from by omega] at this
        exact dg_ne this dg59
      · by_cases z3 : x < i + 4 + r
        · have := rn_dg (c := c) 4 (i + 4) (x - (i + 4)) (by omega)
          rw [show i + 4 + (x - (i + 4)) = x from by omega] at this
          exact dg_ne this dg59
        · by_cases z4 : x = i + 4 + r
          · rw [z4, r3]
            decide
          · have := rn_dg (c := c) 2 (i + 5 + r) (x - (i + 5 + r)) (by omega)
            rw [show i + 5 + r + (x - (i + 5 + r)) = x from by omega] at this
            exact dg_ne this dg59
set_option maxHeartbeats 400000 in
theorem c_comes (hc : Ch L c) (t : TX L c h) (hv : VR h 32 X) (hI : Iv k X) {i e : Nat} (f : FS c i e) (hi : i < 90) : (gdS (X.1 0 0) (X.1 0 1) c i = true ∧ ∃ h', sh_X4_comesInMind h 0 (nI i) = some (nI 1, h') ∧ VR h' 32 (nxS X c i) ∧ VF 32 h h') ∨ (gdS (X.1 0 0) (X.1 0 1) c i = false ∧ sh_X4_comesInMind h 0 (nI i) = some (nI 0, h)) := by
  obtain ⟨d1, d2, d3⟩ := FS_d f
  have b1 := (dg_dv d1).1
  have b2 := (dg_dv d2).1
  have b3 := (dg_dv d3).1
  unfold sh_X4_comesInMind
  rw [xf4, L1, L2, L3, nI_add, nI_add, nI_add, x_digit hc t (by omega) d1, Option.bind_some, x_digit hc t (by omega) d2, Option.bind_some, x_digit hc t (by omega) d3, Option.bind_some, x_isAt hc t 108 (by decide) (by omega), Option.bind_some]
  rcases f with ⟨w, q, q2, q3⟩ | ⟨w, w2, q, r, m, hr, r1, r2, r3, hm, m1, m2, m3, m4⟩
  · rw [if_pos w, if_neg (show ¬ nI 1 = 0 from by decide), xf2]
    unfold gdS nxS
    rw [if_pos w, if_pos w]
    rcases c_law hv hI b1 b2 b3 with ⟨z1, z2, z3, z4, h', k1, k2, k3⟩ | ⟨z, k1⟩
    · refine Or.inl ⟨by simp [z1, z2, z3, z4], h', ?_, k2, k3⟩
      rw [k1]
      rfl
    · refine Or.inr ⟨?_, ?_⟩
      · rw [Bool.eq_false_iff]
        intro y
        simp only [Bool.and_eq_true, decide_eq_true_iff] at y
        exact z ⟨y.1.1.1, y.1.1.2, y.1.2, y.2⟩
      · rw [k1]
        rfl
  · have n1 : sh_X1_number h 5 (nI (i + 4)) = some (nI (nv c (i + 4) r)) := x_num hc t (by omega) (by omega) (fun x hx => rn_dg (c := c) 4 (i + 4) x (by omega)) (by rw [r3]; exact dg44)
    have n2 : sh_X1_next h 5 (44 : Int32) (nI i) = some (nI (i + 4 + r)) := x_next hc t (by decide) r3 (by omega) (fun x h1 h2 => by
      by_cases z : x = i
      · rw [z, w2]
        decide
      · by_cases z2 : x < i + 4
        · have := rn_dg (c := c) 3 (i + 1) (x - (i + 1)) (by omega)
          rw [show i + 1 + (x - (i + 1)) = x from by omega] at this
          exact dg_ne this dg44
        · have := rn_dg (c := c) 4 (i + 4) (x - (i + 4)) (by omega)
          rw [show i + 4 + (x - (i + 4)) = x from by omega] at this
          exact dg_ne this dg44)
    have n3 : sh_X1_number h 5 (nI (i + 5 + r)) = some (nI (nv c (i + 5 + r) m)) := x_num hc t (by omega) (by omega) (fun x hx => rn_dg (c := c) 2 (i + 5 + r) x (by omega)) (by rw [m3]; exact dg59)
    rw [if_neg w, if_pos (show nI 0 = 0 from rfl), L4, nI_add, n1, Option.bind_some, n2, Option.bind_some, nI_add, show i + 4 + r + 1 = i + 5 + r from by omega, n3, Option.bind_some, xf2]
    unfold gdS nxS
    rw [if_neg w, if_neg w, ← hr, ← hm]
    rcases c_welcome (b := dv (c (i + 2))) (s := nv c (i + 4) r) (f := nv c (i + 5 + r) m) hv hI b1 b3 with ⟨⟨z1, z2, z3, z4⟩, h', k1, k2, k3⟩ | ⟨z, k1⟩
    · refine Or.inl ⟨by simp [z1, z2, z3, z4], h', ?_, k2, k3⟩
      rw [k1]
      rfl
    · refine Or.inr ⟨?_, ?_⟩
      · rw [Bool.eq_false_iff]
        intro y
        simp only [Bool.and_eq_true, Bool.or_eq_true, decide_eq_true_iff] at y
        exact z ⟨y.1.1.1, y.1.1.2, y.1.2, y.2⟩
      · rw [k1]
        rfl
/-! the reference -/
set_option maxHeartbeats 400000 in
theorem m_good {H : Hp} {i j P D : Nat} (vl : VL c i j H) (hj : j ≤ 30) (h28 : H.1 120 28 = nI P) (hD : H.1 120 1 = nI D) (hP : P ≤ 6) (hD2 : D ≤ 1000) (d1 : dg (c (i + 1)) = true) (d2 : dg (c (i + 2)) = true) (d3 : dg (c (i + 3)) = true) : sh_X5_isGood H 120 (nI j) = some (nI (if gdS P D c i then 1 else 0), if c i = 108 then H else wI H 120 28 (nI (P + 1))) := by
  obtain ⟨v1, v2, v3, _⟩ := vl
  have b1 := (dg_dv d1).1
  have b2 := (dg_dv d2).1
  have b3 := (dg_dv d3).1
  have q0 : H.1 133 (5 * j) = nI (dv (c (i + 1))) := v3 0 (by decide)
  have q1 : H.1 133 (5 * j + 1) = nI (dv (c (i + 2))) := v3 1 (by decide)
  have q2 : H.1 133 (5 * j + 2) = nI (dv (c (i + 3))) := v3 2 (by decide)
  unfold sh_X5_isGood b_X5_isGood_72 b_X5_isGood_73 b_X5_isGood_116 b_X5_isGood_96 b_X5_isGood_116 b_X5_isGood_117
  rw [L5, pk_mul, L1, L2, nI_add, nI_add, mf27, mf26, ldI_n (a := 133) (len133 (by omega)) (by omega), q0, Option.bind_some, ldI_n (a := 133) (len133 (by omega)) (by omega), q1, Option.bind_some, ldI_n (a := 133) (len133 (by omega)) (by omega), q2, Option.bind_some, ldI_n (a := 132) (show j < 33 from by omega) (by omega), v2, Option.bind_some, h28, hD, nI_add]
  unfold gdS
  by_cases w : c i = 108
  · rw [if_pos w, if_pos w, if_pos w]
    by_cases z1 : dv (c (i + 1)) ≤ 5
    · rw [L6, if_neg (nI_ge (by omega) (by omega)), m_in, show (1 : Int64).toInt = 1 from by decide, show (5 : Int64).toInt = 5 from by decide, nI_toInt (by omega), Option.bind_some]
      by_cases z2 : 1 ≤ dv (c (i + 2)) ∧ dv (c (i + 2)) ≤ 5
      · rw [if_pos (show (1 : Int) ≤ ((dv (c (i + 2)) : Nat) : Int) ∧ ((dv (c (i + 2)) : Nat) : Int) ≤ 5 from by omega), if_neg (show ¬ nI 1 = 0 from by decide)]
        by_cases z3 : dv (c (i + 3)) ≤ 5
        · rw [if_neg (nI_ge (by omega) (by omega))]
          simp [z1, z2.1, z2.2, z3]
          rfl
        · rw [if_pos (nI_le (by omega) (by omega))]
          simp [z3]
          rfl
      · rw [if_neg (show ¬ ((1 : Int) ≤ ((dv (c (i + 2)) : Nat) : Int) ∧ ((dv (c (i + 2)) : Nat) : Int) ≤ 5) from by omega), if_pos (show nI 0 = 0 from rfl)]
        have : (decide (1 ≤ dv (c (i + 2))) && decide (dv (c (i + 2)) ≤ 5)) = false := by
          rw [Bool.eq_false_iff]
          intro y
          simp only [Bool.and_eq_true, decide_eq_true_iff] at y
          exact z2 y
        rw [Bool.and_assoc (decide (dv (c (i + 1)) ≤ 5)), this]
        simp
        rfl
    · rw [L6, if_pos (nI_le (by omega) (by omega))]
      simp [z1]
      rfl
  · rw [if_neg w, if_neg w, if_neg w]
    by_cases z1 : dv (c (i + 1)) ≤ 7
    · rw [L8, if_neg (nI_ge (by omega) (by omega))]
      have e96 : ∀ b : Bool, b = true → (if (6 : Int32) ≤ nI P then Option.bind (bol 0) fun v1 => some (v1, wI H 120 28 (nI (P + 1))) else if nI D = 0 then Option.bind (bol 1) fun v1 => some (v1, wI H 120 28 (nI (P + 1))) else Option.bind (bol 0) fun v1 => some (v1, wI H 120 28 (nI (P + 1)))) = some (nI (if (true && b && decide (P < 6) && decide (D = 0)) = true then 1 else 0), wI H 120 28 (nI (P + 1))) := fun b hb => by
        rw [hb]
        by_cases y1 : P < 6
        · rw [L6, if_neg (nI_ge y1 (by omega))]
          by_cases y2 : D = 0
          · rw [y2, if_pos (show nI 0 = 0 from rfl)]
            simp [y1]
            rfl
          · rw [if_neg (show ¬ nI D = 0 from nI_ne0 (by omega) (by omega))]
            simp [y2]
            rfl
        · rw [L6, if_pos (nI_le (by omega) (by omega))]
          simp [y1]
          rfl
      rw [decide_eq_true z1]
      by_cases z2 : dv (c (i + 3)) = 9
      · rw [if_pos (show nI (dv (c (i + 3))) = (9 : Int32) from by rw [z2]; rfl)]
        exact e96 _ (by simp [z2])
      · rw [if_neg (show ¬ nI (dv (c (i + 3))) = (9 : Int32) from by rw [L9, nI_eq (by omega) (by omega)]; exact z2)]
        by_cases z3 : dv (c (i + 3)) ≤ P
        · rw [if_neg (show ¬ nI P < nI (dv (c (i + 3))) from nI_nlt z3 (by omega))]
          exact e96 _ (by simp [z3])
        · rw [if_pos (show nI P < nI (dv (c (i + 3))) from nI_lt (by omega) (by omega))]
          simp [z2, z3]
          rfl
    · rw [L8, if_pos (nI_le (by omega) (by omega))]
      simp [z1]
      rfl
end CM
