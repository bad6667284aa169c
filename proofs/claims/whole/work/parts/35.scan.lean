/-! PURE: scanning letters, by both -/
section SN
variable {h h' h1 h2 : Hp} {k : Nat} {X Y : St} {L : Nat} {c : Nat → Int32}
set_option maxHeartbeats 400000 in
theorem rn_dg : ∀ (m i j : Nat), j < rn c i m → dg (c (i + j)) = true
  | 0, i, j, hj => absurd hj (Nat.not_lt_zero _)
  | m + 1, i, j, hj => by
    have hj' : j < (if dg (c i) then 1 + rn c (i + 1) m else 0) := hj
    by_cases w : dg (c i) = true
    · rw [if_pos w] at hj'
      by_cases z : j = 0
      · rw [z]
        exact w
      · have := rn_dg m (i + 1) (j - 1) (by omega)
        rw [show i + 1 + (j - 1) = i + j from by omega] at this
        exact this
    · rw [if_neg w] at hj'
      omega
set_option maxHeartbeats 400000 in
theorem rn_split (c : Nat → Int32) : ∀ (a b j : Nat), rn c j (a + b) = if rn c j a < a then rn c j a else a + rn c (j + a) b
  | 0, b, j => by
    rw [if_neg (Nat.not_lt_zero _), Nat.zero_add, Nat.zero_add, Nat.add_zero]
  | a + 1, b, j => by
    rw [show a + 1 + b = (a + b) + 1 from by omega]
    show (if dg (c j) then 1 + rn c (j + 1) (a + b) else 0) = if (if dg (c j) then 1 + rn c (j + 1) a else 0) < a + 1 then (if dg (c j) then 1 + rn c (j + 1) a else 0) else a + 1 + rn c (j + (a + 1)) b
    by_cases w : dg (c j) = true
    · rw [if_pos w, if_pos w, rn_split c a b (j + 1), show j + 1 + a = j + (a + 1) from by omega]
      by_cases z : rn c (j + 1) a < a
      · rw [if_pos z, if_pos (by omega)]
      · rw [if_neg z, if_neg (by omega)]
        omega
    · rw [if_neg w, if_neg w, if_pos (by omega)]
-- how a fitting statement looks
def FS (c : Nat → Int32) (i e : Nat) : Prop :=
  (c i = 108 ∧ rn c (i + 1) 3 = 3 ∧ c (i + 4) = 59 ∧ e = i + 5) ∨
  (c i ≠ 108 ∧ c i = 112 ∧ rn c (i + 1) 3 = 3 ∧ ∃ r m, r = rn c (i + 4) 4 ∧ 1 ≤ r ∧ r ≤ 4 ∧ c (i + 4 + r) = 44 ∧ m = rn c (i + 5 + r) 2 ∧ 1 ≤ m ∧ m ≤ 2 ∧ c (i + 5 + r + m) = 59 ∧ e = i + 6 + r + m)
set_option maxHeartbeats 400000 in
theorem ps_ok {i : Nat} (h : (ps c i).1 = true) : FS c i (ps c i).2 := by
  have r3 := rn_le c 3 (i + 1)
  have r4 := rn_le c 4 (i + 4)
  unfold ps at h ⊢
  by_cases w : c i = 108
  · rw [if_pos w] at h ⊢
    by_cases w1 : rn c (i + 1) 3 < 3
    · rw [if_pos w1] at h
      exact absurd h Bool.false_ne_true
    · rw [if_neg w1] at h ⊢
      by_cases w2 : c (i + 4) = 59
      · rw [if_pos w2]
        exact Or.inl ⟨w, by omega, w2, rfl⟩
      · rw [if_neg w2] at h
        exact absurd h Bool.false_ne_true
  · rw [if_neg w] at h ⊢
    by_cases v : c i = 112
    · rw [if_pos v] at h ⊢
      have sp := rn_split c 3 4 (i + 1)
      rw [show i + 1 + 3 = i + 4 from by omega] at sp
      have sp' : rn c (i + 1) 7 = if rn c (i + 1) 3 < 3 then rn c (i + 1) 3 else 3 + rn c (i + 4) 4 := sp
      by_cases w1 : rn c (i + 1) 7 < 4
      · rw [if_pos w1] at h
        exact absurd h Bool.false_ne_true
      · rw [if_neg w1] at h ⊢
        have q3 : ¬ rn c (i + 1) 3 < 3 := fun z => by
          rw [if_pos z] at sp'
          omega
        rw [if_neg q3] at sp'
        rw [sp'] at h ⊢
        rw [show i + 1 + (3 + rn c (i + 4) 4) = i + 4 + rn c (i + 4) 4 from by omega] at h ⊢
        generalize hr : rn c (i + 4) 4 = r at *
        by_cases w2 : c (i + 4 + r) = 44
        · rw [if_pos w2] at h ⊢
          rw [show i + 4 + r + 1 = i + 5 + r from by omega] at h ⊢
          have r2 := rn_le c 2 (i + 5 + r)
          generalize hm : rn c (i + 5 + r) 2 = m at *
          by_cases w3 : m < 1
          · rw [if_pos w3] at h
            exact absurd h Bool.false_ne_true
          · rw [if_neg w3] at h ⊢
            by_cases w4 : c (i + 5 + r + m) = 59
            · rw [if_pos w4]
              exact Or.inr ⟨w, v, by omega, r, m, hr.symm, by omega, by omega, w2, hm.symm, by omega, by omega, w4, by show i + 5 + r + m + 1 = _; omega⟩
            · rw [if_neg w4] at h
              exact absurd h Bool.false_ne_true
        · rw [if_neg w2] at h
          exact absurd h Bool.false_ne_true
    · rw [if_neg v] at h
      exact absurd h Bool.false_ne_true
set_option maxHeartbeats 400000 in
theorem FS.len (hc : Ch L c) {i e : Nat} (f : FS c i e) : i + 5 ≤ e ∧ e ≤ L := by
  rcases f with ⟨_, _, f3, f4⟩ | ⟨_, _, _, r, m, _, f5, f6, f7, _, f8, f9, f10, f11⟩
  · refine ⟨by omega, ?_⟩
    rcases Nat.lt_or_ge (i + 4) L with z | z
    · omega
    · rw [hc.2 _ z] at f3
      exact absurd f3 (by decide)
  · refine ⟨by omega, ?_⟩
    rcases Nat.lt_or_ge (i + 5 + r + m) L with z | z
    · omega
    · rw [hc.2 _ z] at f10
      exact absurd f10 (by decide)
set_option maxHeartbeats 400000 in
theorem ps_hi (c : Nat → Int32) (i : Nat) : (ps c i).2 ≤ i + 12 := by
  have r3 := rn_le c 3 (i + 1)
  have r7 := rn_le c 7 (i + 1)
  have r2 := rn_le c 2 (i + 1 + rn c (i + 1) 7 + 1)
  unfold ps
  repeat' split
  all_goals dsimp only
  all_goals omega
def sk (c : Nat → Int32) : Nat → Nat
  | 0 => 0
  | n + 1 => (ps c (sk c n)).2
def okS (c : Nat → Int32) (n : Nat) : Prop := (ps c (sk c n)).1 = true
set_option maxHeartbeats 400000 in
theorem sk_bd (hc : Ch L c) : ∀ n, (∀ j, j < n → okS c j) → 5 * n ≤ sk c n ∧ (n = 0 ∨ sk c n ≤ L)
  | 0, _ => ⟨Nat.le_refl _, Or.inl rfl⟩
  | n + 1, ho => by
    have ih := sk_bd hc n (fun j hj => ho j (by omega))
    have := (ps_ok (ho n (by omega))).len hc
    show 5 * (n + 1) ≤ (ps c (sk c n)).2 ∧ (n + 1 = 0 ∨ (ps c (sk c n)).2 ≤ L)
    omega
def Bad (L : Nat) (c : Nat → Int32) (n : Nat) : Prop := n ≤ 12 ∧ (∀ j, j < n → okS c j ∧ sk c j < L) ∧ (n = 0 ∨ sk c n < L) ∧ (ps c (sk c n)).1 = false
def Fit (L : Nat) (c : Nat → Int32) (n : Nat) : Prop := 1 ≤ n ∧ n ≤ 12 ∧ (∀ j, j < n → okS c j ∧ sk c j < L) ∧ L ≤ sk c n
set_option maxHeartbeats 400000 in
theorem land_cases (hc : Ch L c) : (∃ n, Bad L c n) ∨ (∃ n, Fit L c n) := by
  have key : ∀ (f n : Nat), f + n = 14 → (∀ j, j < n → okS c j ∧ sk c j < L) → (∃ n, Bad L c n) ∨ (∃ n, Fit L c n) := by
    intro f
    induction f with
    | zero =>
      intro n e ho
      have := sk_bd hc n (fun j hj => (ho j hj).1)
      have hL := hc.1
      omega
    | succ f ih =>
      intro n e ho
      have hb := sk_bd hc n (fun j hj => (ho j hj).1)
      have hL := hc.1
      by_cases w : n ≠ 0 ∧ L ≤ sk c n
      · exact Or.inr ⟨n, by omega, by omega, ho, w.2⟩
      · by_cases v : (ps c (sk c n)).1 = true
        · have := (ps_ok v).len hc
          refine ih (n + 1) (by omega) (fun j hj => ?_)
          by_cases z : j = n
          · rw [z]
            exact ⟨v, by omega⟩
          · exact ho j (by omega)
        · exact Or.inl ⟨n, by omega, ho, by omega, by simpa using v⟩
  exact key 14 0 rfl (fun j hj => absurd hj (Nat.not_lt_zero _))
/-! the class -/
set_option maxHeartbeats 400000 in
theorem W5 (h : Hp) (x : Int32) : (wI h 5 2 x).1 5 2 = x := by rw [rdI, if_pos ⟨rfl, rfl⟩]
set_option maxHeartbeats 400000 in
theorem x_unfit20 (hc : Ch L c) (t : TX L c h) {n : Nat} (hn : n ≤ 12) (ho : ∀ j, j < n → okS c j ∧ sk c j < L) : ∀ (f i fuel : Nat), f + i = n → b_X1_firstUnfit_20 (fuel + f) (wI h 5 2 (nI (sk c i))) 5 (nI 1) (nI i) = b_X1_firstUnfit_20 fuel (wI h 5 2 (nI (sk c n))) 5 (nI 1) (nI n)
  | 0, i, fuel, e => by
    rw [show i = n from by omega]
    rfl
  | f + 1, i, fuel, e => by
    have hoi := ho i (by omega)
    have hL := hc.1
    have hp := hoi.1
    unfold okS at hp
    rw [← x_unfit20 hc t hn ho f (i + 1) fuel (by omega)]
    show f_X1_firstUnfit_20 (b_X1_firstUnfit_20 (fuel + f)) (wI h 5 2 (nI (sk c i))) 5 (nI 1) (nI i) = _
    unfold f_X1_firstUnfit_20
    rw [L64, if_neg (nI_ge (by omega) (by omega)), if_neg (show ¬ nI 1 = 0 from by decide), (t.pos _).1, W5, if_neg (nI_ge hoi.2 (by omega)), x_stmt hc t (by omega), Option.bind_some, hp, L1, nI_add]
    rfl
set_option maxHeartbeats 400000 in
theorem x_bad (hc : Ch L c) (t : TX L c h) {n : Nat} (b : Bad L c n) : sh_X1_firstUnfit h 5 = some (nI (ps c (sk c n)).2, wI h 5 2 (nI (ps c (sk c n)).2)) := by
  obtain ⟨b1, b2, b3, b4⟩ := b
  have hL := hc.1
  have t0 := t.pos (0 : Int32)
  unfold sh_X1_firstUnfit b_X1_firstUnfit_17
  rw [t0.1]
  by_cases z : L = 0
  · have hn : n = 0 := by
      rcases Nat.eq_zero_or_pos n with w | w
      · exact w
      · have := (b2 0 w).2
        omega
    subst hn
    have c0 : c 0 = -1 := hc.2 0 (by omega)
    have e : (ps c (sk c 0)).2 = 0 := by
      show (ps c 0).2 = 0
      unfold ps
      rw [c0, if_neg (by decide), if_neg (by decide)]
    rw [e, z, if_pos (show nI 0 ≤ 0 from by decide)]
    show f_X1_firstUnfit_20 (b_X1_firstUnfit_20 999) (wI h 5 2 (nI 0)) 5 (0 : Int32) (0 : Int32) = _
    unfold f_X1_firstUnfit_20 b_X1_firstUnfit_52 b_X1_firstUnfit_64
    rw [if_neg (by decide), if_pos rfl, if_pos rfl, rdI, if_pos ⟨rfl, rfl⟩]
  · rw [if_neg (show ¬ nI L ≤ 0 from by rw [L0]; exact nI_ge (by omega) (by omega))]
    have e := x_unfit20 hc t b1 (fun j hj => b2 j hj) n 0 (1000 - n) (by omega)
    rw [show 1000 - n + n = 1000 from by omega] at e
    have e' : b_X1_firstUnfit_20 1000 (wI h 5 2 (0 : Int32)) 5 (1 : Int32) (0 : Int32) = b_X1_firstUnfit_20 (1000 - n) (wI h 5 2 (nI (sk c n))) 5 (nI 1) (nI n) := e
    have hs : sk c n < L := by
      rcases b3 with w | w
      · rw [w]
        show 0 < L
        omega
      · exact w
    have hh := ps_hi c (sk c n)
    rw [e', show 1000 - n = (998 - n) + 1 + 1 from by omega]
    show f_X1_firstUnfit_20 (b_X1_firstUnfit_20 (998 - n + 1)) (wI h 5 2 (nI (sk c n))) 5 (nI 1) (nI n) = _
    unfold f_X1_firstUnfit_20
    rw [L64, if_neg (nI_ge (by omega) (by omega)), if_neg (show ¬ nI 1 = 0 from by decide), (t.pos _).1, W5, if_neg (nI_ge hs (by omega)), x_stmt hc t (by omega), Option.bind_some, b4]
    show f_X1_firstUnfit_20 (b_X1_firstUnfit_20 (998 - n)) (wI h 5 2 (nI (ps c (sk c n)).2)) 5 (nI 0) (nI n + (1 : Int32)) = _
    unfold f_X1_firstUnfit_20 b_X1_firstUnfit_52 b_X1_firstUnfit_64
    rw [L1, nI_add, L64, if_neg (nI_ge (by omega) (by omega)), if_pos (show nI 0 = 0 from rfl), if_pos (show nI 0 = 0 from rfl), rdI, if_pos ⟨rfl, rfl⟩]
set_option maxHeartbeats 400000 in
theorem x_fit (hc : Ch L c) (t : TX L c h) {n : Nat} (b : Fit L c n) : sh_X1_firstUnfit h 5 = some (-1, wI h 5 2 (nI (sk c n))) := by
  obtain ⟨b0, b1, b2, b3⟩ := b
  have hL := hc.1
  have t0 := t.pos (0 : Int32)
  have hbd := sk_bd hc n (fun j hj => (b2 j hj).1)
  have h0 := (b2 0 (by omega)).2
  unfold sh_X1_firstUnfit b_X1_firstUnfit_17
  rw [t0.1, if_neg (show ¬ nI L ≤ 0 from by rw [L0]; exact nI_ge (by omega) (by omega))]
  have e := x_unfit20 hc t b1 (fun j hj => b2 j hj) n 0 (1000 - n) (by omega)
  rw [show 1000 - n + n = 1000 from by omega] at e
  have e' : b_X1_firstUnfit_20 1000 (wI h 5 2 (0 : Int32)) 5 (1 : Int32) (0 : Int32) = b_X1_firstUnfit_20 (1000 - n) (wI h 5 2 (nI (sk c n))) 5 (nI 1) (nI n) := e
  rw [e', show 1000 - n = (999 - n) + 1 from by omega]
  show f_X1_firstUnfit_20 (b_X1_firstUnfit_20 (999 - n)) (wI h 5 2 (nI (sk c n))) 5 (nI 1) (nI n) = _
  unfold f_X1_firstUnfit_20 b_X1_firstUnfit_52 b_X1_firstUnfit_64
  rw [L64, if_neg (nI_ge (by omega) (by omega)), if_neg (show ¬ nI 1 = 0 from by decide), (t.pos _).1, W5, if_pos (nI_le b3 (by omega)), if_neg (show ¬ nI 1 = 0 from by decide)]
/-! the reference -/
def TY (L : Nat) (c : Nat → Int32) (h : Hp) : Prop := h.1 120 21 = nI L ∧ ∀ j, j < L → h.1 130 j = c j
def WW (h : Hp) (i b : Nat) : Hp := wI (wI h 120 23 (nI b)) 120 22 (nI i)
set_option maxHeartbeats 400000 in
theorem WW_rd (h : Hp) (i b a j : Nat) : (WW h i b).1 a j = if a = 120 ∧ j = 22 then nI i else if a = 120 ∧ j = 23 then nI b else h.1 a j := by
  unfold WW
  rw [rdI, rdI]
set_option maxHeartbeats 400000 in
theorem hp_ext {g g' : Hp} (e : ∀ a j, g.1 a j = g'.1 a j) (e2 : g.2 = g'.2) : g = g' := Prod.ext (funext fun a => funext fun j => e a j) e2
set_option maxHeartbeats 400000 in
theorem WW_22 (h : Hp) (i b : Nat) : (WW h i b).1 120 22 = nI i := by rw [WW_rd, if_pos ⟨rfl, rfl⟩]
set_option maxHeartbeats 400000 in
theorem WW_23 (h : Hp) (i b : Nat) : (WW h i b).1 120 23 = nI b := by rw [WW_rd, if_neg (by omega), if_pos ⟨rfl, rfl⟩]
set_option maxHeartbeats 400000 in
theorem WW_b (h : Hp) (i b b' : Nat) : wI (WW h i b) 120 23 (nI b') = WW h i b' := hp_ext (fun a j => by
  rw [rdI, WW_rd, WW_rd]
  by_cases w1 : a = 120 ∧ j = 23
  · rw [if_pos w1, if_neg (by omega), if_pos w1]
  · rw [if_neg w1, if_neg w1, if_neg w1]) rfl
set_option maxHeartbeats 400000 in
theorem WW_i (h : Hp) (i b i' : Nat) : wI (WW h i b) 120 22 (nI i') = WW h i' b := hp_ext (fun a j => by
  rw [rdI, WW_rd, WW_rd]
  by_cases w1 : a = 120 ∧ j = 22
  · rw [if_pos w1, if_pos w1]
  · rw [if_neg w1, if_neg w1, if_neg w1]) rfl
set_option maxHeartbeats 400000 in
theorem WW_w (h : Hp) (i b : Nat) {a j : Nat} (v : Int32) (ha : ¬ (a = 120 ∧ (j = 22 ∨ j = 23))) : wI (WW h i b) a j v = WW (wI h a j v) i b := hp_ext (fun a' j' => by
  rw [rdI, WW_rd, WW_rd, rdI]
  by_cases w1 : a' = a ∧ j' = j
  · rw [if_pos w1, if_neg (by omega), if_neg (by omega), if_pos w1]
  · rw [if_neg w1, if_neg w1]) rfl
set_option maxHeartbeats 400000 in
theorem TY.W (t : TY L c h) (i b : Nat) : TY L c (WW h i b) := ⟨by rw [WW_rd, if_neg (by omega), if_neg (by omega)]; exact t.1, fun j hj => by rw [WW_rd, if_neg (by omega), if_neg (by omega)]; exact t.2 j hj⟩
set_option maxHeartbeats 400000 in
theorem y_here (hc : Ch L c) (t : TY L c h) {i : Nat} (hi : i < 1000) (b : Nat) : sh_X5_here (WW h i b) 120 = some (c i) := by
  have hL := hc.1
  unfold sh_X5_here b_X5_here_24
  rw [(t.W i b).1, WW_22]
  by_cases w : L ≤ i
  · rw [if_pos (nI_le w (by omega)), hc.2 i w]
  · rw [if_neg (nI_ge (by omega) (by omega)), mf20, ldI_n (a := 130) (show i < 64 from by omega) (by omega), (t.W i b).2 i (by omega)]
    rfl
set_option maxHeartbeats 400000 in
theorem y_dig (h : Hp) (x : Int32) : sh_X5_in h x.toInt64 (48 : Int64) (57 : Int64) = some (nI (if dg x then 1 else 0)) := by
  rw [m_in]
  unfold dg
  rw [show (48 : Int64).toInt = 48 from by decide, show (57 : Int64).toInt = 57 from by decide]
  by_cases w1 : (48 : Int32) ≤ x
  · have w1' := w1
    rw [Int32.le_iff_toInt_le, show (48 : Int32).toInt = 48 from by decide] at w1'
    by_cases w2 : x ≤ (57 : Int32)
    · have w2' := w2
      rw [Int32.le_iff_toInt_le, show (57 : Int32).toInt = 57 from by decide] at w2'
      rw [if_pos ⟨w1', w2'⟩, decide_eq_true w1, decide_eq_true w2]
      rfl
    · have w2' := w2
      rw [Int32.le_iff_toInt_le, show (57 : Int32).toInt = 57 from by decide] at w2'
      rw [if_neg (fun z => w2' z.2), decide_eq_false w2, Bool.and_false]
      rfl
  · have w1' := w1
    rw [Int32.le_iff_toInt_le, show (48 : Int32).toInt = 48 from by decide] at w1'
    rw [if_neg (fun z => w1' z.1), decide_eq_false w1, Bool.false_and]
    rfl
set_option maxHeartbeats 400000 in
theorem bol0 : bol (0 : Int32) = some (nI 0) := rfl
set_option maxHeartbeats 400000 in
theorem bol1 : bol (1 : Int32) = some (nI 1) := rfl
def dv (x : Int32) : Nat := x.toInt.toNat - 48
set_option maxHeartbeats 400000 in
theorem dg_dv {x : Int32} (h : dg x = true) : dv x ≤ 9 ∧ x = nI (48 + dv x) := by
  unfold dg at h
  rw [Bool.and_eq_true, decide_eq_true_iff, decide_eq_true_iff] at h
  obtain ⟨h1, h2⟩ := h
  rw [Int32.le_iff_toInt_le, show (48 : Int32).toInt = 48 from by decide] at h1
  rw [Int32.le_iff_toInt_le, show (57 : Int32).toInt = 57 from by decide] at h2
  unfold dv
  refine ⟨by omega, ?_⟩
  apply Int32.toInt_inj.mp
  rw [nI_toInt (by omega)]
  omega
set_option maxHeartbeats 400000 in
theorem y_rd0 (hc : Ch L c) (t : TY L c h) {i : Nat} (hi : i < 1000) : sh_X5_readDigit (WW h i 0) 120 = some (if dg (c i) then (nI (dv (c i)), WW h (i + 1) 0) else (nI 0, WW h i 1)) := by
  have hL := hc.1
  unfold sh_X5_readDigit b_X5_readDigit_25 b_X5_readDigit_30
  rw [WW_23, if_pos (show nI 0 = 0 from rfl), y_here hc t hi, Option.bind_some, y_dig, Option.bind_some]
  by_cases w : dg (c i) = true
  · obtain ⟨d1, d2⟩ := dg_dv w
    have hiL : i < L := by
      rcases Nat.lt_or_ge i L with z | z
      · exact z
      · rw [hc.2 i z] at w
        exact absurd w (by decide)
    rw [if_pos w, if_neg (show ¬ nI 1 = 0 from by decide), if_pos w]
    rw [bol0, Option.bind_some, WW_b, WW_23, if_pos (show nI 0 = 0 from rfl), WW_22, L1, nI_add, WW_i, WW_22, pk_sub (by omega), Nat.add_sub_cancel, mf20, ldI_n (a := 130) (show i < 64 from by omega) (by omega), (t.W _ _).2 i hiL, Option.bind_some]
    conv => lhs; rw [d2]
    rw [L48, pk_sub (by omega), Nat.add_sub_cancel_left]
  · rw [if_neg w, if_pos (show nI 0 = 0 from rfl), if_neg w]
    rw [bol1, Option.bind_some, WW_b, WW_23, if_neg (show ¬ nI 1 = 0 from by decide)]
    rfl
set_option maxHeartbeats 400000 in
theorem y_take0 (hc : Ch L c) (t : TY L c h) {i : Nat} (hi : i < 1000) (x : Int32) : sh_X5_take (WW h i 0) 120 x = some (if c i = x then WW h (i + 1) 0 else WW h i 1) := by
  unfold sh_X5_take b_X5_take_16 b_X5_take_21 b_X5_take_41
  rw [WW_23, if_pos (show nI 0 = 0 from rfl), y_here hc t hi, Option.bind_some]
  by_cases w : c i = x
  · rw [if_pos w, if_pos w]
    rw [bol0, Option.bind_some, WW_b, WW_23, if_pos (show nI 0 = 0 from rfl), WW_22, L1, nI_add, WW_i]
  · rw [if_neg w, if_neg w]
    rw [bol1, Option.bind_some, WW_b, WW_23, if_neg (show ¬ nI 1 = 0 from by decide), WW_22, L0, nI_add, WW_i, Nat.add_zero]
set_option maxHeartbeats 400000 in
theorem y_take1 (h : Hp) (i : Nat) (x : Int32) : sh_X5_take (WW h i 1) 120 x = some (WW h i 1) := by
  unfold sh_X5_take b_X5_take_16 b_X5_take_21 b_X5_take_41
  rw [WW_23, if_neg (show ¬ nI 1 = 0 from by decide)]
  rw [bol1, Option.bind_some, WW_b, WW_23, if_neg (show ¬ nI 1 = 0 from by decide), WW_22, L0, nI_add, WW_i, Nat.add_zero]
def nv (c : Nat → Int32) (i : Nat) : Nat → Nat
  | 0 => 0
  | r + 1 => 10 * nv c i r + dv (c (i + r))
set_option maxHeartbeats 400000 in
theorem y_num7 (hc : Ch L c) (t : TY L c h) {i M : Nat} (hM : M ≤ 4) (hi : i < 100) : ∀ (f x fuel : Nat), f + x = M → f < fuel → b_X5_readNumber_7 fuel (WW h (i + x) 0) 120 (nI M) (nI (nv c i x)) (nI x) = some (nI (nv c i (x + rn c (i + x) f)), WW h (i + x + rn c (i + x) f) 0)
  | f, x, 0, e, hf => by omega
  | 0, x, fuel + 1, e, hf => by
    show f_X5_readNumber_7 (b_X5_readNumber_7 fuel) (WW h (i + x) 0) 120 (nI M) (nI (nv c i x)) (nI x) = _
    unfold f_X5_readNumber_7 b_X5_readNumber_65
    rw [if_pos (nI_le (by omega) (by omega))]
    rfl
  | f + 1, x, fuel + 1, e, hf => by
    show f_X5_readNumber_7 (b_X5_readNumber_7 fuel) (WW h (i + x) 0) 120 (nI M) (nI (nv c i x)) (nI x) = some (nI (nv c i (x + (if dg (c (i + x)) then 1 + rn c (i + x + 1) f else 0))), WW h (i + x + (if dg (c (i + x)) then 1 + rn c (i + x + 1) f else 0)) 0)
    unfold f_X5_readNumber_7 b_X5_readNumber_65
    rw [if_neg (nI_ge (by omega) (by omega)), WW_23, if_pos (show nI 0 = 0 from rfl), y_here hc t (by omega), Option.bind_some, y_dig, Option.bind_some, Option.bind_some]
    by_cases w : dg (c (i + x)) = true
    · obtain ⟨d1, d2⟩ := dg_dv w
      rw [if_pos w, if_neg (show ¬ nI 1 = 0 from by decide), WW_22, L1, nI_add, WW_i, nI_add, if_pos w]
      have e10 : (10 : Int32) * nI (nv c i x) + c (i + x) - (48 : Int32) = nI (nv c i (x + 1)) := by
        conv => lhs; rw [d2]
        rw [L10, pk_mul, nI_add, L48, pk_sub (by omega)]
        show _ = nI (10 * nv c i x + dv (c (i + x)))
        congr 1
        omega
      rw [e10]
      have := y_num7 hc t hM hi f (x + 1) fuel (by omega) (by omega)
      rw [show i + (x + 1) = i + x + 1 from by omega] at this
      rw [this, show x + 1 + rn c (i + x + 1) f = x + (1 + rn c (i + x + 1) f) from by omega, show i + x + 1 + rn c (i + x + 1) f = i + x + (1 + rn c (i + x + 1) f) from by omega]
    · rw [if_neg w, if_pos (show nI 0 = 0 from rfl), if_neg w]
      rfl
set_option maxHeartbeats 400000 in
theorem y_num (hc : Ch L c) (t : TY L c h) {i M : Nat} (hM1 : 1 ≤ M) (hM : M ≤ 4) (hi : i < 100) : sh_X5_readNumber (WW h i 0) 120 (nI M) = some (nI (nv c i (rn c i M)), WW h (i + rn c i M) (if rn c i M < 1 then 1 else 0)) := by
  unfold sh_X5_readNumber
  obtain ⟨m, rfl⟩ : ∃ m, M = m + 1 := ⟨M - 1, by omega⟩
  rw [y_rd0 hc t (by omega), Option.bind_some]
  show _ = some (nI (nv c i (if dg (c i) then 1 + rn c (i + 1) m else 0)), WW h (i + (if dg (c i) then 1 + rn c (i + 1) m else 0)) (if (if dg (c i) then 1 + rn c (i + 1) m else 0) < 1 then 1 else 0))
  by_cases w : dg (c i) = true
  · rw [if_pos w, if_pos w, if_neg (show ¬ 1 + rn c (i + 1) m < 1 from by omega)]
    have := y_num7 hc t hM hi m 1 1000 (by omega) (by omega)
    rw [show nv c i 1 = dv (c i) from by show 10 * 0 + dv (c (i + 0)) = _; rw [Nat.add_zero]; omega] at this
    rw [show i + (1 + rn c (i + 1) m) = i + 1 + rn c (i + 1) m from by omega]
    exact this
  · rw [if_neg w, if_neg w, if_pos (show 0 < 1 from by decide)]
    show f_X5_readNumber_7 (b_X5_readNumber_7 999) (WW h i 1) 120 (nI (m + 1)) (nI 0) (nI 1) = _
    unfold f_X5_readNumber_7 b_X5_readNumber_65
    rw [WW_23, if_neg (show ¬ nI 1 = 0 from by decide), ite_self]
    rfl
end SN
