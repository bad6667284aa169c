/-! PURE: land -/
section LN
variable {h h' h1 h2 : Hp} {k : Nat} {X Y : St} {L : Nat} {c : Nat → Int32}
-- the cells that a coming statement may touch in the reference
def CF (h h' : Hp) : Prop := (∀ a j, ¬ (a = 120 ∧ j < 6) → ¬ (121 ≤ a ∧ a ≤ 125) → h'.1 a j = h.1 a j) ∧ h'.2 = h.2
set_option maxHeartbeats 400000 in
theorem CF.rf (h : Hp) : CF h h := ⟨fun _ _ _ _ => rfl, rfl⟩
set_option maxHeartbeats 400000 in
theorem CF.tr (a : CF h h1) (b : CF h1 h2) : CF h h2 := ⟨fun i j q1 q2 => (b.1 i j q1 q2).trans (a.1 i j q1 q2), b.2.trans a.2⟩
set_option maxHeartbeats 400000 in
theorem CF.wI (h : Hp) {a j : Nat} (v : Int32) (hc : (a = 120 ∧ j < 6) ∨ (121 ≤ a ∧ a ≤ 125)) : CF h (wI h a j v) := ⟨fun i l q1 q2 => by rw [rdI, if_neg (by omega)], rfl⟩
set_option maxHeartbeats 400000 in
theorem m_comes {H : Hp} (hm : MR H X) {i j e : Nat} (vl : VL c i j H) (hj : j ≤ 30) (f : FS c i e) (hP : c i ≠ 108 → X.1 0 0 < 6) : ∃ H', sh_X5_comes H 120 (nI j) = some H' ∧ MR H' (nxS X c i) ∧ CF H H' := by
  obtain ⟨v1, v2, v3, v4⟩ := vl
  have q0 : H.1 133 (5 * j) = nI (dv (c (i + 1))) := v3 0 (by decide)
  have q1 : H.1 133 (5 * j + 1) = nI (dv (c (i + 2))) := v3 1 (by decide)
  have q2 : H.1 133 (5 * j + 2) = nI (dv (c (i + 3))) := v3 2 (by decide)
  have ld : ∀ (g : Hp) (x : Nat), CF H g → x < 5 → ldI g 133 (nI (5 * j + x)) = some (H.1 133 (5 * j + x)) := fun g x cf hx => by
    rw [ldI_n (a := 133) (len133 (by omega)) (by omega), cf.1 133 _ (by omega) (by omega)]
  have ld0 : ∀ (g : Hp), CF H g → ldI g 133 (nI (5 * j)) = some (H.1 133 (5 * j)) := fun g cf => ld g 0 cf (by decide)
  unfold sh_X5_comes nxS
  rw [L5, pk_mul, L1, L2, L3, L4, nI_add, nI_add, nI_add, nI_add, mf27, mf26, ldI_n (a := 132) (show j < 33 from by omega) (by omega), v2, Option.bind_some]
  by_cases w : c i = 108
  · rw [if_pos w, if_pos w, ld0 H (CF.rf H), q0, Option.bind_some]
    have c1 : CF H (wI H 120 2 (nI (dv (c (i + 1))))) := CF.wI H _ (by omega)
    have c2 : CF H (wI (wI H 120 2 (nI (dv (c (i + 1))))) 120 3 (nI (dv (c (i + 2))))) := c1.tr (CF.wI _ _ (by omega))
    rw [ld _ 1 c1 (by decide), q1, Option.bind_some, ld _ 2 c2 (by decide), q2, Option.bind_some]
    exact ⟨_, rfl, ((hm.set (j := 0) (by decide)).set (j := 1) (by decide)).set (j := 2) (by decide), c2.tr (CF.wI _ _ (by omega))⟩
  · rw [if_neg w, if_neg w]
    obtain ⟨q3, q4⟩ := v4 w
    have hP6 := hP w
    generalize hp : X.1 0 0 = P at *
    have e0 : H.1 120 0 = nI P := by rw [hm.1 0 (by decide), hp]
    have m1 := hm.fld2 (q := 1) (d := 121) (p := P) (v := dv (c (i + 1))) (Or.inl ⟨rfl, rfl⟩)
    have m2 := m1.fld2 (q := 2) (d := 122) (p := P) (v := dv (c (i + 2))) (Or.inr ⟨rfl, rfl⟩)
    have m3 := m2.fld (c := 3) (d := 124) (p := P) (v := dv (c (i + 3))) (Or.inr (Or.inr ⟨rfl, rfl⟩))
    have m4 := m3.fld (c := 4) (d := 125) (p := P) (v := nv c (i + 4) (rn c (i + 4) 4)) (Or.inl ⟨rfl, rfl⟩)
    have m5 := m4.fld (c := 5) (d := 123) (p := P) (v := nv c (i + 5 + rn c (i + 4) 4) (rn c (i + 5 + rn c (i + 4) 4) 2)) (Or.inr (Or.inl ⟨rfl, rfl⟩))
    have m6 := m5.ppl (P + 1)
    have z1 : CF H (wI H 121 P (nI (dv (c (i + 1))))) := CF.wI H _ (by omega)
    have z2 := z1.tr (CF.wI (wI H 121 P (nI (dv (c (i + 1))))) (a := 122) (j := P) (nI (dv (c (i + 2)))) (by omega))
    have z3 := z2.tr (CF.wI _ (a := 124) (j := P) (nI (dv (c (i + 3)))) (by omega))
    have z4 := z3.tr (CF.wI _ (a := 125) (j := P) (nI (nv c (i + 4) (rn c (i + 4) 4))) (by omega))
    have z5 := z4.tr (CF.wI _ (a := 123) (j := P) (nI (nv c (i + 5 + rn c (i + 4) 4) (rn c (i + 5 + rn c (i + 4) 4) 2))) (by omega))
    have z6 := z5.tr (CF.wI _ (a := 120) (j := 0) (nI (P + 1)) (by omega))
    have r0 : ∀ (g : Hp) (a : Nat) (x : Int32), a ≠ 120 → g.1 120 0 = nI P → (wI g a P x).1 120 0 = nI P := fun g a x ha e => by rw [rdI, if_neg (by omega), e]
    have e1 := r0 H 121 (nI (dv (c (i + 1)))) (by decide) e0
    have e2 := r0 _ 122 (nI (dv (c (i + 2)))) (by decide) e1
    have e3 := r0 _ 124 (nI (dv (c (i + 3)))) (by decide) e2
    have e4 := r0 _ 125 (nI (nv c (i + 4) (rn c (i + 4) 4))) (by decide) e3
    have e5 := r0 _ 123 (nI (nv c (i + 5 + rn c (i + 4) 4) (rn c (i + 5 + rn c (i + 4) 4) 2))) (by decide) e4
    refine ⟨_, ?_, by unfold nP; rw [hp]; exact m6, z6⟩
    rw [ld0 H (CF.rf H), q0, Option.bind_some, e0, mf6, stI_n (a := 121) (show P < 6 from hP6) (by omega), Option.bind_some, ld _ 1 z1 (by decide), q1, Option.bind_some, e1, mf7, stI_n (a := 122) (show P < 6 from hP6) (by omega), Option.bind_some, ld _ 2 z2 (by decide), q2, Option.bind_some, e2, mf9, stI_n (a := 124) (show P < 6 from hP6) (by omega), Option.bind_some, ld _ 3 z3 (by decide), q3, Option.bind_some, e3, mf10, stI_n (a := 125) (show P < 6 from hP6) (by omega), Option.bind_some, ld _ 4 z4 (by decide), q4, Option.bind_some, e4, mf8, stI_n (a := 123) (show P < 6 from hP6) (by omega), Option.bind_some, e5, nI_add]
-- the states as statements come
def lS (X : St) (c : Nat → Int32) : Nat → St
  | 0 => X
  | j + 1 => nxS (lS X c j) c (sk c j)
def gS (X : St) (c : Nat → Int32) (j : Nat) : Bool := gdS ((lS X c j).1 0 0) ((lS X c j).1 0 1) c (sk c j)
set_option maxHeartbeats 400000 in
theorem nx_0 (X : St) (c : Nat → Int32) (i : Nat) : (nxS X c i).1 0 1 = X.1 0 1 ∧ (nxS X c i).1 0 0 = if c i = 108 then X.1 0 0 else X.1 0 0 + 1 := by
  unfold nxS
  by_cases w : c i = 108
  · rw [if_pos w, if_pos w]
    exact ⟨nL_0 _ _ _ _ (by decide), nL_0 _ _ _ _ (by decide)⟩
  · rw [if_neg w, if_neg w]
    exact ⟨nP_0 _ _ _ _ _ _ (by decide), nP_P _ _ _ _ _ _⟩
set_option maxHeartbeats 400000 in
theorem lS_D (X : St) (c : Nat → Int32) : ∀ j, (lS X c j).1 0 1 = X.1 0 1
  | 0 => rfl
  | j + 1 => by
    show (nxS (lS X c j) c (sk c j)).1 0 1 = _
    rw [(nx_0 _ _ _).1, lS_D X c j]
set_option maxHeartbeats 400000 in
theorem Iv_lS (hI : Iv k X) : ∀ j, (∀ x, x < j → okS c x) → (∀ x, x < j → gS X c x = true) → Iv k (lS X c j)
  | 0, _, _ => hI
  | j + 1, ho, hg => Iv_nx (Iv_lS hI j (fun x hx => ho x (by omega)) (fun x hx => hg x (by omega))) (ps_ok (ho j (by omega))) (hg j (by omega))
set_option maxHeartbeats 400000 in
theorem g_cases (G : Nat → Bool) : ∀ n, (∃ j, j < n ∧ (∀ x, x < j → G x = true) ∧ G j = false) ∨ (∀ x, x < n → G x = true)
  | 0 => Or.inr (fun x hx => absurd hx (Nat.not_lt_zero _))
  | n + 1 => by
    rcases g_cases G n with ⟨j, h1, h2, h3⟩ | h
    · exact Or.inl ⟨j, by omega, h2, h3⟩
    · by_cases w : G n = true
      · refine Or.inr (fun x hx => ?_)
        by_cases z : x = n
        · rw [z]
          exact w
        · exact h x (by omega)
      · exact Or.inl ⟨n, by omega, h, by simpa using w⟩
set_option maxHeartbeats 400000 in
theorem gd_P {P D i : Nat} (hg : gdS P D c i = true) (w : c i ≠ 108) : P < 6 := by
  unfold gdS at hg
  rw [if_neg w] at hg
  simp only [Bool.and_eq_true, decide_eq_true_iff] at hg
  exact hg.1.2
/-! the class's second walk -/
set_option maxHeartbeats 400000 in
theorem c_land36 (hc : Ch L c) {n : Nat} (hn : n ≤ 12) (ho : ∀ j, j < n → okS c j ∧ sk c j < L) {m : Nat} (hm : m ≤ n) (hI : Iv k X) (hg : ∀ x, x < m → gS X c x = true) : ∀ (f j fuel : Nat) (h : Hp), f + j = m → TX L c h → VR h 32 (lS X c j) → ∃ h', b_X4_readLand_36 (fuel + f) h 0 (nI j) (nI (sk c j)) (nI j) = b_X4_readLand_36 fuel h' 0 (nI m) (nI (sk c m)) (nI m) ∧ VR h' 32 (lS X c m) ∧ VF 32 h h'
  | 0, j, fuel, h, e, t, hv => by
    rw [show j = m from by omega] at *
    exact ⟨h, rfl, hv, VF.rf _ _⟩
  | f + 1, j, fuel, h, e, t, hv => by
    have hL := hc.1
    have hoj := ho j (by omega)
    have fs := ps_ok hoj.1
    have hle := fs.len hc
    have hIj := Iv_lS hI j (fun x hx => (ho x (by omega)).1) (fun x hx => hg x (by omega))
    rcases c_comes hc t hv hIj fs (by omega) with ⟨_, h1, k1, k2, k3⟩ | ⟨z, _⟩
    · have t1 : TX L c h1 := ⟨by rw [k3.1 5 1 (by omega)]; exact t.1, fun x hx => by rw [k3.1 6 x (by omega)]; exact t.2 x hx⟩
      obtain ⟨h2, q1, q2, q3⟩ := c_land36 hc hn ho hm hI hg f (j + 1) fuel h1 (by omega) t1 k2
      refine ⟨h2, ?_, q2, k3.tr q3⟩
      rw [← q1]
      show f_X4_readLand_36 (b_X4_readLand_36 (fuel + f)) h 0 (nI j) (nI (sk c j)) (nI j) = _
      unfold f_X4_readLand_36
      rw [L64, if_neg (nI_ge (by omega) (by omega)), xf4, t.1, if_neg (nI_ge hoj.2 (by omega)), k1, Option.bind_some, if_neg (show ¬ nI 1 = 0 from by decide), FS_next hc t1 fs (by omega), Option.bind_some, L1, nI_add, nI_add, show (ps c (sk c j)).2 - 1 + 1 = sk c (j + 1) from by show _ = (ps c (sk c j)).2; omega]
    · have := hg j (by omega)
      unfold gS at this
      rw [z] at this
      exact absurd this Bool.false_ne_true
/-! the reference's walks -/
def LN (h g : Hp) : Prop := (∀ a j, a ≠ 131 → a ≠ 132 → a ≠ 133 → ¬ (a = 120 ∧ (22 ≤ j ∧ j ≤ 24)) → g.1 a j = h.1 a j) ∧ g.2 = h.2
set_option maxHeartbeats 400000 in
theorem LFr.ln (f : LFr k h h1) : LN h h1 := ⟨fun a j q1 q2 q3 q4 => f.1 a j (by omega) (by omega) (by omega) q4, f.2⟩
set_option maxHeartbeats 400000 in
theorem LN.rf (h : Hp) : LN h h := ⟨fun _ _ _ _ _ _ => rfl, rfl⟩
set_option maxHeartbeats 400000 in
theorem LN.tr (a : LN h h1) (b : LN h1 h2) : LN h h2 := ⟨fun i j q1 q2 q3 q4 => (b.1 i j q1 q2 q3 q4).trans (a.1 i j q1 q2 q3 q4), b.2.trans a.2⟩
set_option maxHeartbeats 400000 in
theorem VL.keep {i x j : Nat} (v : VL c i x h) (f : LFr j h h1) (hx : x < j) : VL c i x h1 := by
  obtain ⟨v1, v2, v3, v4⟩ := v
  refine ⟨?_, ?_, fun y hy => ?_, fun w => ⟨?_, ?_⟩⟩
  · rw [f.1 131 x (by omega) (by omega) (by omega) (by omega)]; exact v1
  · rw [f.1 132 x (by omega) (by omega) (by omega) (by omega)]; exact v2
  · rw [f.1 133 _ (by omega) (by omega) (by omega) (by omega)]; exact v3 y hy
  · rw [f.1 133 _ (by omega) (by omega) (by omega) (by omega)]; exact (v4 w).1
  · rw [f.1 133 _ (by omega) (by omega) (by omega) (by omega)]; exact (v4 w).2
set_option maxHeartbeats 400000 in
theorem y_step (g : Hp) {L j : Nat} (fuel : Nat) (h21 : g.1 120 21 = nI L) (h24 : g.1 120 24 = nI j) (hL : L ≤ 64) (hj : j ≤ 30) (hs : j = 0 ∨ sk c j < L) : b_X5_land_20 (fuel + 1) (WW g (sk c j) 0) 120 = Option.bind (sh_X5_readStatement (WW g (sk c j) 0) 120) fun h1 => b_X5_land_20 fuel h1 120 := by
  show f_X5_land_20 (b_X5_land_20 fuel) (WW g (sk c j) 0) 120 = _
  unfold f_X5_land_20 b_X5_land_45
  rw [WW_23, if_pos (show nI 0 = 0 from rfl), WW_22, show (WW g (sk c j) 0).1 120 24 = nI j from by rw [WW_rd, if_neg (by omega), if_neg (by omega), h24], show (WW g (sk c j) 0).1 120 21 = nI L from by rw [WW_rd, if_neg (by omega), if_neg (by omega), h21]]
  by_cases w : j = 0
  · rw [w, if_pos (show nI 0 = 0 from rfl)]
  · rw [if_neg (show ¬ nI j = 0 from nI_ne0 (by omega) (by omega)), if_neg (nI_ge (by omega) (by omega))]
set_option maxHeartbeats 400000 in
theorem y20 (hc : Ch L c) {n : Nat} (hn : n ≤ 12) (ho : ∀ j, j < n → okS c j ∧ sk c j < L) : ∀ (f j fuel : Nat) (g : Hp), f + j = n → TY L c g → g.1 120 24 = nI j → (∀ x, x < j → VL c (sk c x) x g) → ∃ g', b_X5_land_20 (fuel + f) (WW g (sk c j) 0) 120 = b_X5_land_20 fuel (WW g' (sk c n) 0) 120 ∧ g'.1 120 24 = nI n ∧ TY L c g' ∧ LN g g' ∧ (∀ x, x < n → VL c (sk c x) x g')
  | 0, j, fuel, g, e, t, h24, vl => by
    rw [show j = n from by omega] at *
    exact ⟨g, rfl, h24, t, LN.rf _, vl⟩
  | f + 1, j, fuel, g, e, t, h24, vl => by
    have hL := hc.1
    have hoj := ho j (by omega)
    obtain ⟨g1, k1, k2, k3, k4⟩ := m_stmt hc t (i := sk c j) (k := j) (by omega) (by omega) h24
    have hp := hoj.1
    unfold okS at hp
    rw [hp] at k1
    obtain ⟨g2, q1, q2, q3, q4, q5⟩ := y20 hc hn ho f (j + 1) fuel g1 (by omega) (k3.ty (by omega) t) k2 (fun x hx => by
      by_cases z : x = j
      · rw [z]
        exact k4 hp
      · exact (vl x (by omega)).keep k3 (by omega))
    refine ⟨g2, ?_, q2, q3, k3.ln.tr q4, q5⟩
    rw [← q1, show fuel + (f + 1) = (fuel + f) + 1 from by omega, y_step g (fuel + f) t.1 h24 hL (by omega) (Or.inr hoj.2), k1]
    rfl
def H0 (h : Hp) : Hp := wI (th h) 120 24 (nI 0)
set_option maxHeartbeats 400000 in
theorem land_start (h : Hp) : sh_X5_land h 120 = b_X5_land_20 1000 (WW (H0 h) (sk c 0) 0) 120 := by
  unfold sh_X5_land
  show b_X5_land_20 1000 (wI (wI (wI (th h) 120 22 (nI 0)) 120 23 (nI 0)) 120 24 (nI 0)) 120 = _
  congr 1
  refine hp_ext (fun a j => ?_) rfl
  rw [WW_rd, rdI, rdI, rdI]
  unfold H0
  rw [rdI]
  by_cases w1 : a = 120 ∧ j = 24
  · rw [if_pos w1, if_neg (by omega), if_neg (by omega), if_pos w1]
  · rw [if_neg w1, if_neg w1]
    by_cases w2 : a = 120 ∧ j = 23
    · rw [if_pos w2, if_neg (by omega), if_pos w2]
    · rw [if_neg w2, if_neg w2]
      rfl
end LN
