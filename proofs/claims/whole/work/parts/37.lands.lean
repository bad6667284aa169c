/-! PURE: what comes with a land -/
section LD
variable {h h' h1 h2 : Hp} {k : Nat} {X Y : St} {L : Nat} {c : Nat → Int32}
set_option maxHeartbeats 400000 in
theorem MR.fld2 (hm : MR h X) {q d p v : Nat} (hcd : (q = 1 ∧ d = 121) ∨ (q = 2 ∧ d = 122)) : MR (wI h d p (nI v)) (up1 X.1 q p v, X.2) := by
  refine ⟨fun j hj => ?_, fun i hi => ?_, fun a i s h1 h2 h3 h4 => ?_⟩
  · rw [rdI, if_neg (by omega), hm.1 j hj]
    show _ = nI (up1 X.1 q p v 0 j)
    rw [up1_ne (by omega)]
  · have := hm.2.1 i hi
    refine ⟨?_, ?_, ?_, ?_, ?_⟩
    · show _ = nI (up1 X.1 q p v 1 i)
      rw [rdI]
      by_cases w : 121 = d ∧ i = p
      · rw [if_pos w]
        unfold up1
        rw [if_pos (by omega)]
      · rw [if_neg w, up1_ne (by omega), this.1]
    · show _ = nI (up1 X.1 q p v 2 i)
      rw [rdI]
      by_cases w : 122 = d ∧ i = p
      · rw [if_pos w]
        unfold up1
        rw [if_pos (by omega)]
      · rw [if_neg w, up1_ne (by omega), this.2.1]
    · rw [rdI, if_neg (by omega), this.2.2.1]
      show _ = nI (up1 X.1 q p v 5 i)
      rw [up1_ne (by omega)]
    · rw [rdI, if_neg (by omega), this.2.2.2.1]
      show _ = nI (up1 X.1 q p v 3 i)
      rw [up1_ne (by omega)]
    · rw [rdI, if_neg (by omega), this.2.2.2.2]
      show _ = nI (up1 X.1 q p v 4 i)
      rw [up1_ne (by omega)]
  · have e : (up1 X.1 q p v) 0 1 = X.1 0 1 := up1_ne (by omega)
    show (wI h d p (nI v)).1 126 (42 * ((up1 X.1 q p v 0 1 - a) % 11) + 7 * i + s) = nI (X.2 a i s)
    have h2' : a ≤ up1 X.1 q p v 0 1 := h2
    rw [e] at h2' ⊢
    rw [rdI, if_neg (by omega)]
    exact hm.2.2 a i s h1 h2' h3 h4
set_option maxHeartbeats 400000 in
theorem MR.ppl (hm : MR h X) (v : Nat) : MR (wI h 120 0 (nI v)) (up1 X.1 0 0 v, X.2) := by
  refine ⟨fun j hj => ?_, fun i hi => ?_, fun a i s h1 h2 h3 h4 => ?_⟩
  · show _ = nI (up1 X.1 0 0 v 0 j)
    rw [rdI]
    by_cases w : j = 0
    · rw [if_pos ⟨rfl, w⟩, w, up1_at]
    · rw [if_neg (by omega), up1_ne (by omega), hm.1 j hj]
  · have e : ∀ q, 1 ≤ q → up1 X.1 0 0 v q i = X.1 q i := fun q hq => up1_ne (by omega)
    show _ = nI (up1 X.1 0 0 v 1 i) ∧ _ = nI (up1 X.1 0 0 v 2 i) ∧ _ = nI (up1 X.1 0 0 v 5 i) ∧ _ = nI (up1 X.1 0 0 v 3 i) ∧ _ = nI (up1 X.1 0 0 v 4 i)
    rw [e 1 (by decide), e 2 (by decide), e 3 (by decide), e 4 (by decide), e 5 (by decide), rdI, rdI, rdI, rdI, rdI, if_neg (by omega), if_neg (by omega), if_neg (by omega), if_neg (by omega), if_neg (by omega)]
    exact hm.2.1 i hi
  · have e : (up1 X.1 0 0 v) 0 1 = X.1 0 1 := up1_ne (by omega)
    show (wI h 120 0 (nI v)).1 126 (42 * ((up1 X.1 0 0 v 0 1 - a) % 11) + 7 * i + s) = nI (X.2 a i s)
    have h2' : a ≤ up1 X.1 0 0 v 0 1 := h2
    rw [e] at h2' ⊢
    rw [rdI, if_neg (by omega)]
    exact hm.2.2 a i s h1 h2' h3 h4
/-! numbers and places in the class -/
set_option maxHeartbeats 400000 in
theorem x_digit (hc : Ch L c) (t : TX L c h) {j : Nat} (hj : j < 1000) (hd : dg (c j) = true) : sh_X1_digit h 5 (nI j) = some (nI (dv (c j))) := by
  have hL := hc.1
  obtain ⟨d1, d2⟩ := dg_dv hd
  have hjL : j < L := by
    rcases Nat.lt_or_ge j L with z | z
    · exact z
    · rw [hc.2 j z] at hd
      exact absurd hd (by decide)
  unfold sh_X1_digit b_X1_digit_21
  rw [x_dig hc t (by omega), Option.bind_some, if_pos hd, if_neg (show ¬ nI 1 = 0 from by decide), zf0, ldI_n (a := 6) (show j < 64 from by omega) (by omega), t.2 j hjL, Option.bind_some]
  conv => lhs; rw [d2]
  rw [L48, pk_sub (by omega), Nat.add_sub_cancel_left]
set_option maxHeartbeats 400000 in
theorem x_num4 (hc : Ch L c) (t : TX L c h) {i r : Nat} (hi : i < 100) (hr : r ≤ 10) (hd : ∀ x, x < r → dg (c (i + x)) = true) (hn : dg (c (i + r)) = false) : ∀ (f x fuel : Nat), f + x = r → f < fuel → b_X1_number_4 fuel h 5 (nI (nv c i x)) (nI (i + x)) = some (nI (nv c i r))
  | f, x, 0, e, hf => by omega
  | 0, x, fuel + 1, e, hf => by
    show f_X1_number_4 (b_X1_number_4 fuel) h 5 (nI (nv c i x)) (nI (i + x)) = _
    unfold f_X1_number_4 b_X1_number_37
    rw [show x = r from by omega, x_dig hc t (by omega), Option.bind_some, hn]
    split <;> rfl
  | f + 1, x, fuel + 1, e, hf => by
    have hL := hc.1
    have hdx := hd x (by omega)
    have hjL : i + x < L := by
      rcases Nat.lt_or_ge (i + x) L with z | z
      · exact z
      · rw [hc.2 _ z] at hdx
        exact absurd hdx (by decide)
    show f_X1_number_4 (b_X1_number_4 fuel) h 5 (nI (nv c i x)) (nI (i + x)) = _
    unfold f_X1_number_4
    rw [t.1, if_neg (nI_ge hjL (by omega)), x_dig hc t (by omega), Option.bind_some, if_pos hdx, if_neg (show ¬ nI 1 = 0 from by decide), x_digit hc t (by omega) hdx, Option.bind_some, L10, pk_mul, nI_add, L1, nI_add, show nv c i x * 10 + dv (c (i + x)) = nv c i (x + 1) from by show _ = 10 * nv c i x + dv (c (i + x)); omega, show i + x + 1 = i + (x + 1) from by omega]
    exact x_num4 hc t hi hr hd hn f (x + 1) fuel (by omega) (by omega)
set_option maxHeartbeats 400000 in
theorem x_num (hc : Ch L c) (t : TX L c h) {i r : Nat} (hi : i < 100) (hr : r ≤ 10) (hd : ∀ x, x < r → dg (c (i + x)) = true) (hn : dg (c (i + r)) = false) : sh_X1_number h 5 (nI i) = some (nI (nv c i r)) := x_num4 hc t hi hr hd hn r 0 1000 (by omega) (by omega)
set_option maxHeartbeats 400000 in
theorem x_next2 (hc : Ch L c) (t : TX L c h) {y : Int32} (hy : y ≠ -1) {e : Nat} (he : c e = y) (he2 : e < L) : ∀ (f i fuel : Nat), f + i = e → f < fuel → (∀ x, i ≤ x → x < e → c x ≠ y) → b_X1_next_2 fuel h 5 y (nI i) = some (nI e)
  | f, i, 0, q, hf, hn => by omega
  | 0, i, fuel + 1, q, hf, hn => by
    have hL := hc.1
    have : i = e := by omega
    subst this
    show f_X1_next_2 (b_X1_next_2 fuel) h 5 y (nI i) = _
    unfold f_X1_next_2 b_X1_next_25
    rw [t.1, if_neg (nI_ge he2 (by omega)), x_isAt hc t y hy (by omega), Option.bind_some, if_pos he, if_neg (show ¬ nI 1 = 0 from by decide)]
  | f + 1, i, fuel + 1, q, hf, hn => by
    have hL := hc.1
    show f_X1_next_2 (b_X1_next_2 fuel) h 5 y (nI i) = _
    unfold f_X1_next_2
    rw [t.1, if_neg (nI_ge (by omega) (by omega)), x_isAt hc t y hy (by omega), Option.bind_some, if_neg (hn i (Nat.le_refl _) (by omega)), if_pos (show nI 0 = 0 from rfl), L1, nI_add]
    exact x_next2 hc t hy he he2 f (i + 1) fuel (by omega) (by omega) (fun x h1 h2 => hn x (by omega) h2)
set_option maxHeartbeats 400000 in
theorem x_next (hc : Ch L c) (t : TX L c h) {y : Int32} (hy : y ≠ -1) {i e : Nat} (he : c e = y) (hie : i ≤ e) (hn : ∀ x, i ≤ x → x < e → c x ≠ y) : sh_X1_next h 5 y (nI i) = some (nI e) := by
  have hL := hc.1
  have he2 : e < L := by
    rcases Nat.lt_or_ge e L with z | z
    · exact z
    · rw [hc.2 e z] at he
      exact absurd he.symm hy
  exact x_next2 hc t hy he he2 (e - i) i 1000 (by omega) (by omega) hn
/-! what a statement asks, and what comes of it -/
def gdS (P D : Nat) (c : Nat → Int32) (i : Nat) : Bool := if c i = 108 then decide (dv (c (i + 1)) ≤ 5) && decide (1 ≤ dv (c (i + 2))) && decide (dv (c (i + 2)) ≤ 5) && decide (dv (c (i + 3)) ≤ 5) else decide (dv (c (i + 1)) ≤ 7) && (decide (dv (c (i + 3)) = 9) || decide (dv (c (i + 3)) ≤ P)) && decide (P < 6) && decide (D = 0)
def nP (X : St) (a b t s f : Nat) : St := (up1 (up1 (up1 (up1 (up1 (up1 X.1 1 (X.1 0 0) a) 2 (X.1 0 0) b) 3 (X.1 0 0) t) 4 (X.1 0 0) s) 5 (X.1 0 0) f) 0 0 (X.1 0 0 + 1), X.2)
def nL (X : St) (a b d : Nat) : St := (up1 (up1 (up1 X.1 0 (2 + 0) a) 0 (2 + 1) b) 0 (2 + 2) d, X.2)
def nxS (X : St) (c : Nat → Int32) (i : Nat) : St := if c i = 108 then nL X (dv (c (i + 1))) (dv (c (i + 2))) (dv (c (i + 3))) else nP X (dv (c (i + 1))) (dv (c (i + 2))) (dv (c (i + 3))) (nv c (i + 4) (rn c (i + 4) 4)) (nv c (i + 5 + rn c (i + 4) 4) (rn c (i + 5 + rn c (i + 4) 4) 2))
set_option maxHeartbeats 400000 in
theorem nL_0 (X : St) (a b d : Nat) {j : Nat} (hj : j < 2) : (nL X a b d).1 0 j = X.1 0 j := by
  show up1 (up1 (up1 X.1 0 (2 + 0) a) 0 (2 + 1) b) 0 (2 + 2) d 0 j = _
  rw [up1_ne (by omega), up1_ne (by omega), up1_ne (by omega)]
set_option maxHeartbeats 400000 in
theorem nP_0 (X : St) (a b t s f : Nat) {j : Nat} (hj : j ≠ 0) : (nP X a b t s f).1 0 j = X.1 0 j := by
  show up1 (up1 (up1 (up1 (up1 (up1 X.1 1 (X.1 0 0) a) 2 (X.1 0 0) b) 3 (X.1 0 0) t) 4 (X.1 0 0) s) 5 (X.1 0 0) f) 0 0 (X.1 0 0 + 1) 0 j = _
  rw [up1_ne (by omega), up1_ne (by omega), up1_ne (by omega), up1_ne (by omega), up1_ne (by omega), up1_ne (by omega)]
set_option maxHeartbeats 400000 in
theorem nP_P (X : St) (a b t s f : Nat) : (nP X a b t s f).1 0 0 = X.1 0 0 + 1 := by
  unfold nP
  dsimp only
  exact up1_at _ _ _ _
set_option maxHeartbeats 400000 in
theorem Iv_nL (hI : Iv k X) {a b d : Nat} (ha : a ≤ 5) (hb1 : 1 ≤ b) (hb : b ≤ 5) (hd : d ≤ 5) : Iv k (nL X a b d) := by
  have i1 := Iv_set hI (j := 0) (v := a) (by decide) (Nat.zero_le _) (by show a ≤ 5; exact ha)
  have i2 := Iv_set i1 (j := 1) (v := b) (by decide) (by show 1 ≤ b; exact hb1) (by show b ≤ 5; exact hb)
  exact Iv_set i2 (j := 2) (v := d) (by decide) (Nat.zero_le _) (by show d ≤ 5; exact hd)
set_option maxHeartbeats 400000 in
theorem Iv_nP (hI : Iv k X) {a b t s f : Nat} (hP : X.1 0 0 < 6) (ha : a ≤ 7) (hb : b ≤ 9) (ht : t = 9 ∨ t ≤ X.1 0 0) (hs : s ≤ 9999) (hf : f ≤ 99) : Iv k (nP X a b t s f) := by
  obtain ⟨a1, a2, a3, a4, a5, a6, a7, a8, a9, a10, a11, a12⟩ := hI
  have e : ∀ j, j ≠ 0 → (nP X a b t s f).1 0 j = X.1 0 j := fun j hj => nP_0 X a b t s f hj
  have eP := nP_P X a b t s f
  have ec : ∀ q i, 1 ≤ q → q ≤ 5 → (nP X a b t s f).1 q i = if i = X.1 0 0 then (if q = 1 then a else if q = 2 then b else if q = 3 then t else if q = 4 then s else f) else X.1 q i := fun q i h1 h5 => by
    show up1 (up1 (up1 (up1 (up1 (up1 X.1 1 (X.1 0 0) a) 2 (X.1 0 0) b) 3 (X.1 0 0) t) 4 (X.1 0 0) s) 5 (X.1 0 0) f) 0 0 (X.1 0 0 + 1) q i = _
    unfold up1
    repeat' split
    all_goals first
      | rfl
      | omega
  refine ⟨a1, by rw [eP]; omega, by rw [e 1 (by decide)]; exact a3, by rw [e 2 (by decide)]; exact a4, by rw [e 3 (by decide)]; exact a5, by rw [e 3 (by decide)]; exact a6, by rw [e 4 (by decide)]; exact a7, by rw [e 5 (by decide)]; exact a8, fun i hi => ?_, fun i hi => ?_, a11, fun x i q z => ?_⟩
  · have := a9 i hi
    rw [ec 1 i (by decide) (by decide), ec 2 i (by decide) (by decide), ec 4 i (by decide) (by decide), ec 5 i (by decide) (by decide)]
    by_cases w : i = X.1 0 0
    · rw [if_pos w, if_pos w, if_pos w, if_pos w]
      exact ⟨ha, hb, hs, hf⟩
    · rw [if_neg w, if_neg w, if_neg w, if_neg w]
      exact this
  · rw [eP] at hi ⊢
    rw [ec 3 i (by decide) (by decide)]
    by_cases w : i = X.1 0 0
    · rw [if_pos w]
      show t = 9 ∨ t < X.1 0 0 + 1
      omega
    · rw [if_neg w]
      have := a10 i (by omega)
      omega
  · rw [eP, e 1 (by decide)] at z
    exact a12 x i q (by omega)
set_option maxHeartbeats 400000 in
theorem nv_le (c : Nat → Int32) (i : Nat) : ∀ r, (∀ x, x < r → dg (c (i + x)) = true) → nv c i r + 1 ≤ 10 ^ r
  | 0, _ => Nat.le_refl _
  | r + 1, hd => by
    have ih := nv_le c i r (fun x hx => hd x (by omega))
    have := (dg_dv (hd r (by omega))).1
    show 10 * nv c i r + dv (c (i + r)) + 1 ≤ 10 ^ (r + 1)
    rw [Nat.pow_succ]
    omega
-- what is known of a fitting statement
set_option maxHeartbeats 400000 in
theorem FS_d {i e : Nat} (f : FS c i e) : dg (c (i + 1)) = true ∧ dg (c (i + 2)) = true ∧ dg (c (i + 3)) = true := by
  have q : rn c (i + 1) 3 = 3 := by
    rcases f with ⟨_, z, _⟩ | ⟨_, _, z, _⟩ <;> exact z
  exact ⟨rn_dg 3 (i + 1) 0 (by omega), rn_dg 3 (i + 1) 1 (by omega), rn_dg 3 (i + 1) 2 (by omega)⟩
set_option maxHeartbeats 400000 in
theorem Iv_nx (hI : Iv k X) {i e : Nat} (f : FS c i e) (hg : gdS (X.1 0 0) (X.1 0 1) c i = true) : Iv k (nxS X c i) := by
  obtain ⟨d1, d2, d3⟩ := FS_d f
  have b2 := (dg_dv d2).1
  unfold gdS at hg
  unfold nxS
  rcases f with ⟨w, _⟩ | ⟨w, _, _, r, m, hr, r1, r2, r3, hm, m1, m2, m3, m4⟩
  · rw [if_pos w] at hg ⊢
    simp only [Bool.and_eq_true, decide_eq_true_iff] at hg
    exact Iv_nL hI hg.1.1.1 hg.1.1.2 hg.1.2 hg.2
  · rw [if_neg w] at hg ⊢
    simp only [Bool.and_eq_true, Bool.or_eq_true, decide_eq_true_iff] at hg
    have v1 := nv_le c (i + 4) r (fun x hx => by have := rn_dg 4 (i + 4) x (by rw [← hr]; exact hx); exact this)
    have v2 := nv_le c (i + 5 + r) m (fun x hx => by have := rn_dg 2 (i + 5 + r) x (by rw [← hm]; exact hx); exact this)
    have p1 : 10 ^ r ≤ 10 ^ 4 := Nat.pow_le_pow_right (by decide) r2
    have p2 : 10 ^ m ≤ 10 ^ 2 := Nat.pow_le_pow_right (by decide) m2
    rw [← hr, ← hm]
    exact Iv_nP hI hg.1.2 hg.1.1.1 (by omega) hg.1.1.2 (by omega) (by omega)
end LD
