/-! PURE: the reference's days -/
section MD
variable {h : Hp} {k : Nat} {X : St}
set_option maxHeartbeats 400000 in
theorem m_counted (hm : MR h X) (hI : Iv k X) {a p : Nat} (ha : a ≤ 5) (hp : p < 6) : sh_X5_counted h 120 (nI (X.1 0 1) - nI a) (nI p) = some (nI (cnt X a p)) := by
  have hP := hI.2.1
  have hk := hI.1
  have hG := hI.2.2.2.2.2.2.2.2.2.2.1
  have e : cnt X a p = X.2 a p 6 + sm (fun q => if cb X a p q then 0 else X.2 a p q) (X.1 0 0) := by
    unfold cnt
    rw [sm_ext hP (fun i h1 h2 => by rw [hI.2.2.2.2.2.2.2.2.2.2.2 a p i (Or.inr (Or.inl ⟨h1, h2⟩))]; split <;> rfl)]
  rw [e]
  unfold sh_X5_counted
  rw [L6, m_gift hm hI (by omega) hp (by omega), Option.bind_some]
  refine lpE (fun n (s : Int32 × Int32) => b_X5_counted_12 n h 120 (nI (X.1 0 1) - nI a) (nI p) s.1 s.2) (fun q => (nI (X.2 a p 6 + sm (fun q => if cb X a p q then 0 else X.2 a p q) q), nI q)) _ (X.1 0 0) (fun n q hq => ?_) (fun n => ?_) 1000 0 (by omega) (by omega)
  · show f_X5_counted_12 (b_X5_counted_12 n) h 120 (nI (X.1 0 1) - nI a) (nI p) (nI (X.2 a p 6 + sm (fun q => if cb X a p q then 0 else X.2 a p q) q)) (nI q) = b_X5_counted_12 n h 120 (nI (X.1 0 1) - nI a) (nI p) (nI (X.2 a p 6 + (sm (fun q => if cb X a p q then 0 else X.2 a p q) q + (if cb X a p q then 0 else X.2 a p q)))) (nI (q + 1))
    unfold f_X5_counted_12 b_X5_counted_53 b_X5_counted_54
    have h9 := hG a p q
    rw [hm.1 0 (by decide), m_gift hm hI (by omega) hp (by omega), m_cameBack hm hI ha hp (by omega)]
    simp (disch := omega) only [L0, L1, L2, L3, L4, L5, L6, L7, L8, L9, L10, L11, L12, L13, L14, L15, L16, L20, L21, L42, L44, L48, L57, L59, L60, L63, L64, L99, L108, L112, L255, L462, L999, L9999, nI_add, pk_mul, nI_leI, nI_ltI, nI_eq, Option.bind_some]
    rw [if_neg (by omega)]
    by_cases w : X.2 a p q ≤ 0
    · rw [if_pos w]
      congr 2
      have : X.2 a p q = 0 := by omega
      rw [this]
      split <;> rfl
    · rw [if_neg w]
      cases hc : cb X a p q with
      | true =>
        rw [if_neg (by decide)]
        congr 2
      | false =>
        rw [if_pos (by decide)]
        congr 2
        show X.2 a p 6 + sm (fun q => if cb X a p q = true then 0 else X.2 a p q) q + X.2 a p q = X.2 a p 6 + (sm (fun q => if cb X a p q = true then 0 else X.2 a p q) q + X.2 a p q)
        omega
  · show f_X5_counted_12 (b_X5_counted_12 n) h 120 (nI (X.1 0 1) - nI a) (nI p) (nI (X.2 a p 6 + sm (fun q => if cb X a p q then 0 else X.2 a p q) (X.1 0 0))) (nI (X.1 0 0)) = _
    unfold f_X5_counted_12
    rw [hm.1 0 (by decide), if_pos (nI_le (Nat.le_refl _) (by omega))]
set_option maxHeartbeats 400000 in
theorem m_lesser {h : Hp} {a c : Nat} (ha : a < 2 ^ 31) (hc : c < 2 ^ 31) : sh_X5_lesser h (nI a) (nI c) = some (nI (min a c)) := by
  unfold sh_X5_lesser b_X5_lesser_10
  simp (disch := omega) only [L0, L1, L2, L3, L4, L5, L6, L7, L8, L9, L10, L11, L12, L13, L14, L15, L16, L20, L21, L42, L44, L48, L57, L59, L60, L63, L64, L99, L108, L112, L255, L462, L999, L9999, nI_add, pk_mul, nI_leI, nI_ltI, nI_eq, Option.bind_some]
  split <;> congr 2 <;> omega
set_option maxHeartbeats 400000 in
theorem m_lv164 (hm : MR h X) (hI : Iv k X) {v : Nat} (hv : v ≤ 400000000) : b_X5_leave_164 h 120 (nI v) = some (nI (max (X.1 0 5) (min 9999 v))) := by
  have h5 := hI.2.2.2.2.2.2.2.1
  unfold b_X5_leave_164 b_X5_leave_184
  rw [hm.1 5 (by decide), L9999]
  simp (disch := omega) only [L0, L1, L2, L3, L4, L5, L6, L7, L8, L9, L10, L11, L12, L13, L14, L15, L16, L20, L21, L42, L44, L48, L57, L59, L60, L63, L64, L99, L108, L112, L255, L462, L999, L9999, nI_add, pk_mul, nI_leI, nI_ltI, nI_eq, Option.bind_some, m_lesser]
  generalize X.1 0 5 = f at h5
  split <;> congr 2 <;> omega
set_option maxHeartbeats 400000 in
theorem m_leave (hm : MR h X) (hI : Iv k X) {p : Nat} (hp : p < 6) : sh_X5_leave h 120 (nI p) = some (nI (lev X p)) := by
  have hk := (hI.2.2.2.2.2.2.2.2.1 p hp).1
  have hf := (hI.2.2.2.2.2.2.2.2.1 p hp).2.1
  have hL := hI.2.2.2.1
  have hs1 := hI.2.2.2.2.1
  have hs2 := hI.2.2.2.2.2.1
  have hc := cnt_le hI 1 p
  have hw := lwv_le hI hp
  unfold sh_X5_leave lev
  rw [md_kind hm hp, hm.1 1 (by decide), L1, m_counted hm hI (a := 1) (by omega) hp]
  simp (disch := omega) only [L0, L1, L2, L3, L4, L5, L6, L7, L8, L9, L10, L11, L12, L13, L14, L15, L16, L20, L21, L42, L44, L48, L57, L59, L60, L63, L64, L99, L108, L112, L255, L462, L999, L9999, nI_add, pk_mul, nI_leI, nI_ltI, nI_eq, Option.bind_some]
  by_cases q : X.1 1 p = 7
  · rw [if_pos q, if_pos q]
  · rw [if_neg q, if_neg q]
    refine lpE (fun n (s : Int32 × Int32 × Int32) => b_X5_leave_35 n h 120 (nI p) (nI (cnt X 1 p)) s.1 s.2.1 s.2.2) (fun i => (nI (sm (fun i => cnt X (i + 1) p) i), nI (mx (fun i => cnt X (i + 1) p) i), nI (i + 1))) _ (X.1 0 3) (fun n i hi => ?_) (fun n => ?_) 1000 0 (by omega) (by omega)
    · show f_X5_leave_35 (b_X5_leave_35 n) h 120 (nI p) (nI (cnt X 1 p)) (nI (sm (fun i => cnt X (i + 1) p) i)) (nI (mx (fun i => cnt X (i + 1) p) i)) (nI (i + 1)) = b_X5_leave_35 n h 120 (nI p) (nI (cnt X 1 p)) (nI (sm (fun i => cnt X (i + 1) p) i + cnt X (i + 1) p)) (nI (max (mx (fun i => cnt X (i + 1) p) i) (cnt X (i + 1) p))) (nI (i + 1 + 1))
      have h1 := cnt_le hI (i + 1) p
      have h2 : mx (fun i => cnt X (i + 1) p) i ≤ 70000000 := mx_le (fun j _ => cnt_le hI (j + 1) p)
      unfold f_X5_leave_35 b_X5_leave_77
      rw [hm.1 3 (by decide), hm.1 1 (by decide), m_counted hm hI (a := i + 1) (by omega) hp]
      generalize mx (fun i => cnt X (i + 1) p) i = w at h2 ⊢
      generalize sm (fun i => cnt X (i + 1) p) i = w2
      simp (disch := omega) only [L0, L1, L2, L3, L4, L5, L6, L7, L8, L9, L10, L11, L12, L13, L14, L15, L16, L20, L21, L42, L44, L48, L57, L59, L60, L63, L64, L99, L108, L112, L255, L462, L999, L9999, nI_add, pk_mul, nI_leI, nI_ltI, nI_eq, Option.bind_some]
      rw [if_neg (by omega)]
      split <;> congr 2 <;> omega
    · show f_X5_leave_35 (b_X5_leave_35 n) h 120 (nI p) (nI (cnt X 1 p)) (nI (sm (fun i => cnt X (i + 1) p) (X.1 0 3))) (nI (mx (fun i => cnt X (i + 1) p) (X.1 0 3))) (nI (X.1 0 3 + 1)) = _
      unfold f_X5_leave_35
      rw [hm.1 3 (by decide), hm.1 2 (by decide), md_fig hm hp]
      simp (disch := omega) only [L0, L1, L2, L3, L4, L5, L6, L7, L8, L9, L10, L11, L12, L13, L14, L15, L16, L20, L21, L42, L44, L48, L57, L59, L60, L63, L64, L99, L108, L112, L255, L462, L999, L9999, nI_add, pk_mul, nI_leI, nI_ltI, nI_eq, Option.bind_some]
      rw [if_pos (by omega)]
      unfold lwv at hw ⊢
      rcases (show X.1 0 2 = 0 ∨ X.1 0 2 = 1 ∨ X.1 0 2 = 2 ∨ X.1 0 2 = 3 ∨ X.1 0 2 = 4 ∨ X.1 0 2 = 5 by omega) with e | e | e | e | e | e
      · simp (config := { decide := true }) only [e, if_true, if_false] at hw ⊢
        exact m_lv164 hm hI hw
      · simp (config := { decide := true }) only [e, if_true, if_false] at hw ⊢
        rw [pk_div (by omega) (by omega) (by omega)]
        exact m_lv164 hm hI hw
      · simp (config := { decide := true }) only [e, if_true, if_false] at hw ⊢
        rw [Nat.mul_comm 2]
        exact m_lv164 hm hI hw
      · simp (config := { decide := true }) only [e, if_true, if_false] at hw ⊢
        exact m_lv164 hm hI hw
      · simp (config := { decide := true }) only [e, if_true, if_false] at hw ⊢
        exact m_lv164 hm hI hw
      · simp (config := { decide := true }) only [e, if_true, if_false] at hw ⊢
        rw [pk_div (by omega) (by omega) (by omega), nI_add]
        exact m_lv164 hm hI hw
set_option maxHeartbeats 400000 in
theorem m_target (hm : MR h X) (hI : Iv k X) {p : Nat} (hp : p < X.1 0 0) : sh_X5_target h 120 (nI p) = some (nI (tgt X p)) := by
  have hP := hI.2.1
  have hk := (hI.2.2.2.2.2.2.2.2.1 p (by omega)).1
  have hd := hI.2.2.1
  have h1 := hI.1
  unfold sh_X5_target b_X5_target_53 b_X5_target_47 tgt
  rw [hm.1 0 (by decide), hm.1 1 (by decide), md_kind hm (by omega), md_to hm (by omega), L2, pk_rem (by omega) (by omega) (by omega)]
  simp (disch := omega) only [L0, L1, L2, L3, L4, L5, L6, L7, L8, L9, L10, L11, L12, L13, L14, L15, L16, L20, L21, L42, L44, L48, L57, L59, L60, L63, L64, L99, L108, L112, L255, L462, L999, L9999, nI_add, pk_mul, nI_leI, nI_ltI, nI_eq, Option.bind_some]
  by_cases e4 : X.1 1 p = 4
  · rw [if_pos e4, if_pos e4]
    unfold rmI nxo
    have z2 : ¬ nI (X.1 0 0) = 0 := nI_ne0 (by omega) (by omega)
    rw [if_neg z2, Option.bind_some, pk_rem (by omega) (by omega) (by omega)]
    by_cases w : p + 1 < X.1 0 0
    · rw [if_pos w, Nat.mod_eq_of_lt w]
    · rw [if_neg w, show p + 1 = X.1 0 0 by omega, Nat.mod_self]
  · rw [if_neg e4, if_neg e4]
    by_cases e6 : X.1 1 p = 6
    · rw [if_pos e6]
      by_cases e1 : X.1 0 1 % 2 = 1
      · rw [if_pos e1, if_pos ⟨e6, e1⟩]
      · rw [if_neg e1, if_neg (fun z => e1 z.2)]
        rfl
    · rw [if_neg e6, if_neg (fun z => e6 z.1)]
      rfl
set_option maxHeartbeats 400000 in
theorem m_grown (hm : MR h X) (hI : Iv k X) {p : Nat} (hp : p < 6) : sh_X5_grown h 120 (nI p) = some (nI (grw X p)) := by
  have hk := hI.2.2.2.2.2.2.2.2.1 p hp
  have hg := got_le hI 1 p
  unfold sh_X5_grown grw
  rw [hm.1 1 (by decide), md_has hm hp, md_finds hm hp, L1, m_got hm hI (a := 1) (by omega) (by omega)]
  simp (disch := omega) only [L0, L1, L2, L3, L4, L5, L6, L7, L8, L9, L10, L11, L12, L13, L14, L15, L16, L20, L21, L42, L44, L48, L57, L59, L60, L63, L64, L99, L108, L112, L255, L462, L999, L9999, nI_add, pk_mul, nI_leI, nI_ltI, nI_eq, Option.bind_some, m_lesser]
set_option maxHeartbeats 400000 in
theorem m_byKind (hm : MR h X) (hI : Iv k X) {p : Nat} (hp : p < X.1 0 0) : sh_X5_byKind h 120 (nI p) = some (nI (gft X p)) := by
  have hP := hI.2.1
  have hk := hI.2.2.2.2.2.2.2.2.1 p (by omega)
  have hd := hI.2.2.1
  have h1 := hI.1
  have ht := tgt_ok hI hp
  unfold sh_X5_byKind b_X5_byKind_60 b_X5_byKind_107 b_X5_byKind_136 gft
  rw [m_target hm hI hp, hm.1 1 (by decide), md_kind hm (by omega), md_fig hm (by omega), md_has hm (by omega), m_grown hm hI (by omega)]
  simp (disch := omega) only [L0, L1, L2, L3, L4, L5, L6, L7, L8, L9, L10, L11, L12, L13, L14, L15, L16, L20, L21, L42, L44, L48, L57, L59, L60, L63, L64, L99, L108, L112, L255, L462, L999, L9999, nI_add, pk_mul, nI_leI, nI_ltI, nI_eq, Option.bind_some]
  by_cases e : tgt X p = p
  · rw [if_pos e, if_pos e]
  · rw [if_neg e, if_neg e]
    unfold amt
    rcases (show X.1 1 p = 0 ∨ X.1 1 p = 1 ∨ X.1 1 p = 2 ∨ X.1 1 p = 3 ∨ X.1 1 p = 4 ∨ X.1 1 p = 5 ∨ X.1 1 p = 6 ∨ X.1 1 p = 7 by omega) with e | e | e | e | e | e | e | e
    · simp (config := { decide := true }) only [e, if_true, if_false]
    · simp (config := { decide := true }) only [e, if_true, if_false]
    · simp (config := { decide := true }) only [e, if_true, if_false]
      rw [pk_div (by omega) (by omega) (by omega)]
    · simp (config := { decide := true }) only [e, if_true, if_false]
    · simp (config := { decide := true }) only [e, if_true, if_false]
    · simp (config := { decide := true }) only [e, if_true, if_false]
      by_cases w : X.1 0 1 < 10 * X.1 2 p
      · rw [if_neg (by omega), if_pos w]
      · rw [if_pos (by omega), if_neg w]
    · simp (config := { decide := true }) only [e, if_true, if_false]
    · simp (config := { decide := true }) only [e, if_true, if_false]
      unfold rmI
      have z2 : ¬ nI (X.1 2 p + 1) = 0 := nI_ne0 (by omega) (by omega)
      have hm2 : X.1 0 1 % (X.1 2 p + 1) < X.1 2 p + 1 := Nat.mod_lt _ (by omega)
      rw [if_neg z2, Option.bind_some, pk_rem (by omega) (by omega) (by omega)]
      show (if nI (X.1 0 1 % (X.1 2 p + 1)) = (0 : Int32) then some (nI (X.1 4 p) / nI 2) else some (nI 0)) = _
      by_cases w : X.1 0 1 % (X.1 2 p + 1) = 0
      · rw [if_pos w, if_pos (show nI (X.1 0 1 % (X.1 2 p + 1)) = (0 : Int32) by rw [w]; rfl), pk_div (by omega) (by omega) (by omega)]
      · rw [if_neg w, if_neg (show ¬ nI (X.1 0 1 % (X.1 2 p + 1)) = (0 : Int32) from nI_ne0 (by omega) (by omega))]
end MD
