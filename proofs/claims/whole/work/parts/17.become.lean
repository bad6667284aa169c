/-! PURE: a village becomes another -/
section VB
variable {h : Hp} {b d : Nat} {X : St}
set_option maxHeartbeats 400000 in
theorem v_apart (hb : isV b) (hd : isV d) (hn : b ≠ d) : b + 11 ≤ d ∨ d + 11 ≤ b := by
  obtain ⟨i, _, rfl⟩ := hb
  obtain ⟨j, _, rfl⟩ := hd
  omega
def BC (b d : Nat) (h : Hp) (m : Nat) (g : Hp) : Prop := (∀ c j, g.1 c j = if b + 1 ≤ c ∧ c < b + m ∧ j < len c then h.1 (c - b + d) j else h.1 c j) ∧ g.2 = h.2
set_option maxHeartbeats 400000 in
theorem BC.step {g : Hp} {m n : Nat} (t : BC b d h m g) (ha : b + 11 ≤ d ∨ d + 11 ≤ b) (hm : 1 ≤ m) (hm2 : m < 11) (h1 : len (b + m) = n) (h2 : len (d + m) = n) (hn : n < 1000) : acI g (d + m) (nI 0) (b + m) (nI 0) (nI n) = some (cpI g (d + m) 0 (b + m) 0 n) ∧ BC b d h (m + 1) (cpI g (d + m) 0 (b + m) 0 n) := by
  refine ⟨acI_n (by omega) (by omega) (by omega), fun c j => ?_, t.2⟩
  rw [rdCI, t.1, t.1]
  by_cases w : c = b + m
  · subst w
    rw [if_neg (show ¬ (b + 1 ≤ d + m ∧ d + m < b + m ∧ 0 + (j - 0) < len (d + m)) by omega)]
    by_cases w2 : j < n
    · rw [if_pos (by omega), if_pos (by omega), show 0 + (j - 0) = j by omega, show b + m - b + d = d + m by omega]
    · rw [if_neg (by omega), if_neg (by omega), if_neg (by omega)]
  · rw [if_neg (by omega)]
    by_cases w2 : b + 1 ≤ c ∧ c < b + m ∧ j < len c
    · rw [if_pos w2, if_pos (by omega)]
    · rw [if_neg w2, if_neg (by omega)]
set_option maxHeartbeats 400000 in
theorem p_gbecome {g : Hp} (hb : isV b) (hd : isV d) (hn : b ≠ d) (t : BC b d h 8 g) : ∃ h', sh_X0_become g (rf b 6) (rf d 6) = some h' ∧ (∀ c j, h'.1 c j = if b + 1 ≤ c ∧ c < b + 10 ∧ j < len c then h.1 (c - b + d) j else h.1 c j) ∧ (∀ c j, h'.2.1 c j = if c = b + 10 ∧ j < 11 then h.2.1 (d + 10) j else h.2.1 c j) ∧ h'.2.2 = h.2.2 := by
  have ha := v_apart hb hd hn
  unfold sh_X0_become
  rw [rg0 hb, rg1 hb, rg2 hb, rg0 hd, rg1 hd, rg2 hd, vl8 hb, vl9 hb, vl10 hb]
  obtain ⟨s1, t1⟩ := t.step ha (by decide) (by decide) (vl8 hb) (vl8 hd) (by decide)
  rw [L0, show Int32.ofNat 252 = nI 252 from rfl, s1, Option.bind_some]
  obtain ⟨s2, t2⟩ := t1.step ha (by decide) (by decide) (vl9 hb) (vl9 hd) (by decide)
  rw [show Int32.ofNat 36 = nI 36 from rfl, s2, Option.bind_some, show Int32.ofNat 11 = nI 11 from rfl, acJ_n (by rw [vl10 hd]; decide) (by rw [vl10 hb]; decide) (by decide), Option.bind_some]
  refine ⟨_, rfl, t2.1, fun c j => ?_, ?_⟩
  · rw [rdCJ, t2.2]
    by_cases w : c = b + 10 ∧ j < 11
    · rw [if_pos (by omega), if_pos w, show 0 + (j - 0) = j by omega]
    · rw [if_neg (by omega), if_neg w]
  · show (cpI _ _ _ _ _ _).2.2 = _
    rw [t2.2]
set_option maxHeartbeats 400000 in
theorem p_become (hb : isV b) (hd : isV d) (hn : b ≠ d) : ∃ h', sh_X3_become h b d = some h' ∧ VF b h h' ∧ ∀ X, VR h d X → VR h' b X := by
  have ha := v_apart hb hd hn
  unfold sh_X3_become
  rw [rf0 hb, rf1 hb, rf2 hb, rf3 hb, rf4 hb, rf5 hb, rf0 hd, rf1 hd, rf2 hd, rf3 hd, rf4 hd, rf5 hd, vl6 hb]
  have t0 : BC b d h 1 h := ⟨fun c j => by rw [if_neg (by omega)], rfl⟩
  obtain ⟨s1, t1⟩ := t0.step ha (by decide) (by decide) (vl1 hb) (vl1 hd) (by decide)
  rw [L0, L6, s1, Option.bind_some]
  obtain ⟨s2, t2⟩ := t1.step ha (by decide) (by decide) (vl2 hb) (vl2 hd) (by decide)
  rw [s2, Option.bind_some]
  obtain ⟨s3, t3⟩ := t2.step ha (by decide) (by decide) (vl3 hb) (vl3 hd) (by decide)
  rw [s3, Option.bind_some]
  obtain ⟨s4, t4⟩ := t3.step ha (by decide) (by decide) (vl4 hb) (vl4 hd) (by decide)
  rw [s4, Option.bind_some]
  obtain ⟨s5, t5⟩ := t4.step ha (by decide) (by decide) (vl5 hb) (vl5 hd) (by decide)
  rw [s5, Option.bind_some]
  obtain ⟨s6, t6⟩ := t5.step ha (by decide) (by decide) (vl6 hb) (vl6 hd) (by decide)
  rw [show Int32.ofNat 4 = nI 4 from rfl, s6, Option.bind_some]
  generalize cpI _ (d + 6) 0 (b + 6) 0 4 = g at t6 ⊢
  have l7 : len (b + 7) = 0 := by obtain ⟨i, hi, rfl⟩ := hb; exact (by decide : ∀ i, i < 10 → len (10 + 11 * i + 7) = 0) i hi
  have t8 : BC b d h 8 g := ⟨fun c j => by
    rw [t6.1]
    by_cases w : c = b + 7
    · subst w
      rw [if_neg (by omega), if_neg (by omega)]
    · by_cases w2 : b + 1 ≤ c ∧ c < b + (6 + 1) ∧ j < len c
      · rw [if_pos w2, if_pos (by omega)]
      · rw [if_neg w2, if_neg (by omega)], t6.2⟩
  obtain ⟨h', g1, g2, g3, g4⟩ := p_gbecome hb hd hn t8
  rw [g1, Option.bind_some]
  have r7 : h'.1 d 7 = h.1 d 7 := by rw [g2, if_neg (by omega)]
  have r8 : (wI h' b 7 (h.1 d 7)).1 d 8 = h.1 d 8 := by rw [rdI, if_neg (by omega), g2, if_neg (by omega)]
  rw [r7, r8]
  have rd : ∀ c j, (wI (wI h' b 7 (h.1 d 7)) b 8 (h.1 d 8)).1 c j = if c = b ∧ j = 8 then h.1 d 8 else if c = b ∧ j = 7 then h.1 d 7 else if b + 1 ≤ c ∧ c < b + 10 ∧ j < len c then h.1 (c - b + d) j else h.1 c j := fun c j => by rw [rdI, rdI, g2]
  refine ⟨_, rfl, ⟨fun c j w => ?_, fun c j w => ?_, g4⟩, fun X hv => ?_⟩
  · rw [rd, if_neg (by omega), if_neg (by omega), if_neg (by omega)]
  · show h'.2.1 c j = _
    rw [g3, if_neg (by omega)]
  · have cp : ∀ m j, 1 ≤ m → m < 10 → j < len (b + m) → (wI (wI h' b 7 (h.1 d 7)) b 8 (h.1 d 8)).1 (b + m) j = h.1 (d + m) j := fun m j h1 h2 h3 => by
      rw [rd, if_neg (by omega), if_neg (by omega), if_pos ⟨by omega, by omega, h3⟩, show b + m - b + d = d + m by omega]
    refine ⟨?_, ?_, fun j hj => ?_, fun k p hk1 hk5 hp => ?_, fun a p q ha hp hq => ?_, fun a p ha1 ha hp => ?_, fun a p q ha hp hq => ?_⟩
    · rw [rd, if_neg (by omega), if_pos ⟨rfl, rfl⟩, hv.1]
    · rw [rd, if_pos ⟨rfl, rfl⟩, hv.2.1]
    · rw [cp 6 j (by decide) (by decide) (by rw [vl6 hb]; exact hj), hv.2.2.1 j hj]
    · have : len (b + k) = 6 := by
        rcases (show k = 1 ∨ k = 2 ∨ k = 3 ∨ k = 4 ∨ k = 5 by omega) with rfl | rfl | rfl | rfl | rfl
        · exact vl1 hb
        · exact vl2 hb
        · exact vl3 hb
        · exact vl4 hb
        · exact vl5 hb
      rw [cp k p hk1 (by omega) (by rw [this]; exact hp), hv.2.2.2.1 k p hk1 hk5 hp]
    · rw [cp 8 _ (by decide) (by decide) (by rw [vl8 hb]; omega), hv.2.2.2.2.1 a p q ha hp hq]
    · rw [cp 9 _ (by decide) (by decide) (by rw [vl9 hb]; omega), hv.2.2.2.2.2.1 a p ha1 ha hp]
    · show h'.2.1 (b + 10) a &&& bitm (p * 6 + q) = 0 ↔ _
      rw [g3, if_pos ⟨rfl, ha⟩]
      exact hv.2.2.2.2.2.2 a p q ha hp hq
end VB
