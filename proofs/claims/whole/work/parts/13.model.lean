/-! PURE: the reference's village: what is read -/
set_option maxHeartbeats 400000 in
theorem mf6 : rf 120 6 = 121 := rfl
set_option maxHeartbeats 400000 in
theorem mf7 : rf 120 7 = 122 := rfl
set_option maxHeartbeats 400000 in
theorem mf8 : rf 120 8 = 123 := rfl
set_option maxHeartbeats 400000 in
theorem mf9 : rf 120 9 = 124 := rfl
set_option maxHeartbeats 400000 in
theorem mf10 : rf 120 10 = 125 := rfl
set_option maxHeartbeats 400000 in
theorem mf11 : rf 120 11 = 126 := rfl
set_option maxHeartbeats 400000 in
theorem mf14 : rf 120 14 = 127 := rfl
set_option maxHeartbeats 400000 in
theorem mf15 : rf 120 15 = 128 := rfl
set_option maxHeartbeats 400000 in
theorem mf16 : rf 120 16 = 129 := rfl
set_option maxHeartbeats 400000 in
theorem mf20 : rf 120 20 = 130 := rfl
set_option maxHeartbeats 400000 in
theorem mf25 : rf 120 25 = 131 := rfl
set_option maxHeartbeats 400000 in
theorem mf26 : rf 120 26 = 132 := rfl
set_option maxHeartbeats 400000 in
theorem mf27 : rf 120 27 = 133 := rfl
set_option maxHeartbeats 400000 in
theorem mf29 : rf 120 29 = 134 := rfl
set_option maxHeartbeats 400000 in
theorem mf33 : rf 120 33 = 135 := rfl
set_option maxHeartbeats 400000 in
theorem mf37 : rf 120 37 = 136 := rfl
set_option maxHeartbeats 400000 in
theorem mf38 : rf 120 38 = 137 := rfl
def MR (h : Hp) (X : St) : Prop :=
  (∀ j, j < 6 → h.1 120 j = nI (X.1 0 j)) ∧ (∀ p, p < 6 → h.1 121 p = nI (X.1 1 p) ∧ h.1 122 p = nI (X.1 2 p) ∧ h.1 123 p = nI (X.1 5 p) ∧ h.1 124 p = nI (X.1 3 p) ∧ h.1 125 p = nI (X.1 4 p)) ∧
  (∀ a p q, a ≤ 10 → a ≤ X.1 0 1 → p < 6 → q < 7 → h.1 126 (42 * ((X.1 0 1 - a) % 11) + 7 * p + q) = nI (X.2 a p q))
section ML
variable {h : Hp} {k : Nat} {X : St}
set_option maxHeartbeats 400000 in
theorem md_kind (hm : MR h X) {p : Nat} (hp : p < 6) : ldI h (rf 120 6) (nI p) = some (nI (X.1 1 p)) := by rw [mf6, ldI_n (a := 121) hp (by omega), (hm.2.1 p hp).1]
set_option maxHeartbeats 400000 in
theorem md_fig (hm : MR h X) {p : Nat} (hp : p < 6) : ldI h (rf 120 7) (nI p) = some (nI (X.1 2 p)) := by rw [mf7, ldI_n (a := 122) hp (by omega), (hm.2.1 p hp).2.1]
set_option maxHeartbeats 400000 in
theorem md_finds (hm : MR h X) {p : Nat} (hp : p < 6) : ldI h (rf 120 8) (nI p) = some (nI (X.1 5 p)) := by rw [mf8, ldI_n (a := 123) hp (by omega), (hm.2.1 p hp).2.2.1]
set_option maxHeartbeats 400000 in
theorem md_to (hm : MR h X) {p : Nat} (hp : p < 6) : ldI h (rf 120 9) (nI p) = some (nI (X.1 3 p)) := by rw [mf9, ldI_n (a := 124) hp (by omega), (hm.2.1 p hp).2.2.2.1]
set_option maxHeartbeats 400000 in
theorem md_has (hm : MR h X) {p : Nat} (hp : p < 6) : ldI h (rf 120 10) (nI p) = some (nI (X.1 4 p)) := by rw [mf10, ldI_n (a := 125) hp (by omega), (hm.2.1 p hp).2.2.2.2]
set_option maxHeartbeats 400000 in
theorem ago_1 (D a : Nat) : nI D - nI (a + 1) + 1 = nI D - nI a := by
  rw [nI_succ, ← Int32.sub_sub, Int32.sub_add_cancel]
set_option maxHeartbeats 400000 in
theorem ago_s (D a c : Nat) : nI D - nI a - nI c = nI D - nI (a + c) := by rw [Int32.sub_sub, nI_add]
set_option maxHeartbeats 400000 in
theorem ago_0 (D : Nat) : nI D = nI D - nI 0 := (pk_sub (Nat.zero_le D)).symm
set_option maxHeartbeats 400000 in
theorem m_gift (hm : MR h X) (hI : Iv k X) {a p q : Nat} (ha : a ≤ 10) (hp : p < 6) (hq : q < 7) : sh_X5_gift h 120 (nI (X.1 0 1) - nI a) (nI p) (nI q) = some (nI (X.2 a p q)) := by
  have hd := hI.2.2.1
  have hk := hI.1
  unfold sh_X5_gift b_X5_gift_15 b_X5_gift_38
  rw [hm.1 1 (by decide)]
  by_cases e : a ≤ X.1 0 1
  · rw [pk_sub e, if_neg (nI_pos (by omega))]
    have c2 : nI (X.1 0 1) - (10 : Int32) ≤ nI (X.1 0 1 - a) := by
      rw [L10, Int32.le_iff_toInt_le, pk_sub_toInt (by omega) (by omega), nI_toInt (by omega)]
      omega
    rw [if_pos c2, L11, pk_rem (by omega) (by omega) (by omega)]
    simp (disch := omega) only [L0, L1, L2, L3, L4, L5, L6, L7, L8, L9, L10, L11, L12, L13, L14, L15, L16, L20, L21, L42, L44, L48, L57, L59, L60, L63, L64, L99, L108, L112, L255, L462, L999, L9999, nI_add, pk_mul, nI_leI, nI_ltI, nI_eq, Option.bind_some]
    have hlt : (X.1 0 1 - a) % 11 < 11 := Nat.mod_lt _ (by decide)
    rw [mf11, ldI_n (a := 126) (show _ < 462 by omega) (by omega), hm.2.2 a p q ha e hp hq]
    rfl
  · rw [if_pos (pk_sneg (by omega) (by omega)), hI.2.2.2.2.2.2.2.2.2.2.2 a p q (Or.inr (Or.inr (by omega)))]
    rfl
set_option maxHeartbeats 400000 in
theorem m_got (hm : MR h X) (hI : Iv k X) {a q : Nat} (ha : a ≤ 10) (hq : q < 7) : sh_X5_got h 120 (nI (X.1 0 1) - nI a) (nI q) = some (nI (got X a q)) := by
  have hP := hI.2.1
  have e : got X a q = sm (fun p => X.2 a p q) (X.1 0 0) := sm_ext hP (fun i h1 _ => hI.2.2.2.2.2.2.2.2.2.2.2 a i q (Or.inl h1))
  rw [e]
  refine lpE (fun n (s : Int32 × Int32) => b_X5_got_5 n h 120 (nI (X.1 0 1) - nI a) (nI q) s.1 s.2) (fun p => (nI (sm (fun p => X.2 a p q) p), nI p)) _ (X.1 0 0) (fun n p hp => ?_) (fun n => ?_) 1000 0 (by omega) (by omega)
  · show f_X5_got_5 (b_X5_got_5 n) h 120 (nI (X.1 0 1) - nI a) (nI q) (nI (sm (fun p => X.2 a p q) p)) (nI p) = _
    unfold f_X5_got_5
    rw [hm.1 0 (by decide), m_gift hm hI ha (by omega) hq]
    simp (disch := omega) only [L0, L1, L2, L3, L4, L5, L6, L7, L8, L9, L10, L11, L12, L13, L14, L15, L16, L20, L21, L42, L44, L48, L57, L59, L60, L63, L64, L99, L108, L112, L255, L462, L999, L9999, nI_add, pk_mul, nI_leI, nI_ltI, nI_eq, Option.bind_some]
    rw [if_neg (by omega)]
    rfl
  · show f_X5_got_5 (b_X5_got_5 n) h 120 (nI (X.1 0 1) - nI a) (nI q) (nI (sm (fun p => X.2 a p q) (X.1 0 0))) (nI (X.1 0 0)) = _
    unfold f_X5_got_5
    rw [hm.1 0 (by decide), if_pos (nI_le (Nat.le_refl _) (by omega))]
set_option maxHeartbeats 400000 in
theorem m_given (hm : MR h X) (hI : Iv k X) {p : Nat} (hp : p < 6) : sh_X5_given h 120 (nI (X.1 0 1)) (nI p) = some (nI (gvn X p)) := by
  rw [ago_0]
  refine lpE (fun n (s : Int32 × Int32) => b_X5_given_5 n h 120 (nI (X.1 0 1) - nI 0) (nI p) s.1 s.2) (fun q => (nI (sm (fun q => X.2 0 p q) q), nI q)) _ 7 (fun n q hq => ?_) (fun n => rfl) 1000 0 (by omega) (by omega)
  show f_X5_given_5 (b_X5_given_5 n) h 120 (nI (X.1 0 1) - nI 0) (nI p) (nI (sm (fun q => X.2 0 p q) q)) (nI q) = _
  unfold f_X5_given_5
  rw [m_gift hm hI (by omega) hp hq]
  simp (disch := omega) only [L0, L1, L2, L3, L4, L5, L6, L7, L8, L9, L10, L11, L12, L13, L14, L15, L16, L20, L21, L42, L44, L48, L57, L59, L60, L63, L64, L99, L108, L112, L255, L462, L999, L9999, nI_add, pk_mul, nI_leI, nI_ltI, nI_eq, Option.bind_some]
  rw [if_neg (by omega)]
  rfl
set_option maxHeartbeats 400000 in
theorem m_cameBack (hm : MR h X) (hI : Iv k X) {a p q : Nat} (ha : a ≤ 5) (hp : p < 6) (hq : q < 6) : sh_X5_cameBack h 120 (nI (X.1 0 1) - nI a) (nI p) (nI q) = some (nI (if cb X a p q then 1 else 0)) := by
  have hB := hI.2.2.2.2.2.2.1
  have hd := hI.2.2.1
  have hk := hI.1
  have hG := hI.2.2.2.2.2.2.2.2.2.2.1
  unfold sh_X5_cameBack
  rw [hm.1 4 (by decide), ago_s]
  by_cases e0 : X.1 0 4 = 0
  · have hc : cb X a p q = false := cb_false.mpr (Or.inl e0)
    rw [hc, e0]
    show f_X5_cameBack_11 (b_X5_cameBack_11 999) h 120 (nI (X.1 0 1) - nI a) (nI p) (nI q) 0 (nI (X.1 0 1) - nI (a + 0)) = _
    unfold f_X5_cameBack_11 b_X5_cameBack_53
    rw [hm.1 4 (by decide), e0]
    split
    · rfl
    · rw [if_pos (by decide)]
      rfl
  · refine exE (lp (fun n (s : Int32 × Int32) => b_X5_cameBack_11 n h 120 (nI (X.1 0 1) - nI a) (nI p) (nI q) s.1 s.2) (fun i s => s.2 = nI (X.1 0 1) + nI i - nI (a + X.1 0 4) ∧ ((s.1 = nI 0 ∧ ∀ j, X.1 0 4 < i + j → j ≤ X.1 0 4 → X.2 (a + j) q p = 0) ∨ (s.1 = nI 1 ∧ cb X a p q = true))) (fun r => r = nI (if cb X a p q then 1 else 0)) (X.1 0 4 + 1) (fun n i s hi hs => Or.inl ?_) (fun n s hs => ?_) 1000 0 (nI 0, nI (X.1 0 1) - nI (a + X.1 0 4)) (by omega) ⟨by rw [nI_add]; rfl, Or.inl ⟨rfl, fun j h1 h2 => by omega⟩⟩ (by omega)) (fun r h1 h2 => by rw [← h1]; exact h2)
    · obtain ⟨x, y⟩ := s
      obtain ⟨e1, e2⟩ := hs
      dsimp only at e1 e2
      have ey : y = nI (X.1 0 1) - nI (a + (X.1 0 4 - i)) := by
        rw [e1, show a + X.1 0 4 = (a + (X.1 0 4 - i)) + i by omega, ← nI_add (a + (X.1 0 4 - i)) i, Int32.sub_eq_add_neg, Int32.neg_add, Int32.sub_eq_add_neg, Int32.sub_eq_add_neg, Int32.add_assoc, Int32.add_comm (nI i), Int32.add_assoc, Int32.add_left_neg, Int32.add_zero]
      have ey1 : y + 1 = nI (X.1 0 1) + nI (i + 1) - nI (a + X.1 0 4) := by
        rw [e1, nI_succ, Int32.sub_eq_add_neg, Int32.sub_eq_add_neg, Int32.add_assoc, Int32.add_comm (-_) 1, ← Int32.add_assoc, Int32.add_assoc (nI (X.1 0 1))]
      have hcond : ¬ (nI (X.1 0 1) - nI a < y) := by
        rw [ey, Int32.lt_iff_toInt_lt, pk_sub_toInt (by omega) (by omega), pk_sub_toInt (by omega) (by omega)]
        omega
      have hstep : ∀ z : Int32, ((z = nI 0 ∧ ∀ j, X.1 0 4 < i + 1 + j → j ≤ X.1 0 4 → X.2 (a + j) q p = 0) ∨ (z = nI 1 ∧ cb X a p q = true)) → f_X5_cameBack_11 (b_X5_cameBack_11 n) h 120 (nI (X.1 0 1) - nI a) (nI p) (nI q) x y = b_X5_cameBack_11 n h 120 (nI (X.1 0 1) - nI a) (nI p) (nI q) z (y + 1) → ∃ s' : Int32 × Int32, (s'.2 = nI (X.1 0 1) + nI (i + 1) - nI (a + X.1 0 4) ∧ ((s'.1 = nI 0 ∧ ∀ j, X.1 0 4 < i + 1 + j → j ≤ X.1 0 4 → X.2 (a + j) q p = 0) ∨ (s'.1 = nI 1 ∧ cb X a p q = true))) ∧ b_X5_cameBack_11 (n + 1) h 120 (nI (X.1 0 1) - nI a) (nI p) (nI q) x y = b_X5_cameBack_11 n h 120 (nI (X.1 0 1) - nI a) (nI p) (nI q) s'.1 s'.2 := fun z hz e => ⟨(z, y + 1), ⟨ey1, hz⟩, e⟩
      have hb0 : ¬ (nI (X.1 0 4) ≤ 0) := nI_nle (by omega) (by omega)
      have hg : sh_X5_gift h 120 y (nI q) (nI p) = some (nI (X.2 (a + (X.1 0 4 - i)) q p)) := by rw [ey]; exact m_gift hm hI (by omega) hq (by omega)
      rcases e2 with ⟨e2, e3⟩ | ⟨e2, e3⟩
      · by_cases w : X.2 (a + (X.1 0 4 - i)) q p = 0
        · refine hstep (nI 0) (Or.inl ⟨rfl, fun j h1 h2 => ?_⟩) ?_
          · by_cases w2 : j = X.1 0 4 - i
            · rw [w2]; exact w
            · exact e3 j (by omega) h2
          · unfold f_X5_cameBack_11 b_X5_cameBack_45
            rw [if_neg hcond, hm.1 4 (by decide), if_neg hb0, e2, if_pos (show nI 0 = (0 : Int32) from rfl), hg, Option.bind_some, w, if_pos (by decide)]
            rfl
        · have hcb : cb X a p q = true := by
            cases hc : cb X a p q with
            | true => rfl
            | false =>
              rcases cb_false.mp hc with z | z
              · omega
              · exact absurd (z (X.1 0 4 - i) (by omega)) w
          refine hstep (nI 1) (Or.inr ⟨rfl, hcb⟩) ?_
          unfold f_X5_cameBack_11 b_X5_cameBack_40 b_X5_cameBack_45
          have h9 := hG (a + (X.1 0 4 - i)) q p
          rw [if_neg hcond, hm.1 4 (by decide), if_neg hb0, e2, if_pos (show nI 0 = (0 : Int32) from rfl), hg, Option.bind_some, if_neg (nI_nle (by omega) (by omega))]
          rfl
      · refine hstep (nI 1) (Or.inr ⟨rfl, e3⟩) ?_
        unfold f_X5_cameBack_11 b_X5_cameBack_40 b_X5_cameBack_45
        rw [if_neg hcond, hm.1 4 (by decide), if_neg hb0, e2, if_neg (by decide)]
        rfl
    · obtain ⟨x, y⟩ := s
      obtain ⟨e1, e2⟩ := hs
      dsimp only at e1 e2
      have ey : y = nI (X.1 0 1) - nI a + 1 := by
        rw [e1, show a + X.1 0 4 = X.1 0 4 + a by omega, ← nI_add (X.1 0 4) a, nI_succ, Int32.sub_eq_add_neg, Int32.neg_add, Int32.sub_eq_add_neg, Int32.sub_eq_add_neg]
        rw [show nI (X.1 0 1) + (nI (X.1 0 4) + 1) + (-nI (X.1 0 4) + -nI a) = nI (X.1 0 1) + (-nI a + 1) + (nI (X.1 0 4) + -nI (X.1 0 4)) by ac_rfl, Int32.add_right_neg, Int32.add_zero, Int32.add_assoc]
      have hcond : nI (X.1 0 1) - nI a < y := by
        rw [ey, show nI (X.1 0 1) - nI a + 1 = nI (X.1 0 1 + 1) - nI a by rw [nI_succ, Int32.sub_eq_add_neg, Int32.sub_eq_add_neg]; ac_rfl]
        rw [Int32.lt_iff_toInt_lt, pk_sub_toInt (by omega) (by omega), pk_sub_toInt (by omega) (by omega)]
        omega
      refine ⟨_, rfl, ?_⟩
      show f_X5_cameBack_11 (b_X5_cameBack_11 n) h 120 (nI (X.1 0 1) - nI a) (nI p) (nI q) x y = _
      unfold f_X5_cameBack_11 b_X5_cameBack_53
      rw [if_pos hcond]
      rcases e2 with ⟨e2, e3⟩ | ⟨e2, e3⟩
      · have hc : cb X a p q = false := cb_false.mpr (Or.inr (fun i hi => e3 i (by omega) (by omega)))
        rw [hc, e2]
        rfl
      · rw [e3, e2]
        rfl
end ML
