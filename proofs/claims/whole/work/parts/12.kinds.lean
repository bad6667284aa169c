/-! PURE: days by kinds, of the class; the bounds of days -/
section VK
variable {h : Hp} {b k : Nat} {X : St}
set_option maxHeartbeats 400000 in
theorem p_exists (hv : VR h b X) (hP : X.1 0 0 ≤ 6) (x : Int32) : (∃ p, p < X.1 0 0 ∧ x = nI p ∧ sh_X3_exists h b x = some (nI 1)) ∨ ((∀ p, p < X.1 0 0 → x ≠ nI p) ∧ sh_X3_exists h b x = some (nI 0)) := by
  unfold sh_X3_exists b_X3_exists_16 b_X3_exists_17
  rw [hv.1]
  by_cases h0 : x < 0
  · refine Or.inr ⟨fun p hp e => ?_, ?_⟩
    · rw [e] at h0
      exact nI_pos (by omega) h0
    · rw [if_pos h0]
      rfl
  · obtain ⟨j, hj, rfl⟩ := nI_of h0
    rw [if_neg h0]
    simp (disch := omega) only [L0, L1, L2, L3, L4, L5, L6, L7, L8, L9, L10, L11, L12, L13, L14, L15, L16, L20, L21, L42, L44, L48, L57, L59, L60, L63, L64, L99, L108, L112, L255, L462, L999, L9999, nI_add, pk_mul, nI_leI, nI_ltI, nI_eq, Option.bind_some]
    by_cases h1 : X.1 0 0 ≤ j
    · refine Or.inr ⟨fun p hp e => ?_, ?_⟩
      · have := (nI_eq hj (by omega)).mp e
        omega
      · rw [if_pos h1]
        rfl
    · refine Or.inl ⟨j, by omega, rfl, ?_⟩
      rw [if_neg h1]
      rfl
set_option maxHeartbeats 400000 in
theorem p_next (hv : VR h b X) (hP : X.1 0 0 ≤ 6) {p : Nat} (hp : p < 6) : sh_X3_nextOne h b (nI p) = some (nI (nxo X p)) := by
  unfold sh_X3_nextOne b_X3_nextOne_17 nxo
  rw [hv.1]
  simp (disch := omega) only [L0, L1, L2, L3, L4, L5, L6, L7, L8, L9, L10, L11, L12, L13, L14, L15, L16, L20, L21, L42, L44, L48, L57, L59, L60, L63, L64, L99, L108, L112, L255, L462, L999, L9999, nI_add, pk_mul, nI_leI, nI_ltI, nI_eq, Option.bind_some]
  by_cases e : X.1 0 0 ≤ p + 1
  · rw [if_pos e, if_neg (by omega)]
  · rw [if_neg e, if_pos (by omega)]
set_option maxHeartbeats 400000 in
theorem p_taker (hb : isV b) (hv : VR h b X) (hI : Iv k X) {p : Nat} (hp : p < 6) : sh_X3_takerByKind h b (nI p) = some (nI (tgt X p)) := by
  have hk := (hI.2.2.2.2.2.2.2.2.1 p hp).1
  have hP := hI.2.1
  have hd := hI.2.2.1
  have h1 := hI.1
  unfold sh_X3_takerByKind b_X3_takerByKind_48 b_X3_takerByKind_42 tgt
  rw [hv.2.1]
  simp (disch := omega) only [L0, L1, L2, L3, L4, L5, L6, L7, L8, L9, L10, L11, L12, L13, L14, L15, L16, L20, L21, L42, L44, L48, L57, L59, L60, L63, L64, L99, L108, L112, L255, L462, L999, L9999, nI_add, pk_mul, nI_leI, nI_ltI, nI_eq, Option.bind_some, ld_kind hb hv, ld_to hb hv, p_next hv hP]
  rw [pk_rem (by omega) (by omega) (by omega)]
  simp (disch := omega) only [L0, L1, L2, L3, L4, L5, L6, L7, L8, L9, L10, L11, L12, L13, L14, L15, L16, L20, L21, L42, L44, L48, L57, L59, L60, L63, L64, L99, L108, L112, L255, L462, L999, L9999, nI_add, pk_mul, nI_leI, nI_ltI, nI_eq, Option.bind_some]
  by_cases e4 : X.1 1 p = 4
  · rw [if_pos e4, if_pos e4]
  · rw [if_neg e4, if_neg e4]
    by_cases e6 : X.1 1 p = 6
    · rw [if_pos e6]
      by_cases e1 : X.1 0 1 % 2 = 1
      · rw [if_pos e1, if_pos ⟨e6, e1⟩]
      · rw [if_neg e1, if_neg (fun z => e1 z.2)]
        rfl
    · rw [if_neg e6, if_neg (fun z => e6 z.1)]
      rfl
set_option maxHeartbeats 400000 in
theorem p_grew (hb : isV b) (hv : VR h b X) (hI : Iv k X) {p : Nat} (hp : p < 6) : sh_X3_whatGrew h b (nI p) = some (nI (grw X p)) := by
  have hk := hI.2.2.2.2.2.2.2.2.1 p hp
  have hg := got_le hI 1 p
  unfold sh_X3_whatGrew grw
  simp (disch := omega) only [L0, L1, L2, L3, L4, L5, L6, L7, L8, L9, L10, L11, L12, L13, L14, L15, L16, L20, L21, L42, L44, L48, L57, L59, L60, L63, L64, L99, L108, L112, L255, L462, L999, L9999, nI_add, pk_mul, nI_leI, nI_ltI, nI_eq, Option.bind_some, ld_has hb hv, ld_finds hb hv, p_gotY hb hv]
  generalize X.1 4 p = H at hk
  generalize X.1 5 p = F at hk
  generalize got X 1 p = G at hg
  congr 1
  split <;> congr 1 <;> omega
set_option maxHeartbeats 400000 in
theorem p_divides {h : Hp} {d n : Nat} (hd : 0 < d) (hd2 : d < 1000) (hn : n ≤ 1000) : sh_X3_divides h (nI d) (nI n) = some (nI (if n % d = 0 then 1 else 0)) := by
  unfold sh_X3_divides b_X3_divides_15 b_X3_divides_14 rmI
  have z1 : ¬ nI d ≤ 0 := nI_nle hd (by omega)
  have z2 : ¬ nI d = 0 := nI_ne0 hd (by omega)
  rw [if_neg z1, if_neg z2, Option.bind_some, pk_rem (by omega) hd (by omega)]
  by_cases e : n % d = 0
  · rw [if_pos (by rw [e]; rfl), if_pos e]
    rfl
  · have hm : n % d < d := Nat.mod_lt n hd
    have z3 : ¬ nI (n % d) = 0 := nI_ne0 (by omega) (by omega)
    rw [if_neg z3, if_neg e]
    rfl
set_option maxHeartbeats 400000 in
theorem p_amount (hb : isV b) (hv : VR h b X) (hI : Iv k X) {p : Nat} (hp : p < 6) : sh_X3_amountByKind h b (nI p) = some (nI (amt X p)) := by
  have hk := hI.2.2.2.2.2.2.2.2.1 p hp
  have hd := hI.2.2.1
  have h1 := hI.1
  unfold sh_X3_amountByKind b_X3_amountByKind_52 b_X3_amountByKind_99 b_X3_amountByKind_130 b_X3_amountByKind_131
  rw [hv.2.1]
  simp (disch := omega) only [L0, L1, L2, L3, L4, L5, L6, L7, L8, L9, L10, L11, L12, L13, L14, L15, L16, L20, L21, L42, L44, L48, L57, L59, L60, L63, L64, L99, L108, L112, L255, L462, L999, L9999, nI_add, pk_mul, nI_leI, nI_ltI, nI_eq, Option.bind_some, ld_kind hb hv, ld_fig hb hv, ld_has hb hv, p_grew hb hv hI]
  unfold amt
  rcases (show X.1 1 p = 0 ∨ X.1 1 p = 1 ∨ X.1 1 p = 2 ∨ X.1 1 p = 3 ∨ X.1 1 p = 4 ∨ X.1 1 p = 5 ∨ X.1 1 p = 6 ∨ X.1 1 p = 7 by omega) with e | e | e | e | e | e | e | e
  · simp (config := { decide := true }) only [e, if_true, if_false]
  · simp (config := { decide := true }) only [e, if_true, if_false]
  · simp (config := { decide := true }) only [e, if_true, if_false]
    rw [pk_div (by omega) (by omega) (by omega)]
  · simp (config := { decide := true }) only [e, if_true, if_false]
  · simp (config := { decide := true }) only [e, if_true, if_false]
  · simp (config := { decide := true }) only [e, if_true, if_false]
    by_cases w : X.1 0 1 < 10 * X.1 2 p
    · rw [if_neg (by omega), if_pos w]
    · rw [if_pos (by omega), if_neg w]
  · simp (config := { decide := true }) only [e, if_true, if_false]
  · simp (config := { decide := true }) only [e, if_true, if_false]
    rw [p_divides (by omega) (by omega) (by omega)]
    simp (disch := omega) only [L0, L1, L2, L3, L4, L5, L6, L7, L8, L9, L10, L11, L12, L13, L14, L15, L16, L20, L21, L42, L44, L48, L57, L59, L60, L63, L64, L99, L108, L112, L255, L462, L999, L9999, nI_add, pk_mul, nI_leI, nI_ltI, nI_eq, Option.bind_some]
    by_cases w : X.1 0 1 % (X.1 2 p + 1) = 0
    · rw [if_pos w, if_pos w]
      rw [pk_div (by omega) (by omega) (by omega)]
      rfl
    · rw [if_neg w, if_neg w]
      rfl
set_option maxHeartbeats 400000 in
theorem p_gift (hb : isV b) (hv : VR h b X) (hI : Iv k X) {p : Nat} (hp : p < 6) (ht : tgt X p < 10) : sh_X3_giftByKind h b (nI p) = some (nI (gft X p)) := by
  unfold sh_X3_giftByKind b_X3_giftByKind_18 gft
  simp (disch := omega) only [L0, L1, L2, L3, L4, L5, L6, L7, L8, L9, L10, L11, L12, L13, L14, L15, L16, L20, L21, L42, L44, L48, L57, L59, L60, L63, L64, L99, L108, L112, L255, L462, L999, L9999, nI_add, pk_mul, nI_leI, nI_ltI, nI_eq, Option.bind_some, p_taker hb hv hI, p_amount hb hv hI]
  by_cases e : tgt X p = p
  · rw [if_pos e, if_pos e]
  · rw [if_neg e, if_neg e]
set_option maxHeartbeats 400000 in
theorem tgt_ok (hI : Iv k X) {p : Nat} (hp : p < X.1 0 0) : tgt X p < X.1 0 0 ∨ tgt X p = 9 := by
  have h3 := hI.2.2.2.2.2.2.2.2.2.1 p hp
  unfold tgt nxo
  repeat' split
  all_goals omega
set_option maxHeartbeats 400000 in
theorem amt_le (X : St) (p : Nat) : amt X p ≤ X.1 4 p := by
  unfold amt grw
  repeat' split
  all_goals omega
/-! what giving leaves as it was -/
set_option maxHeartbeats 400000 in
theorem giv_S (X : St) (p q n : Nat) {c i : Nat} (hc : ¬ (c = 4 ∧ i = p)) : (giv X p q n).1 c i = X.1 c i := by
  unfold giv adG
  split
  · rfl
  · exact up1_ne hc
set_option maxHeartbeats 400000 in
theorem giv_G (X : St) (p q n : Nat) {a p' q' : Nat} (hc : ¬ (a = 0 ∧ p' = p)) : (giv X p q n).2 a p' q' = X.2 a p' q' := by
  unfold giv adG
  split
  · rfl
  · show up3 X.2 0 p (col q) _ a p' q' = _
    unfold up3
    rw [if_neg (fun z => hc ⟨z.1, z.2.1⟩)]
set_option maxHeartbeats 400000 in
theorem mor_S (X : St) : ∀ (i : Nat) {c j : Nat}, ¬ (c = 4 ∧ j < i) → (mor X i).1 c j = X.1 c j
  | 0, _, _, _ => rfl
  | i + 1, c, j, hc => by
    show (giv (mor X i) i _ _).1 c j = _
    rw [giv_S _ _ _ _ (by omega), mor_S X i (by omega)]
set_option maxHeartbeats 400000 in
theorem mor_G (X : St) : ∀ (i : Nat) {a p q : Nat}, ¬ (a = 0 ∧ p < i) → (mor X i).2 a p q = X.2 a p q
  | 0, _, _, _, _ => rfl
  | i + 1, a, p, q, hc => by
    show (giv (mor X i) i _ _).2 a p q = _
    rw [giv_G _ _ _ _ (by omega), mor_G X i (by omega)]
-- one gift keeps the bounds, one call or day later
set_option maxHeartbeats 400000 in
theorem Iv_giv {p q n : Nat} (hI : Iv k X) (hp : p < X.1 0 0) (hq : q < X.1 0 0 ∨ q = 9) (hn : n ≤ X.1 4 p) (hG : ∀ q, X.2 0 p q + 9999 ≤ 9999 * k) : Iv k (giv X p q n) := by
  unfold giv
  split
  · exact hI
  · rename_i hne
    obtain ⟨i1, i2, i3, i4, i5, i6, i7, i8, i9, i10, i11, i12⟩ := hI
    have hp6 : p < 6 := by omega
    refine ⟨i1, i2, i3, i4, i5, i6, i7, i8, fun r hr => ?_, i10, fun a r s => ?_, fun a r s hz => ?_⟩
    · refine ⟨(i9 r hr).1, (i9 r hr).2.1, ?_, (i9 r hr).2.2.2⟩
      show up1 X.1 4 p (X.1 4 p - n) 4 r ≤ 9999
      unfold up1
      have h1 := (i9 r hr).2.2.1
      have h2 := (i9 p hp6).2.2.1
      split <;> omega
    · show up3 X.2 0 p (col q) (X.2 0 p (col q) + n) a r s ≤ _
      unfold up3
      have h2 := (i9 p hp6).2.2.1
      have h3 := hG (col q)
      split
      · omega
      · exact i11 a r s
    · show up3 X.2 0 p (col q) (X.2 0 p (col q) + n) a r s = 0
      have hz : X.1 0 0 ≤ r ∨ (X.1 0 0 ≤ s ∧ s < 6) ∨ X.1 0 1 < a := hz
      unfold up3
      rw [if_neg]
      · exact i12 a r s hz
      · rintro ⟨z1, z2, z3⟩
        have : col q < X.1 0 0 ∨ col q = 6 := by
          unfold col
          split <;> omega
        omega
set_option maxHeartbeats 400000 in
theorem Iv_mor (hI : Iv k X) (hk : k + 1 ≤ 1000) : ∀ i, i ≤ X.1 0 0 → Iv (k + 1) (mor X i)
  | 0, _ => hI.mono (by omega) hk
  | i + 1, hi => by
    have ih := Iv_mor hI hk i (by omega)
    have e0 : (mor X i).1 0 0 = X.1 0 0 := mor_S X i (by omega)
    refine Iv_giv ih (by rw [e0]; omega) (tgt_ok ih (by rw [e0]; omega)) (amt_le _ _) (fun q => ?_)
    rw [mor_G X i (by omega)]
    have := hI.2.2.2.2.2.2.2.2.2.2.1 0 i q
    omega
set_option maxHeartbeats 400000 in
theorem Iv_eve (hI : Iv k X) (hd : X.1 0 1 + 1 ≤ k) : Iv k (eve X) := by
  obtain ⟨i1, i2, i3, i4, i5, i6, i7, i8, i9, i10, i11, i12⟩ := hI
  have e : ∀ c i, ¬ (c = 4 ∧ i < X.1 0 0) → ¬ (c = 0 ∧ i = 1) → (eve X).1 c i = X.1 c i := fun c i h1 h2 => eve_S X h1 h2
  have e1 : (eve X).1 0 1 = X.1 0 1 + 1 := by
    show (if 0 = 4 ∧ 1 < X.1 0 0 then X.1 4 1 + car X 1 else if 0 = 0 ∧ 1 = 1 then X.1 0 1 + 1 else X.1 0 1) = _
    rw [if_neg (by omega), if_pos ⟨rfl, rfl⟩]
  refine ⟨i1, by rw [e 0 0 (by omega) (by omega)]; exact i2, by rw [e1]; exact hd, by rw [e 0 2 (by omega) (by omega)]; exact i4, by rw [e 0 3 (by omega) (by omega)]; exact i5, by rw [e 0 3 (by omega) (by omega)]; exact i6, by rw [e 0 4 (by omega) (by omega)]; exact i7, by rw [e 0 5 (by omega) (by omega)]; exact i8, fun q hq => ?_, fun q hq => ?_, fun a p q => ?_, fun a p q hz => ?_⟩
  · rw [e 1 q (by omega) (by omega), e 2 q (by omega) (by omega), e 5 q (by omega) (by omega)]
    refine ⟨(i9 q hq).1, (i9 q hq).2.1, ?_, (i9 q hq).2.2.2⟩
    show (if 4 = 4 ∧ q < X.1 0 0 then X.1 4 q + car X q else if 4 = 0 ∧ q = 1 then X.1 0 1 + 1 else X.1 4 q) ≤ 9999
    have h1 := (car_le X q).2
    have h2 := (i9 q hq).2.2.1
    rw [if_neg (show ¬ (4 = 0 ∧ q = 1) by omega)]
    split <;> omega
  · rw [e 3 q (by omega) (by omega), e 0 0 (by omega) (by omega)]
    rw [e 0 0 (by omega) (by omega)] at hq
    exact i10 q hq
  · show (if a = 0 then 0 else X.2 (a - 1) p q) ≤ _
    split
    · omega
    · exact i11 _ p q
  · show (if a = 0 then 0 else X.2 (a - 1) p q) = 0
    rw [e 0 0 (by omega) (by omega), e1] at hz
    split
    · rfl
    · exact i12 (a - 1) p q (by omega)
set_option maxHeartbeats 400000 in
theorem Iv_day (hI : Iv k X) (hk : k + 1 ≤ 1000) : Iv (k + 1) (dyS X) := by
  have h1 := Iv_mor hI hk (X.1 0 0) (Nat.le_refl _)
  refine Iv_eve h1 ?_
  rw [mor_S X _ (by omega)]
  have := hI.2.2.1
  omega
set_option maxHeartbeats 400000 in
theorem Iv_itD (hI : Iv k X) : ∀ n, k + n ≤ 1000 → Iv (k + n) (itD X n)
  | 0, _ => hI
  | n + 1, h => Iv_day (Iv_itD hI n (by omega)) (by omega)
set_option maxHeartbeats 400000 in
theorem p_passDay (hb : isV b) (hv : VR h b X) (hI : Iv k X) (hk : k + 1 ≤ 1000) : ∃ h', sh_X3_passDay h b = some (nI (dLo X), h') ∧ VR h' b (dyS X) ∧ VF b h h' := by
  have hP := hI.2.1
  unfold sh_X3_passDay
  refine exE (lp (fun n (s : Hp × Int32) => b_X3_passDay_2 n s.1 b s.2) (fun i s => s.2 = nI i ∧ VR s.1 b (mor X i) ∧ VF b h s.1) (fun r => r.1 = nI (dLo X) ∧ VR r.2 b (dyS X) ∧ VF b h r.2) (X.1 0 0) (fun n i s hi hs => Or.inl ?_) (fun n s hs => ?_) 1000 0 (h, nI 0) (by omega) ⟨rfl, hv, VF.rf b h⟩ (by omega)) (fun r h1 h2 => ⟨r.2, by rw [← h1.1]; exact h2, h1.2⟩)
  · obtain ⟨g, x⟩ := s
    obtain ⟨e1, e2, e3⟩ := hs
    dsimp only at e1 e2 e3
    subst e1
    have hIi := Iv_mor hI hk i (by omega)
    have e0 : (mor X i).1 0 0 = X.1 0 0 := mor_S X i (by omega)
    have ht := tgt_ok hIi (p := i) (by rw [e0]; exact hi)
    rw [e0] at ht
    have h9 := (hIi.2.2.2.2.2.2.2.2.1 i (by omega)).2.2.1
    obtain ⟨h', g1, g2, g3⟩ := p_handIf hb e2 (p := i) (q := tgt (mor X i) i) (n := amt (mor X i) i) (by omega) (by omega) (amt_le _ _) h9
    refine ⟨(h', nI (i + 1)), ⟨rfl, g2, e3.tr g3⟩, ?_⟩
    show f_X3_passDay_2 (b_X3_passDay_2 n) g b (nI i) = _
    unfold f_X3_passDay_2
    rw [e2.1, e0]
    simp (disch := omega) only [L0, L1, L2, L3, L4, L5, L6, L7, L8, L9, L10, L11, L12, L13, L14, L15, L16, L20, L21, L42, L44, L48, L57, L59, L60, L63, L64, L99, L108, L112, L255, L462, L999, L9999, nI_add, pk_mul, nI_leI, nI_ltI, nI_eq, Option.bind_some, p_taker hb e2 hIi, p_amount hb e2 hIi]
    rw [if_neg (by omega), g1]
    rfl
  · obtain ⟨g, x⟩ := s
    obtain ⟨e1, e2, e3⟩ := hs
    dsimp only at e1 e2 e3
    subst e1
    have hIi := Iv_mor hI hk (X.1 0 0) (Nat.le_refl _)
    have e0 : (mor X (X.1 0 0)).1 0 0 = X.1 0 0 := mor_S X _ (by omega)
    obtain ⟨h', g1, g2, g3⟩ := p_endDay hb e2 hIi
    refine ⟨(nI (dLo X), h'), ⟨rfl, g2, e3.tr g3⟩, ?_⟩
    show f_X3_passDay_2 (b_X3_passDay_2 n) g b (nI (X.1 0 0)) = _
    unfold f_X3_passDay_2
    rw [e2.1, e0, if_pos (nI_le (Nat.le_refl _) (by omega)), g1]
    rfl
set_option maxHeartbeats 400000 in
theorem p_passDays (hb : isV b) (hv : VR h b X) (hI : Iv k X) {m : Nat} (hm : m ≤ 60) (hk : k + m ≤ 1000) : ∃ h', sh_X3_passDays h b (nI m) = some h' ∧ VR h' b (itD X m) ∧ VF b h h' := by
  unfold sh_X3_passDays
  refine exE (lp (fun n (s : Hp × Int32) => b_X3_passDays_2 n s.1 b (nI m) s.2) (fun i s => s.2 = nI i ∧ VR s.1 b (itD X i) ∧ VF b h s.1) (fun r => VR r b (itD X m) ∧ VF b h r) m (fun n i s hi hs => Or.inl ?_) (fun n s hs => ?_) 1000 0 (h, nI 0) (by omega) ⟨rfl, hv, VF.rf b h⟩ (by omega)) (fun r h1 h2 => ⟨r, h2, h1⟩)
  · obtain ⟨g, x⟩ := s
    obtain ⟨e1, e2, e3⟩ := hs
    dsimp only at e1 e2 e3
    subst e1
    obtain ⟨h', g1, g2, g3⟩ := p_passDay hb e2 (Iv_itD hI i (by omega)) (by omega)
    refine ⟨(h', nI (i + 1)), ⟨rfl, g2, e3.tr g3⟩, ?_⟩
    show f_X3_passDays_2 (b_X3_passDays_2 n) g b (nI m) (nI i) = _
    unfold f_X3_passDays_2
    simp (disch := omega) only [L0, L1, L2, L3, L4, L5, L6, L7, L8, L9, L10, L11, L12, L13, L14, L15, L16, L20, L21, L42, L44, L48, L57, L59, L60, L63, L64, L99, L108, L112, L255, L462, L999, L9999, nI_add, pk_mul, nI_leI, nI_ltI, nI_eq, Option.bind_some]
    rw [if_neg (by omega), g1]
    rfl
  · obtain ⟨g, x⟩ := s
    obtain ⟨e1, e2, e3⟩ := hs
    dsimp only at e1 e2 e3
    subst e1
    refine ⟨g, ⟨e2, e3⟩, ?_⟩
    show f_X3_passDays_2 (b_X3_passDays_2 n) g b (nI m) (nI m) = _
    unfold f_X3_passDays_2
    rw [if_pos (nI_le (Nat.le_refl _) (by omega))]
end VK
