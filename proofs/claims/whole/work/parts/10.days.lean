/-! PURE: the class's villages: counts, evenings, days -/
set_option maxHeartbeats 400000 in
theorem exE {α : Type} {P Q : α → Prop} {G : Prop} (h : ∃ r, P r ∧ Q r) (k : ∀ r, P r → Q r → G) : G := h.elim (fun r x => k r x.1 x.2)
section VD
variable {h : Hp} {b k : Nat} {X : St}
set_option maxHeartbeats 400000 in
theorem la_amt (hb : isV b) (hv : VA h b X) {a p q : Nat} (ha : a < 6) (hp : p < 6) (hq : q < 7) : ldI h (rf (rf b 6) 0) (nI (a * 42 + p * 7 + q)) = some (nI (X.2 a p q)) := by rw [rg0 hb, ldI_n (by rw [vl8 hb]; omega) (by omega), hv.2.2.2.2.1 a p q ha hp hq]
set_option maxHeartbeats 400000 in
theorem p_countOf (hb : isV b) (hv : VA h b X) {a p : Nat} {y : Int64} (ha : a < 6) (hp : p < 6) (hy : ∀ q, q < 6 → (y &&& bitm (q * 6 + p) = 0 ↔ cb X a p q = false)) : sh_X0_countOf h (rf b 6) (nI a) (nI p) y = some (nI (cnt X a p)) := by
  unfold sh_X0_countOf
  simp (disch := omega) only [L0, L1, L2, L3, L4, L5, L6, L7, L8, L9, L10, L11, L12, L13, L14, L15, L16, L20, L21, L42, L44, L48, L57, L59, L60, L63, L64, L99, L108, L112, L255, L462, L999, L9999, nI_add, pk_mul, nI_leI, nI_ltI, nI_eq, Option.bind_some, la_amt hb hv]
  refine lpE (fun n (s : Int32 × Int32) => b_X0_countOf_26 n h (rf b 6) (nI p) y (nI (a * 42 + p * 7)) s.1 s.2) (fun q => (nI (X.2 a p 6 + sm (fun q => if cb X a p q then 0 else X.2 a p q) q), nI q)) _ 6 (fun n q hq => ?_) (fun n => rfl) 1000 0 (by omega) (by omega)
  show f_X0_countOf_26 (b_X0_countOf_26 n) h (rf b 6) (nI p) y (nI (a * 42 + p * 7)) (nI (X.2 a p 6 + sm (fun q => if cb X a p q then 0 else X.2 a p q) q)) (nI q) = b_X0_countOf_26 n h (rf b 6) (nI p) y (nI (a * 42 + p * 7)) (nI (X.2 a p 6 + (sm (fun q => if cb X a p q then 0 else X.2 a p q) q + (if cb X a p q then 0 else X.2 a p q)))) (nI (q + 1))
  unfold f_X0_countOf_26 b_X0_countOf_64
  simp (disch := omega) only [L0, L1, L2, L3, L4, L5, L6, L7, L8, L9, L10, L11, L12, L13, L14, L15, L16, L20, L21, L42, L44, L48, L57, L59, L60, L63, L64, L99, L108, L112, L255, L462, L999, L9999, nI_add, pk_mul, nI_leI, nI_ltI, nI_eq, Option.bind_some, la_amt hb hv]
  rw [if_neg (by omega)]
  simp only [lg_z]
  have e := hy q hq
  rw [show ((1 : Int64) <<< ((nI (q * 6 + p)).toInt64 &&& 63)) = bitm (q * 6 + p) from rfl]
  by_cases c : cb X a p q = true
  · rw [if_neg (fun z => by rw [e.mp z] at c; cases c), if_pos c]
    rfl
  · rw [if_pos (e.mpr (by simpa using c)), if_neg c]
    congr 2
    omega
-- what countDay leaves: row a of the counts is anew
def CD (b a : Nat) (X : St) (h h' : Hp) : Prop := (∀ c j, h'.1 c j = if c = b + 9 ∧ a * 6 ≤ j ∧ j < a * 6 + 6 then nI (cnt X a (j - a * 6)) else h.1 c j) ∧ h'.2 = h.2
set_option maxHeartbeats 400000 in
theorem CD.va {a : Nat} {h' : Hp} (c : CD b a X h h') (hv : VA h b X) : VA h' b X := by
  obtain ⟨v1, v2, v3, v4, v5, v6⟩ := hv
  refine ⟨?_, ?_, fun i hi => ?_, fun k q hk1 hk5 hq => ?_, fun a p q ha hp hq => ?_, ?_⟩
  · rw [c.1, if_neg (by omega), v1]
  · rw [c.1, if_neg (by omega), v2]
  · rw [c.1, if_neg (by omega), v3 i hi]
  · rw [c.1, if_neg (by omega), v4 k q hk1 hk5 hq]
  · rw [c.1, if_neg (by omega), v5 a p q ha hp hq]
  · rw [c.2]; exact v6
set_option maxHeartbeats 400000 in
theorem CD.vf {a : Nat} {h' : Hp} (c : CD b a X h h') : VF b h h' := ⟨fun k j q => by rw [c.1, if_neg (by omega)], fun k j _ => by rw [c.2], by rw [c.2]⟩
set_option maxHeartbeats 400000 in
theorem p_cd43 (hb : isV b) (hv : VA h b X) {a : Nat} {y : Int64} (ha : a < 6) (hy : ∀ p q, p < 6 → q < 6 → (y &&& bitm (q * 6 + p) = 0 ↔ cb X a p q = false)) : ∃ h', b_X0_countDay_43 1000 h (rf b 6) (nI a) y (nI 0) = some h' ∧ CD b a X h h' := by
  refine exE (lp (fun n (s : Hp × Int32) => b_X0_countDay_43 n s.1 (rf b 6) (nI a) y s.2) (fun p s => s.2 = nI p ∧ (∀ c j, s.1.1 c j = if c = b + 9 ∧ a * 6 ≤ j ∧ j < a * 6 + p then nI (cnt X a (j - a * 6)) else h.1 c j) ∧ s.1.2 = h.2) (fun h' => CD b a X h h') 6 (fun n p s hp hs => Or.inl ?_) (fun n s hs => ?_) 1000 0 (h, nI 0) (by omega) ⟨rfl, fun c j => by rw [if_neg (by omega)], rfl⟩ (by omega)) (fun r h1 h2 => ?_)
  · obtain ⟨g, x⟩ := s
    obtain ⟨e1, e2, e3⟩ := hs
    dsimp only at e1 e2 e3
    subst e1
    have hv' : VA g b X := by
      obtain ⟨v1, v2, v3, v4, v5, v6⟩ := hv
      refine ⟨?_, ?_, fun i hi => ?_, fun k q hk1 hk5 hq => ?_, fun a p q ha hp hq => ?_, ?_⟩
      · rw [e2, if_neg (by omega), v1]
      · rw [e2, if_neg (by omega), v2]
      · rw [e2, if_neg (by omega), v3 i hi]
      · rw [e2, if_neg (by omega), v4 k q hk1 hk5 hq]
      · rw [e2, if_neg (by omega), v5 a p q ha hp hq]
      · rw [e3]; exact v6
    refine ⟨(wI g (b + 9) (a * 6 + p) (nI (cnt X a p)), nI (p + 1)), ⟨rfl, fun c j => ?_, e3⟩, ?_⟩
    · rw [rdI]
      by_cases z : c = b + 9 ∧ j = a * 6 + p
      · rw [if_pos z, if_pos (by omega), z.2, Nat.add_sub_cancel_left]
      · rw [if_neg z, e2]
        by_cases z2 : c = b + 9 ∧ a * 6 ≤ j ∧ j < a * 6 + p
        · rw [if_pos z2, if_pos (by omega)]
        · rw [if_neg z2, if_neg (by omega)]
    · show f_X0_countDay_43 (b_X0_countDay_43 n) g (rf b 6) (nI a) y (nI p) = _
      unfold f_X0_countDay_43
      simp (disch := omega) only [L0, L1, L2, L3, L4, L5, L6, L7, L8, L9, L10, L11, L12, L13, L14, L15, L16, L20, L21, L42, L44, L48, L57, L59, L60, L63, L64, L99, L108, L112, L255, L462, L999, L9999, nI_add, pk_mul, nI_leI, nI_ltI, nI_eq, Option.bind_some]
      rw [if_neg (by omega), p_countOf hb hv' ha hp (fun q hq => hy p q hp hq)]
      simp (disch := omega) only [L0, L1, L2, L3, L4, L5, L6, L7, L8, L9, L10, L11, L12, L13, L14, L15, L16, L20, L21, L42, L44, L48, L57, L59, L60, L63, L64, L99, L108, L112, L255, L462, L999, L9999, nI_add, pk_mul, nI_leI, nI_ltI, nI_eq, Option.bind_some]
      rw [rg1 hb, stI_n (by rw [vl9 hb]; omega) (by omega)]
      simp (disch := omega) only [L0, L1, L2, L3, L4, L5, L6, L7, L8, L9, L10, L11, L12, L13, L14, L15, L16, L20, L21, L42, L44, L48, L57, L59, L60, L63, L64, L99, L108, L112, L255, L462, L999, L9999, nI_add, pk_mul, nI_leI, nI_ltI, nI_eq, Option.bind_some]
  · obtain ⟨g, x⟩ := s
    obtain ⟨e1, e2, e3⟩ := hs
    dsimp only at e1 e2 e3
    subst e1
    refine ⟨g, ⟨e2, e3⟩, ?_⟩
    show f_X0_countDay_43 (b_X0_countDay_43 n) g (rf b 6) (nI a) y (nI 6) = _
    unfold f_X0_countDay_43
    simp (disch := omega) only [L0, L1, L2, L3, L4, L5, L6, L7, L8, L9, L10, L11, L12, L13, L14, L15, L16, L20, L21, L42, L44, L48, L57, L59, L60, L63, L64, L99, L108, L112, L255, L462, L999, L9999, nI_add, pk_mul, nI_leI, nI_ltI, nI_eq, Option.bind_some]
    rw [if_pos (by omega)]
  · exact ⟨r, h2, h1⟩
set_option maxHeartbeats 400000 in
theorem cb_false {a p q : Nat} : cb X a p q = false ↔ (X.1 0 4 = 0 ∨ ∀ i, i < X.1 0 4 + 1 → X.2 (a + i) q p = 0) := by
  unfold cb
  rw [Bool.and_eq_false_iff]
  refine or_congr (by simp) ?_
  rw [List.any_eq_false]
  constructor
  · intro e i hi
    have := e i (List.mem_range.mpr hi)
    simp only [decide_eq_true_eq] at this
    omega
  · intro e i hi
    have := e i (List.mem_range.mp hi)
    simp only [decide_eq_true_eq]
    omega
set_option maxHeartbeats 400000 in
theorem p_countDay (hb : isV b) (hv : VA h b X) {a : Nat} (ha : a < 6) (h5 : X.1 0 4 ≤ 5) : ∃ h', sh_X0_countDay h (rf b 6) (nI a) (nI (X.1 0 4)) = some h' ∧ CD b a X h h' := by
  unfold sh_X0_countDay b_X0_countDay_40
  simp (disch := omega) only [L0, L1, L2, L3, L4, L5, L6, L7, L8, L9, L10, L11, L12, L13, L14, L15, L16, L20, L21, L42, L44, L48, L57, L59, L60, L63, L64, L99, L108, L112, L255, L462, L999, L9999, nI_add, pk_mul, nI_leI, nI_ltI, nI_eq, Option.bind_some]
  by_cases e0 : X.1 0 4 ≤ 0
  · rw [if_pos e0]
    exact p_cd43 hb hv ha (fun p q _ _ => ⟨fun _ => cb_false.mpr (Or.inl (by omega)), fun _ => zero_and0 _⟩)
  · rw [if_neg e0]
    refine exE (lp (fun n (s : Int64 × Int32) => b_X0_countDay_9 n h (rf b 6) (nI a) (nI (X.1 0 4)) s.1 s.2) (fun i s => s.2 = nI (a + i) ∧ ∀ p q, p < 6 → q < 6 → (s.1 &&& bitm (q * 6 + p) = 0 ↔ ∀ j, j < i → X.2 (a + j) q p = 0)) (fun h' => CD b a X h h') (X.1 0 4 + 1) (fun n i s hi hs => Or.inl ?_) (fun n s hs => ?_) 1000 0 (0, nI a) (by omega) ⟨rfl, fun p q _ _ => ⟨fun _ j hj => by omega, fun _ => zero_and0 _⟩⟩ (by omega)) (fun r h1 h2 => ?_)
    · obtain ⟨y, x⟩ := s
      obtain ⟨e1, e2⟩ := hs
      dsimp only at e1 e2
      subst e1
      refine ⟨(y ||| h.2.1 (b + 10) (a + i), nI (a + (i + 1))), ⟨rfl, fun p q hp hq => ?_⟩, ?_⟩
      · show (y ||| h.2.1 (b + 10) (a + i)) &&& bitm (q * 6 + p) = 0 ↔ _
        rw [or_and0, e2 p q hp hq, hv.2.2.2.2.2 (a + i) q p (by omega) hq hp]
        constructor
        · rintro ⟨z1, z2⟩ j hj
          rcases Nat.lt_or_ge j i with w | w
          · exact z1 j w
          · rw [show j = i by omega]; exact z2
        · intro z
          exact ⟨fun j hj => z j (by omega), z i (by omega)⟩
      · show f_X0_countDay_9 (b_X0_countDay_9 n) h (rf b 6) (nI a) (nI (X.1 0 4)) y (nI (a + i)) = _
        unfold f_X0_countDay_9
        simp (disch := omega) only [L0, L1, L2, L3, L4, L5, L6, L7, L8, L9, L10, L11, L12, L13, L14, L15, L16, L20, L21, L42, L44, L48, L57, L59, L60, L63, L64, L99, L108, L112, L255, L462, L999, L9999, nI_add, pk_mul, nI_leI, nI_ltI, nI_eq, Option.bind_some]
        rw [if_neg (by omega), if_neg (by omega), rg2 hb, ldJ_n (by rw [vl10 hb]; omega) (by omega)]
        rfl
    · obtain ⟨y, x⟩ := s
      obtain ⟨e1, e2⟩ := hs
      dsimp only at e1 e2
      subst e1
      obtain ⟨h', g1, g2⟩ := p_cd43 hb hv (y := y) ha (fun p q hp hq => (e2 p q hp hq).trans ⟨fun z => cb_false.mpr (Or.inr z), fun z => (cb_false.mp z).elim (fun w => by omega) id⟩)
      refine ⟨h', g2, ?_⟩
      show f_X0_countDay_9 (b_X0_countDay_9 n) h (rf b 6) (nI a) (nI (X.1 0 4)) y (nI (a + (X.1 0 4 + 1))) = _
      unfold f_X0_countDay_9 b_X0_countDay_40
      simp (disch := omega) only [L0, L1, L2, L3, L4, L5, L6, L7, L8, L9, L10, L11, L12, L13, L14, L15, L16, L20, L21, L42, L44, L48, L57, L59, L60, L63, L64, L99, L108, L112, L255, L462, L999, L9999, nI_add, pk_mul, nI_leI, nI_ltI, nI_eq, Option.bind_some]
      rw [if_pos (by omega)]
      exact g1
    · exact ⟨r, h2, h1⟩
set_option maxHeartbeats 400000 in
theorem p_countPast (hb : isV b) (hv : VA h b X) (h5 : X.1 0 4 ≤ 5) : ∃ h', sh_X0_countPastDays h (rf b 6) (nI (X.1 0 4)) = some h' ∧ VR h' b X ∧ VF b h h' := by
  refine exE (lp (fun n (s : Hp × Int32) => b_X0_countPastDays_2 n s.1 (rf b 6) (nI (X.1 0 4)) s.2) (fun i s => s.2 = nI (i + 1) ∧ VA s.1 b X ∧ VF b h s.1 ∧ ∀ a p, 1 ≤ a → a < i + 1 → a < 6 → p < 6 → s.1.1 (b + 9) (a * 6 + p) = nI (cnt X a p)) (fun h' => VR h' b X ∧ VF b h h') 5 (fun n i s hi hs => Or.inl ?_) (fun n s hs => ?_) 1000 0 (h, nI 1) (by omega) ⟨rfl, hv, VF.rf b h, fun a p _ _ _ => by omega⟩ (by omega)) (fun r h1 h2 => ?_)
  · obtain ⟨g, x⟩ := s
    obtain ⟨e1, e2, e3, e4⟩ := hs
    dsimp only at e1 e2 e3 e4
    subst e1
    obtain ⟨h', g1, g2⟩ := p_countDay hb e2 (a := i + 1) (by omega) h5
    refine ⟨(h', nI (i + 1 + 1)), ⟨rfl, g2.va e2, e3.tr g2.vf, fun a p z1 z2 z3 z4 => ?_⟩, ?_⟩
    · show h'.1 (b + 9) (a * 6 + p) = _
      rw [g2.1]
      by_cases w : a = i + 1
      · subst w
        rw [if_pos (by omega), Nat.add_sub_cancel_left]
      · rw [if_neg (by omega)]
        exact e4 a p z1 (by omega) z3 z4
    · show f_X0_countPastDays_2 (b_X0_countPastDays_2 n) g (rf b 6) (nI (X.1 0 4)) (nI (i + 1)) = _
      unfold f_X0_countPastDays_2
      simp (disch := omega) only [L0, L1, L2, L3, L4, L5, L6, L7, L8, L9, L10, L11, L12, L13, L14, L15, L16, L20, L21, L42, L44, L48, L57, L59, L60, L63, L64, L99, L108, L112, L255, L462, L999, L9999, nI_add, pk_mul, nI_leI, nI_ltI, nI_eq, Option.bind_some]
      rw [if_neg (by omega), g1]
      rfl
  · obtain ⟨g, x⟩ := s
    obtain ⟨e1, e2, e3, e4⟩ := hs
    dsimp only at e1 e2 e3 e4
    subst e1
    refine ⟨g, ⟨VR.mk e2 (fun a p z1 z2 z3 => e4 a p z1 (by omega) z2 z3), e3⟩, ?_⟩
    show f_X0_countPastDays_2 (b_X0_countPastDays_2 n) g (rf b 6) (nI (X.1 0 4)) (nI (5 + 1)) = _
    unfold f_X0_countPastDays_2
    simp (disch := omega) only [L0, L1, L2, L3, L4, L5, L6, L7, L8, L9, L10, L11, L12, L13, L14, L15, L16, L20, L21, L42, L44, L48, L57, L59, L60, L63, L64, L99, L108, L112, L255, L462, L999, L9999, nI_add, pk_mul, nI_leI, nI_ltI, nI_eq, Option.bind_some]
    rw [if_pos (by omega)]
  · exact ⟨r, h2, h1⟩
-- what a setting becomes
set_option maxHeartbeats 400000 in
theorem p_change (hb : isV b) (hv : VR h b X) {j v : Nat} (hj : j < 4) (hb5 : j = 2 → v ≤ 5) (hv9 : v ≤ 99) (hx : X.1 0 (2 + j) ≤ 99) : ∃ h', sh_X3_changeSetting h b (nI j) (nI v) = some (nI (X.1 0 (2 + j)), h') ∧ VR h' b (up1 X.1 0 (2 + j) v, X.2) ∧ VF b h h' := by
  unfold sh_X3_changeSetting b_X3_changeSetting_32
  simp (disch := omega) only [L0, L1, L2, L3, L4, L5, L6, L7, L8, L9, L10, L11, L12, L13, L14, L15, L16, L20, L21, L42, L44, L48, L57, L59, L60, L63, L64, L99, L108, L112, L255, L462, L999, L9999, nI_add, pk_mul, nI_leI, nI_ltI, nI_eq, Option.bind_some, ld_set hb hv]
  rw [rf5 hb, stI_n (by rw [vl6 hb]; exact hj) (by omega)]
  simp (disch := omega) only [L0, L1, L2, L3, L4, L5, L6, L7, L8, L9, L10, L11, L12, L13, L14, L15, L16, L20, L21, L42, L44, L48, L57, L59, L60, L63, L64, L99, L108, L112, L255, L462, L999, L9999, nI_add, pk_mul, nI_leI, nI_ltI, nI_eq, Option.bind_some]
  have hf : VF b h (wI h (b + 6) j (nI v)) := VF.wI h _ _ (by omega) (by omega)
  by_cases e2 : j = 2
  · subst e2
    rw [if_pos rfl]
    by_cases e : X.1 0 (2 + 2) = v
    · rw [if_pos e]
      refine ⟨_, rfl, VR.mk (hv.va.set hj) (hv.vc.congr (fun i => by rw [rdI, if_neg (by omega)]) ?_ (fun _ _ _ _ => rfl)), hf⟩
      show X.1 0 4 = up1 X.1 0 4 v 0 4
      rw [up1_at]
      exact e
    · rw [if_neg e]
      have hva := hv.va.set (j := 2) (v := v) hj
      have e5 : (up1 X.1 0 (2 + 2) v, X.2).1 0 4 = v := up1_at X.1 0 4 v
      obtain ⟨h', g1, g2, g3⟩ := p_countPast hb hva (by rw [e5]; exact hb5 rfl)
      rw [e5] at g1
      rw [g1]
      exact ⟨h', rfl, g2, hf.tr g3⟩
  · rw [if_neg e2]
    exact ⟨_, rfl, hv.set hj e2, hf⟩
set_option maxHeartbeats 400000 in
theorem p_turn0 (h : Hp) (b : Nat) : ∀ g0, g0 = cpJ (cpI (cpI h (b + 8) 0 (b + 8) 42 210) (b + 9) 0 (b + 9) 6 30) (b + 10) 0 (b + 10) 1 10 → (∀ c j, g0.1 c j = if c = b + 8 ∧ 42 ≤ j ∧ j < 252 then h.1 c (j - 42) else if c = b + 9 ∧ 6 ≤ j ∧ j < 36 then h.1 c (j - 6) else h.1 c j) ∧ (∀ c j, g0.2.1 c j = if c = b + 10 ∧ 1 ≤ j ∧ j < 11 then h.2.1 c (j - 1) else h.2.1 c j) ∧ g0.2.2 = h.2.2 := by
  intro g0 hg0
  have e1 : ¬ (b + 8 = b + 9) := by omega
  have e2 : ¬ (b + 9 = b + 8) := by omega
  refine ⟨fun c j => ?_, fun c j => ?_, by rw [hg0]; rfl⟩
  · rw [hg0, cpJ_1, rdCI, rdCI, rdCI]
    simp only [Nat.zero_add, e2, false_and, if_false]
    by_cases c8 : c = b + 8
    · subst c8
      simp only [e1, false_and, if_false, true_and]
    · by_cases c9 : c = b + 9
      · subst c9
        simp only [e2, false_and, if_false, true_and]
      · simp only [c8, c9, false_and, if_false]
  · rw [hg0, rdCJ, cpI_2, cpI_2]
    simp only [Nat.zero_add]
    by_cases c8 : c = b + 10
    · subst c8
      rfl
    · simp only [c8, false_and, if_false]
set_option maxHeartbeats 400000 in
theorem p_zero (hb : isV b) (g0 : Hp) : ∃ h', b_X0_turnToNextDay_66 1000 g0 (rf b 6) (nI 0) = some h' ∧ (∀ c j, h'.1 c j = if c = b + 8 ∧ j < 42 then nI 0 else g0.1 c j) ∧ h'.2 = (wJ g0 (b + 10) 0 0).2 := by
  refine exE (lp (fun n (s : Hp × Int32) => b_X0_turnToNextDay_66 n s.1 (rf b 6) s.2) (fun i s => s.2 = nI i ∧ (∀ c j, s.1.1 c j = if c = b + 8 ∧ j < i then nI 0 else g0.1 c j) ∧ s.1.2 = g0.2) (fun h' => (∀ c j, h'.1 c j = if c = b + 8 ∧ j < 42 then nI 0 else g0.1 c j) ∧ h'.2 = (wJ g0 (b + 10) 0 0).2) 42 (fun n i s hi hs => Or.inl ?_) (fun n s hs => ?_) 1000 0 (g0, nI 0) (by omega) ⟨rfl, fun c j => by rw [if_neg (by omega)], rfl⟩ (by omega)) (fun r h1 h2 => ⟨r, h2, h1⟩)
  · obtain ⟨g, x⟩ := s
    obtain ⟨e1, e2, e3⟩ := hs
    dsimp only at e1 e2 e3
    subst e1
    refine ⟨(wI g (b + 8) i (nI 0), nI (i + 1)), ⟨rfl, fun c j => ?_, e3⟩, ?_⟩
    · show (wI g (b + 8) i (nI 0)).1 c j = _
      rw [rdI, e2]
      by_cases w : c = b + 8 ∧ j = i
      · rw [if_pos w, if_pos (by omega)]
      · rw [if_neg w]
        by_cases w2 : c = b + 8 ∧ j < i
        · rw [if_pos w2, if_pos (by omega)]
        · rw [if_neg w2, if_neg (by omega)]
    · show f_X0_turnToNextDay_66 (b_X0_turnToNextDay_66 n) g (rf b 6) (nI i) = _
      unfold f_X0_turnToNextDay_66
      simp (disch := omega) only [L0, L1, L2, L3, L4, L5, L6, L7, L8, L9, L10, L11, L12, L13, L14, L15, L16, L20, L21, L42, L44, L48, L57, L59, L60, L63, L64, L99, L108, L112, L255, L462, L999, L9999, nI_add, pk_mul, nI_leI, nI_ltI, nI_eq, Option.bind_some]
      rw [if_neg (by omega), rg0 hb, stI_n (by rw [vl8 hb]; omega) (by omega)]
      rfl
  · obtain ⟨g, x⟩ := s
    obtain ⟨e1, e2, e3⟩ := hs
    dsimp only at e1 e2 e3
    subst e1
    refine ⟨wJ g (b + 10) 0 0, ⟨e2, ?_⟩, ?_⟩
    · show (upd2L g.2.1 (b + 10) 0 0, g.2.2) = (upd2L g0.2.1 (b + 10) 0 0, g0.2.2)
      rw [e3]
    · show f_X0_turnToNextDay_66 (b_X0_turnToNextDay_66 n) g (rf b 6) (nI 42) = _
      unfold f_X0_turnToNextDay_66
      simp (disch := omega) only [L0, L1, L2, L3, L4, L5, L6, L7, L8, L9, L10, L11, L12, L13, L14, L15, L16, L20, L21, L42, L44, L48, L57, L59, L60, L63, L64, L99, L108, L112, L255, L462, L999, L9999, nI_add, pk_mul, nI_leI, nI_ltI, nI_eq, Option.bind_some]
      rw [if_pos (by omega), rg2 hb, stJ_n (by rw [vl10 hb]; omega) (by omega)]
      rfl
set_option maxHeartbeats 400000 in
theorem p_turn (hb : isV b) : ∃ h', sh_X0_turnToNextDay h (rf b 6) = some h' ∧ (∀ c j, h'.1 c j = if c = b + 8 ∧ j < 42 then nI 0 else if c = b + 8 ∧ j < 252 then h.1 c (j - 42) else if c = b + 9 ∧ 6 ≤ j ∧ j < 36 then h.1 c (j - 6) else h.1 c j) ∧ (∀ c j, h'.2.1 c j = if c = b + 10 ∧ j = 0 then 0 else if c = b + 10 ∧ j < 11 then h.2.1 c (j - 1) else h.2.1 c j) ∧ h'.2.2 = h.2.2 := by
  have l8 := vl8 hb
  have l9 := vl9 hb
  have l10 := vl10 hb
  unfold sh_X0_turnToNextDay
  have s1 : (Int32.ofNat 252 - 42 : Int32) = nI 210 := pk_sub (a := 252) (b := 42) (by decide)
  have s2 : (Int32.ofNat 36 - 6 : Int32) = nI 30 := pk_sub (a := 36) (b := 6) (by decide)
  have s3 : (Int32.ofNat 11 - 1 : Int32) = nI 10 := pk_sub (a := 11) (b := 1) (by decide)
  simp only [rg0 hb, rg1 hb, rg2 hb, l8, l9, l10, s1, s2, s3]
  simp only [L42, L6, L1, L0]
  rw [acI_n (h := h) (a0 := b + 8) (a1 := b + 8) (sp := 0) (dp := 42) (n := 210) (by rw [l8]; decide) (by rw [l8]; decide) (by decide), Option.bind_some]
  rw [acI_n (a0 := b + 9) (a1 := b + 9) (sp := 0) (dp := 6) (n := 30) (by rw [l9]; decide) (by rw [l9]; decide) (by decide), Option.bind_some]
  rw [acJ_n (a0 := b + 10) (a1 := b + 10) (sp := 0) (dp := 1) (n := 10) (by rw [l10]; decide) (by rw [l10]; decide) (by decide), Option.bind_some]
  obtain ⟨q1, q2, q3⟩ := p_turn0 h b _ rfl
  generalize cpJ (cpI (cpI h (b + 8) 0 (b + 8) 42 210) (b + 9) 0 (b + 9) 6 30) (b + 10) 0 (b + 10) 1 10 = g0 at q1 q2 q3 ⊢
  obtain ⟨r, g1, h1, h2⟩ := p_zero hb g0
  refine ⟨r, g1, fun c j => ?_, fun c j => ?_, ?_⟩
  · rw [h1, q1]
    by_cases w : c = b + 8 ∧ j < 42
    · rw [if_pos w, if_pos w]
    · rw [if_neg w, if_neg w]
      by_cases w2 : c = b + 8 ∧ j < 252
      · rw [if_pos (by omega), if_pos w2]
      · rw [if_neg (by omega), if_neg w2]
  · rw [h2, rdJ, q2]
    by_cases w : c = b + 10 ∧ j = 0
    · rw [if_pos w, if_pos w]
    · rw [if_neg w, if_neg w]
      by_cases w2 : c = b + 10 ∧ j < 11
      · rw [if_pos (by omega), if_pos w2]
      · rw [if_neg (by omega), if_neg w2]
  · rw [h2, wJ_22, q3]
end VD
