/-! PURE: the reference keeps its days and puts them back -/
def lcA (i : Nat) : Nat := if i < 4 then 120 else if i < 10 then 125 else 126
def lcJ (i : Nat) : Nat := if i = 0 then 1 else if i = 1 then 2 else if i = 2 then 4 else if i = 3 then 12 else if i < 10 then i - 4 else i - 10
-- the place of a number among those kept; 9999: it isn't
def ivP (c j : Nat) : Nat := if c = 120 ∧ j = 1 then 0 else if c = 120 ∧ j = 2 then 1 else if c = 120 ∧ j = 4 then 2 else if c = 120 ∧ j = 12 then 3 else if c = 125 ∧ j < 6 then 4 + j else if c = 126 ∧ j < 462 then 10 + j else 9999
set_option maxHeartbeats 400000 in
theorem ivP_iff {i c j : Nat} (hi : i < 472) : ivP c j = i ↔ (c = lcA i ∧ j = lcJ i) := by
  unfold ivP lcA lcJ
  constructor
  · intro e
    repeat' split at e
    all_goals (repeat' split)
    all_goals omega
  · intro e
    repeat' split at e
    all_goals (repeat' split)
    all_goals omega
set_option maxHeartbeats 400000 in
theorem kd_c {c : Nat} (hc : c = 129 ∨ c = 136) : c < NC ∧ kd c = 6 ∧ len c = 480 := by rcases hc with rfl | rfl <;> exact ⟨by decide, rfl, rfl⟩
section MC
variable {h g : Hp} {c : Nat}
set_option maxHeartbeats 400000 in
theorem m_carry17 {i : Nat} (hc : c = 129 ∨ c = 136) (hK : g.2.2 = some c) (h17 : g.1 120 17 = nI i) (hi : i < 480) : b_X5_carry_17 g 120 = some (g.1 c i, wI g 120 17 (nI (i + 1))) := by
  obtain ⟨c1, c2, c3⟩ := kd_c hc
  unfold b_X5_carry_17
  rw [h17, L1, nI_add]
  have e1 : (wI g 120 17 (nI (i + 1))).1 120 17 = nI (i + 1) := by rw [rdI, if_pos ⟨rfl, rfl⟩]
  have e2 : gK (wI g 120 17 (nI (i + 1))) = some c := by
    unfold gK
    rw [show (wI g 120 17 (nI (i + 1))).2.2 = some c from hK]
    show (if c < NC ∧ kd c = 6 then some c else none) = some c
    rw [if_pos ⟨c1, c2⟩]
  rw [e2, e1, Option.bind_some, pk_sub (by omega), Nat.add_sub_cancel, ldI_n (by rw [c3]; exact hi) (by omega), Option.bind_some, rdI, if_neg (by omega)]
set_option maxHeartbeats 400000 in
theorem m_carryT {i : Nat} {v : Int32} (hc : c = 129 ∨ c = 136) (hK : g.2.2 = some c) (h18 : g.1 120 18 = nI 1) (h17 : g.1 120 17 = nI i) (hi : i < 480) : sh_X5_carry g 120 v = some (v, wI (wI g c i v) 120 17 (nI (i + 1))) := by
  obtain ⟨c1, c2, c3⟩ := kd_c hc
  unfold sh_X5_carry
  rw [h18, if_neg (by decide)]
  have e2 : gK g = some c := by
    unfold gK
    rw [hK]
    show (if c < NC ∧ kd c = 6 then some c else none) = some c
    rw [if_pos ⟨c1, c2⟩]
  rw [e2, Option.bind_some, h17, stI_n (by rw [c3]; exact hi) (by omega), Option.bind_some, m_carry17 (g := wI g c i v) (i := i) hc hK (by rw [rdI, if_neg (by omega), h17]) hi, rdI, if_pos ⟨rfl, rfl⟩]
set_option maxHeartbeats 400000 in
theorem m_carryG {i : Nat} {v : Int32} (hc : c = 129 ∨ c = 136) (hK : g.2.2 = some c) (h18 : g.1 120 18 = nI 0) (h17 : g.1 120 17 = nI i) (hi : i < 480) : sh_X5_carry g 120 v = some (g.1 c i, wI g 120 17 (nI (i + 1))) := by
  unfold sh_X5_carry
  rw [h18, if_pos (by decide), m_carry17 hc hK h17 hi]
-- the first i are taken
def TK (c : Nat) (h : Hp) (i : Nat) (g : Hp) : Prop := (∀ a j, g.1 a j = if a = c ∧ j < i then h.1 (lcA j) (lcJ j) else if a = 120 ∧ j = 17 then nI i else if a = 120 ∧ j = 18 then nI 1 else h.1 a j) ∧ g.2.1 = h.2.1 ∧ g.2.2 = some c
-- the first i are put back
def GV (c : Nat) (h : Hp) (i : Nat) (g : Hp) : Prop := (∀ a j, g.1 a j = if ivP a j < i then h.1 c (ivP a j) else if a = 120 ∧ j = 17 then nI i else if a = 120 ∧ j = 18 then nI 0 else h.1 a j) ∧ g.2.1 = h.2.1 ∧ g.2.2 = some c
set_option maxHeartbeats 400000 in
theorem lc_ok {i : Nat} (hi : i < 472) : lcA i ≤ 126 ∧ ¬ (lcA i = 120 ∧ lcJ i = 17) ∧ ¬ (lcA i = 120 ∧ lcJ i = 18) ∧ lcJ i < 462 := by
  unfold lcA lcJ
  refine ⟨?_, ?_, ?_, ?_⟩ <;> (repeat' split) <;> omega
set_option maxHeartbeats 400000 in
theorem TK.step {i : Nat} (hc : c = 129 ∨ c = 136) (t : TK c h i g) (hi : i < 472) : ∃ q, sh_X5_carry g 120 (g.1 (lcA i) (lcJ i)) = some q ∧ TK c h (i + 1) (wI q.2 (lcA i) (lcJ i) q.1) := by
  obtain ⟨t1, t2, t3⟩ := t
  have hl := lc_ok hi
  have e18 : g.1 120 18 = nI 1 := by rw [t1, if_neg (by omega), if_neg (by omega), if_pos ⟨rfl, rfl⟩]
  have e17 : g.1 120 17 = nI i := by rw [t1, if_neg (by omega), if_pos ⟨rfl, rfl⟩]
  have ev : g.1 (lcA i) (lcJ i) = h.1 (lcA i) (lcJ i) := by rw [t1, if_neg (by omega), if_neg hl.2.1, if_neg hl.2.2.1]
  refine ⟨_, m_carryT hc t3 e18 e17 (by omega), fun a j => ?_, t2, t3⟩
  show (wI (wI (wI g c i (g.1 (lcA i) (lcJ i))) 120 17 (nI (i + 1))) (lcA i) (lcJ i) (g.1 (lcA i) (lcJ i))).1 a j = _
  rw [rdI, rdI, rdI, ev, t1]
  by_cases w1 : a = lcA i ∧ j = lcJ i
  · rw [if_pos w1, if_neg (by omega), if_neg (by omega), if_neg (by omega), w1.1, w1.2]
  · rw [if_neg w1]
    by_cases w2 : a = 120 ∧ j = 17
    · rw [if_pos w2, if_neg (by omega), if_pos w2]
    · rw [if_neg w2]
      by_cases w3 : a = c ∧ j = i
      · rw [if_pos w3, if_pos (by omega), w3.2]
      · rw [if_neg w3]
        by_cases w4 : a = c ∧ j < i
        · rw [if_pos w4, if_pos (by omega)]
        · rw [if_neg w4, if_neg (show ¬ (a = c ∧ j < i + 1) by omega), if_neg w2, if_neg w2]
set_option maxHeartbeats 400000 in
theorem GV.step {i : Nat} {v : Int32} (hc : c = 129 ∨ c = 136) (t : GV c h i g) (hi : i < 472) : ∃ q, sh_X5_carry g 120 v = some q ∧ GV c h (i + 1) (wI q.2 (lcA i) (lcJ i) q.1) := by
  obtain ⟨t1, t2, t3⟩ := t
  have hl := lc_ok hi
  have i17 : ivP 120 17 = 9999 := rfl
  have i18 : ivP 120 18 = 9999 := rfl
  have e18 : g.1 120 18 = nI 0 := by rw [t1, if_neg (by rw [i18]; omega), if_neg (by omega), if_pos ⟨rfl, rfl⟩]
  have e17 : g.1 120 17 = nI i := by rw [t1, if_neg (by rw [i17]; omega), if_pos ⟨rfl, rfl⟩]
  have ic : ∀ j, ivP c j = 9999 := fun j => by
    unfold ivP
    rcases hc with rfl | rfl <;> rfl
  have ev : g.1 c i = h.1 c i := by rw [t1, if_neg (by rw [ic]; omega), if_neg (by omega), if_neg (by omega)]
  refine ⟨_, m_carryG hc t3 e18 e17 (by omega), fun a j => ?_, t2, t3⟩
  show (wI (wI g 120 17 (nI (i + 1))) (lcA i) (lcJ i) (g.1 c i)).1 a j = _
  rw [rdI, rdI, ev, t1]
  by_cases w1 : a = lcA i ∧ j = lcJ i
  · have := (ivP_iff hi).mpr w1
    rw [if_pos w1, if_pos (by omega), this]
  · have hne : ivP a j ≠ i := fun z => w1 ((ivP_iff hi).mp z)
    rw [if_neg w1]
    by_cases w2 : a = 120 ∧ j = 17
    · rw [if_pos w2, w2.1, w2.2, if_neg (by rw [i17]; omega), if_pos ⟨rfl, rfl⟩]
    · rw [if_neg w2]
      by_cases w4 : ivP a j < i
      · rw [if_pos w4, if_pos (by omega)]
      · rw [if_neg w4, if_neg w2, if_neg (show ¬ (ivP a j < i + 1) by omega), if_neg w2]
-- both ways at once: B is TK or GV
set_option maxHeartbeats 400000 in
theorem m_carryDays {v : Int32} (B : Nat → Hp → Prop) (hv : v = nI 0 ∨ v = nI 1) (hc : c = 129 ∨ c = 136) (h0 : B 0 (wI (wI (wK h c) 120 18 v) 120 17 (nI 0)))
    (hs : ∀ i g, i < 472 → B i g → ∃ q, sh_X5_carry g 120 (g.1 (lcA i) (lcJ i)) = some q ∧ B (i + 1) (wI q.2 (lcA i) (lcJ i) q.1)) : ∃ h', sh_X5_carryDays h 120 c v = some h' ∧ B 472 h' := by
  unfold sh_X5_carryDays
  have hbol : bol v = some v := by
    unfold bol
    rcases hv with rfl | rfl <;> rfl
  rw [hbol, Option.bind_some, L0]
  generalize wI (wI (wK h c) 120 18 v) 120 17 (nI 0) = g0 at h0 ⊢
  obtain ⟨q2, a2, b2⟩ := hs 0 g0 (by omega) h0
  rw [show sh_X5_carry g0 120 (g0.1 120 1) = some q2 from a2, Option.bind_some]
  obtain ⟨q3, a3, b3⟩ := hs 1 _ (by omega) b2
  rw [show sh_X5_carry (wI q2.2 120 1 q2.1) 120 ((wI q2.2 120 1 q2.1).1 120 2) = some q3 from a3, Option.bind_some]
  obtain ⟨q4, a4, b4⟩ := hs 2 _ (by omega) b3
  rw [show sh_X5_carry (wI q3.2 120 2 q3.1) 120 ((wI q3.2 120 2 q3.1).1 120 4) = some q4 from a4, Option.bind_some]
  obtain ⟨q5, a5, b5⟩ := hs 3 _ (by omega) b4
  rw [show sh_X5_carry (wI q4.2 120 4 q4.1) 120 ((wI q4.2 120 4 q4.1).1 120 12) = some q5 from a5, Option.bind_some]
  have b5 : B 4 (wI q5.2 120 12 q5.1) := b5
  generalize wI q5.2 120 12 q5.1 = g4 at b5 ⊢
  refine exE (lp (fun n (s : Hp × Int32) => b_X5_carryDays_65 n s.1 120 s.2) (fun i s => s.2 = nI i ∧ B (4 + i) s.1) (B 472) 6 (fun n i s hi hz => Or.inl ?_) (fun n s hz => ?_) 1000 0 (g4, nI 0) (by omega) ⟨rfl, b5⟩ (by omega)) (fun r h1 h2 => ⟨r, h2, h1⟩)
  · obtain ⟨w, x⟩ := s
    obtain ⟨e1, e2⟩ := hz
    dsimp only at e1 e2
    subst e1
    obtain ⟨q, a1, b1⟩ := hs (4 + i) w (by omega) e2
    have f1 : lcA (4 + i) = 125 := by unfold lcA; rw [if_neg (by omega), if_pos (by omega)]
    have f2 : lcJ (4 + i) = i := by unfold lcJ; rw [if_neg (by omega), if_neg (by omega), if_neg (by omega), if_neg (by omega), if_pos (by omega)]; omega
    rw [f1, f2] at a1 b1
    refine ⟨(wI q.2 125 i q.1, nI (i + 1)), ⟨rfl, b1⟩, ?_⟩
    show f_X5_carryDays_65 (b_X5_carryDays_65 n) w 120 (nI i) = _
    unfold f_X5_carryDays_65
    rw [mf10, ldI_n (a := 125) hi (by omega), Option.bind_some, a1, Option.bind_some, stI_n (a := 125) hi (by omega)]
    simp (disch := omega) only [L0, L1, L2, L3, L4, L5, L6, L7, L8, L9, L10, L11, L12, L13, L14, L15, L16, L20, L21, L42, L44, L48, L57, L59, L60, L63, L64, L99, L108, L112, L255, L462, L999, L9999, nI_add, pk_mul, nI_leI, nI_ltI, nI_eq, Option.bind_some]
    rw [if_neg (by omega)]
  · obtain ⟨w, x⟩ := s
    obtain ⟨e1, e2⟩ := hz
    dsimp only at e1 e2
    subst e1
    have key : ∃ r, B 472 r ∧ b_X5_carryDays_95 1000 w 120 (nI 0) = some r := by
      refine lp (fun n (s : Hp × Int32) => b_X5_carryDays_95 n s.1 120 s.2) (fun i s => s.2 = nI i ∧ B (10 + i) s.1) (B 472) 462 (fun n i s hi hz => Or.inl ?_) (fun n s hz => ?_) 1000 0 (w, nI 0) (by omega) ⟨rfl, e2⟩ (by omega)
      · obtain ⟨w, x⟩ := s
        obtain ⟨e1, e2⟩ := hz
        dsimp only at e1 e2
        subst e1
        obtain ⟨q, a1, b1⟩ := hs (10 + i) w (by omega) e2
        have f1 : lcA (10 + i) = 126 := by unfold lcA; rw [if_neg (by omega), if_neg (by omega)]
        have f2 : lcJ (10 + i) = i := by unfold lcJ; rw [if_neg (by omega), if_neg (by omega), if_neg (by omega), if_neg (by omega), if_neg (by omega)]; omega
        rw [f1, f2] at a1 b1
        refine ⟨(wI q.2 126 i q.1, nI (i + 1)), ⟨rfl, b1⟩, ?_⟩
        show f_X5_carryDays_95 (b_X5_carryDays_95 n) w 120 (nI i) = _
        unfold f_X5_carryDays_95
        rw [mf11, ldI_n (a := 126) hi (by omega), Option.bind_some, a1, Option.bind_some, stI_n (a := 126) hi (by omega)]
        simp (disch := omega) only [L0, L1, L2, L3, L4, L5, L6, L7, L8, L9, L10, L11, L12, L13, L14, L15, L16, L20, L21, L42, L44, L48, L57, L59, L60, L63, L64, L99, L108, L112, L255, L462, L999, L9999, nI_add, pk_mul, nI_leI, nI_ltI, nI_eq, Option.bind_some]
        rw [if_neg (by omega)]
      · obtain ⟨w, x⟩ := s
        obtain ⟨e1, e2⟩ := hz
        dsimp only at e1 e2
        subst e1
        refine ⟨w, e2, ?_⟩
        show f_X5_carryDays_95 (b_X5_carryDays_95 n) w 120 (nI 462) = _
        unfold f_X5_carryDays_95
        simp (disch := omega) only [L0, L1, L2, L3, L4, L5, L6, L7, L8, L9, L10, L11, L12, L13, L14, L15, L16, L20, L21, L42, L44, L48, L57, L59, L60, L63, L64, L99, L108, L112, L255, L462, L999, L9999, nI_add, pk_mul, nI_leI, nI_ltI, nI_eq, Option.bind_some]
        rw [if_pos (by omega)]
    obtain ⟨r, r1, r2⟩ := key
    refine ⟨r, r1, ?_⟩
    show f_X5_carryDays_65 (b_X5_carryDays_65 n) w 120 (nI 6) = _
    unfold f_X5_carryDays_65
    simp (disch := omega) only [L0, L1, L2, L3, L4, L5, L6, L7, L8, L9, L10, L11, L12, L13, L14, L15, L16, L20, L21, L42, L44, L48, L57, L59, L60, L63, L64, L99, L108, L112, L255, L462, L999, L9999, nI_add, pk_mul, nI_leI, nI_ltI, nI_eq, Option.bind_some]
    rw [if_pos (by omega)]
    exact r2
set_option maxHeartbeats 400000 in
theorem m_take (h : Hp) (hc : c = 129 ∨ c = 136) : ∃ h', sh_X5_carryDays h 120 c (nI 1) = some h' ∧ TK c h 472 h' := by
  refine m_carryDays (TK c h) (Or.inr rfl) hc ⟨fun a j => ?_, rfl, rfl⟩ (fun i g hi t => t.step hc hi)
  rw [rdI, rdI, if_neg (show ¬ (a = c ∧ j < 0) by omega)]
  rfl
set_option maxHeartbeats 400000 in
theorem m_put (h : Hp) (hc : c = 129 ∨ c = 136) : ∃ h', sh_X5_carryDays h 120 c (nI 0) = some h' ∧ GV c h 472 h' := by
  refine m_carryDays (GV c h) (Or.inl rfl) hc ⟨fun a j => ?_, rfl, rfl⟩ (fun i g hi t => t.step hc hi)
  rw [rdI, rdI, if_neg (show ¬ (ivP a j < 0) by omega)]
  rfl
end MC
