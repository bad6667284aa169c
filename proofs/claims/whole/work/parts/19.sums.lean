/-! PURE: sums, the richest, who can't begin -/
def sumH (X : St) : Nat := sm (fun p => X.1 4 p) (X.1 0 0)
def rcs (X : St) : Nat → Nat
  | 0 => 0
  | i + 1 => if rcs X i = 0 ∨ X.1 4 (rcs X i - 1) < X.1 4 i then i + 1 else rcs X i
set_option maxHeartbeats 400000 in
theorem rcs_le (X : St) : ∀ i, rcs X i ≤ i
  | 0 => Nat.le_refl 0
  | i + 1 => by
    have := rcs_le X i
    show (if rcs X i = 0 ∨ X.1 4 (rcs X i - 1) < X.1 4 i then i + 1 else rcs X i) ≤ i + 1
    split <;> omega
set_option maxHeartbeats 400000 in
theorem rcs_pos (X : St) (i : Nat) : rcs X (i + 1) ≠ 0 := by
  show (if rcs X i = 0 ∨ X.1 4 (rcs X i - 1) < X.1 4 i then i + 1 else rcs X i) ≠ 0
  split <;> omega
def rcI (c : Nat) : Int32 := if c = 0 then -9 else nI (c - 1)
section VS
variable {h : Hp} {b k : Nat} {X : St}
set_option maxHeartbeats 400000 in
theorem p_sumHas (hb : isV b) (hv : VR h b X) (hP : X.1 0 0 ≤ 6) : sh_X3_sumOfHas h b = some (nI (sumH X)) := by
  refine lpE (fun n (s : Int32 × Int32) => b_X3_sumOfHas_4 n h b s.1 s.2) (fun p => (nI (sm (fun p => X.1 4 p) p), nI p)) _ (X.1 0 0) (fun n p hp => ?_) (fun n => ?_) 1000 0 (by omega) (by omega)
  · show f_X3_sumOfHas_4 (b_X3_sumOfHas_4 n) h b (nI (sm (fun p => X.1 4 p) p)) (nI p) = _
    unfold f_X3_sumOfHas_4
    rw [hv.1, ld_has hb hv (by omega)]
    simp (disch := omega) only [L0, L1, L2, L3, L4, L5, L6, L7, L8, L9, L10, L11, L12, L13, L14, L15, L16, L20, L21, L42, L44, L48, L57, L59, L60, L63, L64, L99, L108, L112, L255, L462, L999, L9999, nI_add, pk_mul, nI_leI, nI_ltI, nI_eq, Option.bind_some]
    rw [if_neg (by omega)]
    rfl
  · show f_X3_sumOfHas_4 (b_X3_sumOfHas_4 n) h b (nI (sm (fun p => X.1 4 p) (X.1 0 0))) (nI (X.1 0 0)) = _
    unfold f_X3_sumOfHas_4
    rw [hv.1, if_pos (nI_le (Nat.le_refl _) (by omega))]
    rfl
set_option maxHeartbeats 400000 in
theorem p_sumLying (hb : isV b) (hv : VR h b X) (hP : X.1 0 0 ≤ 6) : sh_X3_sumOfLying h b = some (nI (sm (fun p => got X 0 p) (X.1 0 0))) := by
  refine lpE (fun n (s : Int32 × Int32) => b_X3_sumOfLying_4 n h b s.1 s.2) (fun p => (nI (sm (fun p => got X 0 p) p), nI p)) _ (X.1 0 0) (fun n p hp => ?_) (fun n => ?_) 1000 0 (by omega) (by omega)
  · show f_X3_sumOfLying_4 (b_X3_sumOfLying_4 n) h b (nI (sm (fun p => got X 0 p) p)) (nI p) = _
    unfold f_X3_sumOfLying_4
    rw [hv.1, p_gotT hb hv (by omega)]
    simp (disch := omega) only [L0, L1, L2, L3, L4, L5, L6, L7, L8, L9, L10, L11, L12, L13, L14, L15, L16, L20, L21, L42, L44, L48, L57, L59, L60, L63, L64, L99, L108, L112, L255, L462, L999, L9999, nI_add, pk_mul, nI_leI, nI_ltI, nI_eq, Option.bind_some]
    rw [if_neg (by omega)]
    rfl
  · show f_X3_sumOfLying_4 (b_X3_sumOfLying_4 n) h b (nI (sm (fun p => got X 0 p) (X.1 0 0))) (nI (X.1 0 0)) = _
    unfold f_X3_sumOfLying_4
    rw [hv.1, if_pos (nI_le (Nat.le_refl _) (by omega))]
set_option maxHeartbeats 400000 in
theorem p_sumGiven (hb : isV b) (hv : VR h b X) (hP : X.1 0 0 ≤ 6) : sh_X3_sumOfGiven h b = some (nI (sm (fun p => gvn X p) (X.1 0 0))) := by
  refine lpE (fun n (s : Int32 × Int32) => b_X3_sumOfGiven_4 n h b s.1 s.2) (fun p => (nI (sm (fun p => gvn X p) p), nI p)) _ (X.1 0 0) (fun n p hp => ?_) (fun n => ?_) 1000 0 (by omega) (by omega)
  · show f_X3_sumOfGiven_4 (b_X3_sumOfGiven_4 n) h b (nI (sm (fun p => gvn X p) p)) (nI p) = _
    unfold f_X3_sumOfGiven_4
    rw [hv.1, p_given hb hv (by omega)]
    simp (disch := omega) only [L0, L1, L2, L3, L4, L5, L6, L7, L8, L9, L10, L11, L12, L13, L14, L15, L16, L20, L21, L42, L44, L48, L57, L59, L60, L63, L64, L99, L108, L112, L255, L462, L999, L9999, nI_add, pk_mul, nI_leI, nI_ltI, nI_eq, Option.bind_some]
    rw [if_neg (by omega)]
    rfl
  · show f_X3_sumOfGiven_4 (b_X3_sumOfGiven_4 n) h b (nI (sm (fun p => gvn X p) (X.1 0 0))) (nI (X.1 0 0)) = _
    unfold f_X3_sumOfGiven_4
    rw [hv.1, if_pos (nI_le (Nat.le_refl _) (by omega))]
set_option maxHeartbeats 400000 in
theorem m_all (hm : MR h X) (hP : X.1 0 0 ≤ 6) : sh_X5_all h 120 = some (nI (sumH X)) := by
  refine lpE (fun n (s : Int32 × Int32) => b_X5_all_4 n h 120 s.1 s.2) (fun p => (nI (sm (fun p => X.1 4 p) p), nI p)) _ (X.1 0 0) (fun n p hp => ?_) (fun n => ?_) 1000 0 (by omega) (by omega)
  · show f_X5_all_4 (b_X5_all_4 n) h 120 (nI (sm (fun p => X.1 4 p) p)) (nI p) = _
    unfold f_X5_all_4
    rw [hm.1 0 (by decide), md_has hm (by omega)]
    simp (disch := omega) only [L0, L1, L2, L3, L4, L5, L6, L7, L8, L9, L10, L11, L12, L13, L14, L15, L16, L20, L21, L42, L44, L48, L57, L59, L60, L63, L64, L99, L108, L112, L255, L462, L999, L9999, nI_add, pk_mul, nI_leI, nI_ltI, nI_eq, Option.bind_some]
    rw [if_neg (by omega)]
    rfl
  · show f_X5_all_4 (b_X5_all_4 n) h 120 (nI (sm (fun p => X.1 4 p) (X.1 0 0))) (nI (X.1 0 0)) = _
    unfold f_X5_all_4
    rw [hm.1 0 (by decide), if_pos (nI_le (Nat.le_refl _) (by omega))]
    rfl
set_option maxHeartbeats 400000 in
theorem m_sum1 (hm : MR h X) (hI : Iv k X) : sh_X5_sum h 120 (1 : Int32) = some (nI (sm (fun p => got X 0 p) (X.1 0 0))) := by
  have hP := hI.2.1
  refine lpE (fun n (s : Int32 × Int32) => b_X5_sum_4 n h 120 (1 : Int32) s.1 s.2) (fun p => (nI (sm (fun p => got X 0 p) p), nI p)) _ (X.1 0 0) (fun n p hp => ?_) (fun n => ?_) 1000 0 (by omega) (by omega)
  · show f_X5_sum_4 (b_X5_sum_4 n) h 120 (1 : Int32) (nI (sm (fun p => got X 0 p) p)) (nI p) = _
    unfold f_X5_sum_4 b_X5_sum_38
    have hgot := m_got hm hI (a := 0) (q := p) (by omega) (by omega)
    rw [← ago_0] at hgot
    rw [hm.1 0 (by decide), hm.1 1 (by decide), hgot, if_neg (nI_ge hp (by omega)), if_neg (by decide), Option.bind_some, nI_add, L1, nI_add]
    rfl
  · show f_X5_sum_4 (b_X5_sum_4 n) h 120 (1 : Int32) (nI (sm (fun p => got X 0 p) (X.1 0 0))) (nI (X.1 0 0)) = _
    unfold f_X5_sum_4
    rw [hm.1 0 (by decide), if_pos (nI_le (Nat.le_refl _) (by omega))]
set_option maxHeartbeats 400000 in
theorem m_sum0 (hm : MR h X) (hI : Iv k X) : sh_X5_sum h 120 (0 : Int32) = some (nI (sm (fun p => gvn X p) (X.1 0 0))) := by
  have hP := hI.2.1
  refine lpE (fun n (s : Int32 × Int32) => b_X5_sum_4 n h 120 (0 : Int32) s.1 s.2) (fun p => (nI (sm (fun p => gvn X p) p), nI p)) _ (X.1 0 0) (fun n p hp => ?_) (fun n => ?_) 1000 0 (by omega) (by omega)
  · show f_X5_sum_4 (b_X5_sum_4 n) h 120 (0 : Int32) (nI (sm (fun p => gvn X p) p)) (nI p) = _
    unfold f_X5_sum_4 b_X5_sum_38
    rw [hm.1 0 (by decide), hm.1 1 (by decide), m_given hm hI (by omega), if_neg (nI_ge hp (by omega)), if_pos (by decide), Option.bind_some, nI_add, L1, nI_add]
    rfl
  · show f_X5_sum_4 (b_X5_sum_4 n) h 120 (0 : Int32) (nI (sm (fun p => gvn X p) (X.1 0 0))) (nI (X.1 0 0)) = _
    unfold f_X5_sum_4
    rw [hm.1 0 (by decide), if_pos (nI_le (Nat.le_refl _) (by omega))]
set_option maxHeartbeats 400000 in
theorem m_richest (hm : MR h X) (hI : Iv k X) : sh_X5_richestNow h 120 = some (rcI (rcs X (X.1 0 0))) := by
  have hP := hI.2.1
  refine lpE (fun n (s : Int32 × Int32) => b_X5_richestNow_5 n h 120 s.1 s.2) (fun p => (rcI (rcs X p), nI p)) _ (X.1 0 0) (fun n p hp => ?_) (fun n => ?_) 1000 0 (by omega) (by omega)
  · show f_X5_richestNow_5 (b_X5_richestNow_5 n) h 120 (rcI (rcs X p)) (nI p) = b_X5_richestNow_5 n h 120 (rcI (if rcs X p = 0 ∨ X.1 4 (rcs X p - 1) < X.1 4 p then p + 1 else rcs X p)) (nI (p + 1))
    unfold f_X5_richestNow_5 b_X5_richestNow_32 b_X5_richestNow_37
    have hl := rcs_le X p
    have h9 := (hI.2.2.2.2.2.2.2.2.1 p (by omega)).2.2.1
    rw [hm.1 0 (by decide), if_neg (nI_ge hp (by omega)), md_has hm (by omega), L1, nI_add]
    by_cases c : rcs X p = 0
    · rw [c, if_pos (by decide), if_pos (Or.inl rfl)]
      rfl
    · have e : rcI (rcs X p) = nI (rcs X p - 1) := by unfold rcI; rw [if_neg c]
      have h8 := (hI.2.2.2.2.2.2.2.2.1 (rcs X p - 1) (by omega)).2.2.1
      rw [e, if_neg (nI_pos (by omega)), md_has hm (by omega)]
      simp (disch := omega) only [L0, L1, L2, L3, L4, L5, L6, L7, L8, L9, L10, L11, L12, L13, L14, L15, L16, L20, L21, L42, L44, L48, L57, L59, L60, L63, L64, L99, L108, L112, L255, L462, L999, L9999, nI_add, pk_mul, nI_leI, nI_ltI, nI_eq, Option.bind_some]
      by_cases w : X.1 4 p ≤ X.1 4 (rcs X p - 1)
      · rw [if_pos w, if_neg (by omega), e]
      · rw [if_neg w, if_pos (by omega)]
        rfl
  · show f_X5_richestNow_5 (b_X5_richestNow_5 n) h 120 (rcI (rcs X (X.1 0 0))) (nI (X.1 0 0)) = _
    unfold f_X5_richestNow_5
    rw [hm.1 0 (by decide), if_pos (nI_le (Nat.le_refl _) (by omega))]
-- who has most of those who have more than t (-1, or a number)
def raf (X : St) (t : Option Nat) (i : Nat) : Nat := match t with
  | none => rcs X i
  | some n => if rcs X i ≠ 0 ∧ n < X.1 4 (rcs X i - 1) then rcs X i else 0
def thr (t : Option Nat) : Int32 := match t with
  | none => -1
  | some n => nI n
set_option maxHeartbeats 400000 in
theorem p_richest (hb : isV b) (hv : VR h b X) (hI : Iv k X) (t : Option Nat) (ht : ∀ n, t = some n → n < 1000) : sh_X3_richestAbove h b (thr t) = some (rcI (raf X t (X.1 0 0))) := by
  have hP := hI.2.1
  have r0 : raf X t 0 = 0 := by cases t <;> rfl
  have key : ∀ n p, p ≤ X.1 0 0 → X.1 0 0 - p < n → b_X3_richestAbove_8 n h b (rcI (raf X t p)) (if raf X t p = 0 then thr t else nI (X.1 4 (raf X t p - 1))) (nI p) = some (rcI (raf X t (X.1 0 0))) := by
    refine lpE (fun n (s : Int32 × Int32 × Int32) => b_X3_richestAbove_8 n h b s.1 s.2.1 s.2.2) (fun p => (rcI (raf X t p), (if raf X t p = 0 then thr t else nI (X.1 4 (raf X t p - 1))), nI p)) _ (X.1 0 0) (fun n p hp => ?_) (fun n => ?_)
    · show f_X3_richestAbove_8 (b_X3_richestAbove_8 n) h b (rcI (raf X t p)) (if raf X t p = 0 then thr t else nI (X.1 4 (raf X t p - 1))) (nI p) = b_X3_richestAbove_8 n h b (rcI (raf X t (p + 1))) (if raf X t (p + 1) = 0 then thr t else nI (X.1 4 (raf X t (p + 1) - 1))) (nI (p + 1))
      unfold f_X3_richestAbove_8 b_X3_richestAbove_39
      have hl := rcs_le X p
      have h9 := (hI.2.2.2.2.2.2.2.2.1 p (by omega)).2.2.1
      rw [hv.1, if_neg (nI_ge hp (by omega)), ld_has hb hv (by omega), Option.bind_some, Option.bind_some, L1, nI_add]
      have step : ∀ c, (nI (X.1 4 p) ≤ (if raf X t p = 0 then thr t else nI (X.1 4 (raf X t p - 1))) ↔ c = true) → (c = true → raf X t (p + 1) = raf X t p) → (c = false → raf X t (p + 1) = p + 1) → (if nI (X.1 4 p) ≤ (if raf X t p = 0 then thr t else nI (X.1 4 (raf X t p - 1))) then b_X3_richestAbove_8 n h b (rcI (raf X t p)) (if raf X t p = 0 then thr t else nI (X.1 4 (raf X t p - 1))) (nI (p + 1)) else b_X3_richestAbove_8 n h b (nI p) (nI (X.1 4 p)) (nI (p + 1))) = b_X3_richestAbove_8 n h b (rcI (raf X t (p + 1))) (if raf X t (p + 1) = 0 then thr t else nI (X.1 4 (raf X t (p + 1) - 1))) (nI (p + 1)) := by
        intro c h1 h2 h3
        cases c with
        | true => rw [if_pos (h1.mpr rfl), h2 rfl]
        | false =>
          rw [if_neg (fun z => by have := h1.mp z; cases this), h3 rfl]
          rfl
      have rs : rcs X (p + 1) = if rcs X p = 0 ∨ X.1 4 (rcs X p - 1) < X.1 4 p then p + 1 else rcs X p := rfl
      cases t with
      | none =>
        by_cases c : rcs X p = 0
        · refine step false ?_ (fun z => by cases z) (fun _ => ?_)
          · show nI (X.1 4 p) ≤ (if rcs X p = 0 then (-1 : Int32) else _) ↔ _
            rw [if_pos c]
            refine ⟨fun z => absurd z ?_, fun z => by cases z⟩
            rw [Int32.le_iff_toInt_le, nI_toInt (by omega), show (-1 : Int32).toInt = -1 by decide]
            omega
          · show rcs X (p + 1) = p + 1
            rw [rs, if_pos (Or.inl c)]
        · have h8 := (hI.2.2.2.2.2.2.2.2.1 (rcs X p - 1) (by omega)).2.2.1
          by_cases w : X.1 4 p ≤ X.1 4 (rcs X p - 1)
          · refine step true ?_ (fun _ => ?_) (fun z => by cases z)
            · show nI (X.1 4 p) ≤ (if rcs X p = 0 then (-1 : Int32) else nI (X.1 4 (rcs X p - 1))) ↔ _
              rw [if_neg c, nI_leI (by omega) (by omega)]
              exact ⟨fun _ => rfl, fun _ => w⟩
            · show rcs X (p + 1) = rcs X p
              rw [rs, if_neg (by omega)]
          · refine step false ?_ (fun z => by cases z) (fun _ => ?_)
            · show nI (X.1 4 p) ≤ (if rcs X p = 0 then (-1 : Int32) else nI (X.1 4 (rcs X p - 1))) ↔ _
              rw [if_neg c, nI_leI (by omega) (by omega)]
              exact ⟨fun z => absurd z w, fun z => by cases z⟩
            · show rcs X (p + 1) = p + 1
              rw [rs, if_pos (by omega)]
      | some m =>
        have hm := ht m rfl
        have u : ∀ i, raf X (some m) i = if rcs X i ≠ 0 ∧ m < X.1 4 (rcs X i - 1) then rcs X i else 0 := fun _ => rfl
        have tm : thr (some m) = nI m := rfl
        by_cases c : rcs X p = 0
        · have z0 : raf X (some m) p = 0 := by rw [u, if_neg (fun z => z.1 c)]
          have z1 : rcs X (p + 1) = p + 1 := by rw [rs, if_pos (Or.inl c)]
          by_cases w : X.1 4 p ≤ m
          · refine step true ?_ (fun _ => ?_) (fun z => by cases z)
            · rw [if_pos z0, tm, nI_leI (by omega) (by omega)]
              exact ⟨fun _ => rfl, fun _ => w⟩
            · rw [z0, u, z1, Nat.add_sub_cancel, if_neg (by omega)]
          · refine step false ?_ (fun z => by cases z) (fun _ => ?_)
            · rw [if_pos z0, tm, nI_leI (by omega) (by omega)]
              exact ⟨fun z => absurd z w, fun z => by cases z⟩
            · rw [u, z1, Nat.add_sub_cancel, if_pos (by omega)]
        · have h8 := (hI.2.2.2.2.2.2.2.2.1 (rcs X p - 1) (by omega)).2.2.1
          by_cases v : m < X.1 4 (rcs X p - 1)
          · have z0 : raf X (some m) p = rcs X p := by rw [u, if_pos ⟨c, v⟩]
            by_cases w : X.1 4 p ≤ X.1 4 (rcs X p - 1)
            · refine step true ?_ (fun _ => ?_) (fun z => by cases z)
              · rw [z0, if_neg c, nI_leI (by omega) (by omega)]
                exact ⟨fun _ => rfl, fun _ => w⟩
              · rw [z0, u, rs, if_neg (show ¬ (rcs X p = 0 ∨ X.1 4 (rcs X p - 1) < X.1 4 p) by omega), if_pos ⟨c, v⟩]
            · refine step false ?_ (fun z => by cases z) (fun _ => ?_)
              · rw [z0, if_neg c, nI_leI (by omega) (by omega)]
                exact ⟨fun z => absurd z w, fun z => by cases z⟩
              · rw [u, rs, if_pos (show rcs X p = 0 ∨ X.1 4 (rcs X p - 1) < X.1 4 p by omega), Nat.add_sub_cancel, if_pos (by omega)]
          · have z0 : raf X (some m) p = 0 := by rw [u, if_neg (fun z => v z.2)]
            by_cases w : X.1 4 p ≤ m
            · refine step true ?_ (fun _ => ?_) (fun z => by cases z)
              · rw [if_pos z0, tm, nI_leI (by omega) (by omega)]
                exact ⟨fun _ => rfl, fun _ => w⟩
              · rw [z0, u, rs]
                by_cases q : rcs X p = 0 ∨ X.1 4 (rcs X p - 1) < X.1 4 p
                · rw [if_pos q, Nat.add_sub_cancel, if_neg (by omega)]
                · rw [if_neg q, if_neg (by omega)]
            · refine step false ?_ (fun z => by cases z) (fun _ => ?_)
              · rw [if_pos z0, tm, nI_leI (by omega) (by omega)]
                exact ⟨fun z => absurd z w, fun z => by cases z⟩
              · rw [u, rs, if_pos (show rcs X p = 0 ∨ X.1 4 (rcs X p - 1) < X.1 4 p by omega), Nat.add_sub_cancel, if_pos (by omega)]
    · show f_X3_richestAbove_8 (b_X3_richestAbove_8 n) h b (rcI (raf X t (X.1 0 0))) _ (nI (X.1 0 0)) = _
      unfold f_X3_richestAbove_8
      rw [hv.1, if_pos (nI_le (Nat.le_refl _) (by omega))]
  have := key 1000 0 (by omega) (by omega)
  rw [r0] at this
  exact this
end VS
