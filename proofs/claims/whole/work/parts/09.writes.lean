/-! PURE: the class's villages: what is written -/
set_option maxHeartbeats 400000 in
theorem ldJ_n {h : Hp} {a j : Nat} (hj : j < len a) (h2 : j < 1000) : ldJ h a (nI j) = some (h.2.1 a j) := by
  unfold ldJ
  rw [nI_clamp (by omega), if_neg (fun z => z.elim (fun z => nI_pos (by omega) z) (fun z => by omega))]
set_option maxHeartbeats 400000 in
theorem stI_n {h : Hp} {a j : Nat} {v : Int32} (hj : j < len a) (h2 : j < 1000) : stI h a (nI j) v = some (wI h a j v) := by
  unfold stI
  rw [nI_clamp (by omega), if_neg (fun z => z.elim (fun z => nI_pos (by omega) z) (fun z => by omega))]
set_option maxHeartbeats 400000 in
theorem stJ_n {h : Hp} {a j : Nat} {v : Int64} (hj : j < len a) (h2 : j < 1000) : stJ h a (nI j) v = some (wJ h a j v) := by
  unfold stJ
  rw [nI_clamp (by omega), if_neg (fun z => z.elim (fun z => nI_pos (by omega) z) (fun z => by omega))]
set_option maxHeartbeats 400000 in
theorem acI_n {h : Hp} {a0 a1 sp dp n : Nat} (h1 : sp + n ≤ len a0) (h2 : dp + n ≤ len a1) (h3 : sp + dp + n < 2000) : acI h a0 (nI sp) a1 (nI dp) (nI n) = some (cpI h a0 sp a1 dp n) := by
  unfold acI
  rw [nI_clamp (by omega), nI_clamp (by omega), nI_clamp (by omega), if_neg]
  rintro (z | z | z | z | z)
  · exact nI_pos (by omega) z
  · exact nI_pos (by omega) z
  · exact nI_pos (by omega) z
  · omega
  · omega
set_option maxHeartbeats 400000 in
theorem acJ_n {h : Hp} {a0 a1 sp dp n : Nat} (h1 : sp + n ≤ len a0) (h2 : dp + n ≤ len a1) (h3 : sp + dp + n < 2000) : acJ h a0 (nI sp) a1 (nI dp) (nI n) = some (cpJ h a0 sp a1 dp n) := by
  unfold acJ
  rw [nI_clamp (by omega), nI_clamp (by omega), nI_clamp (by omega), if_neg]
  rintro (z | z | z | z | z)
  · exact nI_pos (by omega) z
  · exact nI_pos (by omega) z
  · exact nI_pos (by omega) z
  · omega
  · omega
set_option maxHeartbeats 400000 in
theorem rdCI (h : Hp) (a0 sp a1 dp n k j : Nat) : (cpI h a0 sp a1 dp n).1 k j = if k = a1 ∧ dp ≤ j ∧ j < dp + n then h.1 a0 (sp + (j - dp)) else h.1 k j := by
  unfold cpI va_cpy
  by_cases e : k = a1
  · simp only [e, if_true, true_and]
  · simp [e]
set_option maxHeartbeats 400000 in
theorem rdCJ (h : Hp) (a0 sp a1 dp n k j : Nat) : (cpJ h a0 sp a1 dp n).2.1 k j = if k = a1 ∧ dp ≤ j ∧ j < dp + n then h.2.1 a0 (sp + (j - dp)) else h.2.1 k j := by
  unfold cpJ va_cpy
  by_cases e : k = a1
  · simp only [e, if_true, true_and]
  · simp [e]
set_option maxHeartbeats 400000 in
theorem cpI_2 (h : Hp) (a0 sp a1 dp n : Nat) : (cpI h a0 sp a1 dp n).2 = h.2 := rfl
set_option maxHeartbeats 400000 in
theorem cpJ_1 (h : Hp) (a0 sp a1 dp n : Nat) : (cpJ h a0 sp a1 dp n).1 = h.1 := rfl
set_option maxHeartbeats 400000 in
theorem cpJ_22 (h : Hp) (a0 sp a1 dp n : Nat) : (cpJ h a0 sp a1 dp n).2.2 = h.2.2 := rfl
set_option maxHeartbeats 400000 in
theorem lg_z (x y : Int64) : lg_cmp x y = nI 0 ↔ x = y := by
  unfold lg_cmp
  by_cases h1 : x > y
  · rw [if_pos h1]
    refine ⟨fun e => absurd e (by decide), fun e => ?_⟩
    subst e
    exact absurd h1 (by simp)
  · rw [if_neg h1]
    by_cases h2 : x = y
    · rw [if_pos h2]
      exact ⟨fun _ => h2, fun _ => rfl⟩
    · rw [if_neg h2]
      exact ⟨fun e => absurd e (by decide), fun e => absurd e h2⟩
set_option maxHeartbeats 400000 in
theorem and0 (z w : Int64) : (z &&& w = 0) ↔ ∀ i, i < 64 → (z.toBitVec.getLsbD i && w.toBitVec.getLsbD i) = false := by
  rw [← Int64.toBitVec_inj, Int64.toBitVec_and]
  constructor
  · intro e i hi
    rw [← BitVec.getLsbD_and, e]
    simp
  · intro e
    apply BitVec.eq_of_getLsbD_eq
    intro i hi
    rw [BitVec.getLsbD_and, e i hi]
    simp
set_option maxHeartbeats 400000 in
theorem or_and0 (x y m : Int64) : (x ||| y) &&& m = 0 ↔ (x &&& m = 0 ∧ y &&& m = 0) := by
  rw [and0, and0, and0, Int64.toBitVec_or]
  constructor
  · intro e
    refine ⟨fun i hi => ?_, fun i hi => ?_⟩
    · have := e i hi
      rw [BitVec.getLsbD_or] at this
      revert this
      cases x.toBitVec.getLsbD i <;> cases y.toBitVec.getLsbD i <;> cases m.toBitVec.getLsbD i <;> simp
    · have := e i hi
      rw [BitVec.getLsbD_or] at this
      revert this
      cases x.toBitVec.getLsbD i <;> cases y.toBitVec.getLsbD i <;> cases m.toBitVec.getLsbD i <;> simp
  · rintro ⟨e1, e2⟩ i hi
    have h1 := e1 i hi
    have h2 := e2 i hi
    rw [BitVec.getLsbD_or]
    revert h1 h2
    cases x.toBitVec.getLsbD i <;> cases y.toBitVec.getLsbD i <;> cases m.toBitVec.getLsbD i <;> simp
set_option maxHeartbeats 400000 in
theorem zero_and0 (m : Int64) : (0 : Int64) &&& m = 0 := by
  rw [and0]
  intro i _
  simp
set_option maxHeartbeats 400000 in
theorem bitm_and : ∀ i, i < 36 → ∀ j, j < 36 → (bitm i &&& bitm j = 0 ↔ i ≠ j) := by decide +kernel
/-! a village but for its counts -/
def VA (h : Hp) (b : Nat) (X : St) : Prop :=
  h.1 b 7 = nI (X.1 0 0) ∧ h.1 b 8 = nI (X.1 0 1) ∧ (∀ j, j < 4 → h.1 (b + 6) j = nI (X.1 0 (2 + j))) ∧ (∀ k p, 1 ≤ k → k ≤ 5 → p < 6 → h.1 (b + k) p = nI (X.1 k p)) ∧
  (∀ a p q, a < 6 → p < 6 → q < 7 → h.1 (b + 8) (a * 42 + p * 7 + q) = nI (X.2 a p q)) ∧ (∀ a p q, a < 11 → p < 6 → q < 6 → (h.2.1 (b + 10) a &&& bitm (p * 6 + q) = 0 ↔ X.2 a p q = 0))
def VC (h : Hp) (b : Nat) (X : St) : Prop := ∀ a p, 1 ≤ a → a < 6 → p < 6 → h.1 (b + 9) (a * 6 + p) = nI (cnt X a p)
set_option maxHeartbeats 400000 in
theorem VR.va {h : Hp} {b : Nat} {X : St} (v : VR h b X) : VA h b X := ⟨v.1, v.2.1, v.2.2.1, v.2.2.2.1, v.2.2.2.2.1, v.2.2.2.2.2.2⟩
set_option maxHeartbeats 400000 in
theorem VR.vc {h : Hp} {b : Nat} {X : St} (v : VR h b X) : VC h b X := v.2.2.2.2.2.1
set_option maxHeartbeats 400000 in
theorem VR.mk {h : Hp} {b : Nat} {X : St} (v : VA h b X) (c : VC h b X) : VR h b X := ⟨v.1, v.2.1, v.2.2.1, v.2.2.2.1, v.2.2.2.2.1, c, v.2.2.2.2.2⟩
set_option maxHeartbeats 400000 in
theorem cb_congr {X Y : St} {a p q : Nat} (h4 : X.1 0 4 = Y.1 0 4) (hG : ∀ e, a ≤ e → X.2 e q p = Y.2 e q p) : cb X a p q = cb Y a p q := by
  unfold cb
  rw [h4]
  congr 1
  refine List.any_congr rfl ?_
  intro i
  rw [hG (a + i) (by omega)]
set_option maxHeartbeats 400000 in
theorem cnt_congr {X Y : St} {a : Nat} (h4 : X.1 0 4 = Y.1 0 4) (hG : ∀ e p q, a ≤ e → X.2 e p q = Y.2 e p q) (p : Nat) : cnt X a p = cnt Y a p := by
  unfold cnt
  rw [hG a p 6 (Nat.le_refl a)]
  congr 1
  refine sm_congr (fun q _ => ?_)
  rw [cb_congr h4 (fun e he => hG e q p he), hG a p q (Nat.le_refl a)]
set_option maxHeartbeats 400000 in
theorem VC.congr {h h' : Hp} {b : Nat} {X Y : St} (v : VC h b X) (hh : ∀ j, h'.1 (b + 9) j = h.1 (b + 9) j) (h4 : X.1 0 4 = Y.1 0 4) (hG : ∀ e p q, 1 ≤ e → X.2 e p q = Y.2 e p q) : VC h' b Y := by
  intro a p h1 h2 h3
  rw [hh, v a p h1 h2 h3, cnt_congr h4 (fun e p q he => hG e p q (by omega)) p]
section VW
variable {h : Hp} {b k : Nat} {X : St}
set_option maxHeartbeats 400000 in
theorem up1_ne {f : Nat → Nat → Nat} {k i v k' i' : Nat} (hn : ¬ (k' = k ∧ i' = i)) : up1 f k i v k' i' = f k' i' := if_neg hn
set_option maxHeartbeats 400000 in
theorem up1_at (f : Nat → Nat → Nat) (k i v : Nat) : up1 f k i v k i = v := if_pos ⟨rfl, rfl⟩
-- one of kind, figure, to, has, finds is written
set_option maxHeartbeats 400000 in
theorem VA.fld (hv : VA h b X) {c p v : Nat} (h1 : 1 ≤ c) (h5 : c ≤ 5) : VA (wI h (b + c) p (nI v)) b (up1 X.1 c p v, X.2) := by
  obtain ⟨v1, v2, v3, v4, v5, v6⟩ := hv
  refine ⟨?_, ?_, fun j hj => ?_, fun k q hk1 hk5 hq => ?_, fun a p q ha hp hq => ?_, v6⟩ <;> (try dsimp only)
  · rw [rdI, if_neg (by omega), v1, up1_ne (by omega)]
  · rw [rdI, if_neg (by omega), v2, up1_ne (by omega)]
  · rw [rdI, if_neg (by omega), v3 j hj, up1_ne (by omega)]
  · rw [rdI]
    by_cases e : k = c ∧ q = p
    · rw [e.1, e.2, if_pos ⟨rfl, rfl⟩, up1_at]
    · rw [if_neg (by omega), v4 k q hk1 hk5 hq, up1_ne (by omega)]
  · rw [rdI, if_neg (by omega), v5 a p q ha hp hq]
set_option maxHeartbeats 400000 in
theorem VR.fld (hv : VR h b X) {c p v : Nat} (h1 : 1 ≤ c) (h5 : c ≤ 5) : VR (wI h (b + c) p (nI v)) b (up1 X.1 c p v, X.2) :=
  VR.mk (hv.va.fld h1 h5) (hv.vc.congr (fun j => by rw [rdI, if_neg (by omega)]) (show X.1 0 4 = up1 X.1 _ _ _ 0 4 from (up1_ne (by omega)).symm) (fun _ _ _ _ => rfl))
-- a setting is written
set_option maxHeartbeats 400000 in
theorem VA.set (hv : VA h b X) {j v : Nat} (hj : j < 4) : VA (wI h (b + 6) j (nI v)) b (up1 X.1 0 (2 + j) v, X.2) := by
  obtain ⟨v1, v2, v3, v4, v5, v6⟩ := hv
  refine ⟨?_, ?_, fun i hi => ?_, fun k q hk1 hk5 hq => ?_, fun a p q ha hp hq => ?_, v6⟩ <;> (try dsimp only)
  · rw [rdI, if_neg (by omega), v1, up1_ne (by omega)]
  · rw [rdI, if_neg (by omega), v2, up1_ne (by omega)]
  · rw [rdI]
    by_cases e : i = j
    · rw [e, if_pos ⟨rfl, rfl⟩, up1_at]
    · rw [if_neg (by omega), v3 i hi, up1_ne (by omega)]
  · rw [rdI, if_neg (by omega), v4 k q hk1 hk5 hq, up1_ne (by omega)]
  · rw [rdI, if_neg (by omega), v5 a p q ha hp hq]
set_option maxHeartbeats 400000 in
theorem VR.set (hv : VR h b X) {j v : Nat} (hj : j < 4) (h2 : j ≠ 2) : VR (wI h (b + 6) j (nI v)) b (up1 X.1 0 (2 + j) v, X.2) :=
  VR.mk (hv.va.set hj) (hv.vc.congr (fun j => by rw [rdI, if_neg (by omega)]) (show X.1 0 4 = up1 X.1 _ _ _ 0 4 from (up1_ne (by omega)).symm) (fun _ _ _ _ => rfl))
set_option maxHeartbeats 400000 in
theorem VA.ppl (hv : VA h b X) (v : Nat) : VA (wI h b 7 (nI v)) b (up1 X.1 0 0 v, X.2) := by
  obtain ⟨v1, v2, v3, v4, v5, v6⟩ := hv
  refine ⟨?_, ?_, fun i hi => ?_, fun k q hk1 hk5 hq => ?_, fun a p q ha hp hq => ?_, v6⟩ <;> (try dsimp only)
  · rw [rdI, if_pos ⟨rfl, rfl⟩, up1_at]
  · rw [rdI, if_neg (by omega), v2, up1_ne (by omega)]
  · rw [rdI, if_neg (by omega), v3 i hi, up1_ne (by omega)]
  · rw [rdI, if_neg (by omega), v4 k q hk1 hk5 hq, up1_ne (by omega)]
  · rw [rdI, if_neg (by omega), v5 a p q ha hp hq]
set_option maxHeartbeats 400000 in
theorem VR.ppl (hv : VR h b X) (v : Nat) : VR (wI h b 7 (nI v)) b (up1 X.1 0 0 v, X.2) :=
  VR.mk (hv.va.ppl v) (hv.vc.congr (fun j => by rw [rdI, if_neg (by omega)]) (show X.1 0 4 = up1 X.1 0 0 v 0 4 from (up1_ne (by decide)).symm) (fun _ _ _ _ => rfl))
-- a gift
set_option maxHeartbeats 400000 in
theorem p_add (hb : isV b) (hv : VR h b X) {p q n : Nat} (hp : p < 6) (hq : q < 6 ∨ q = 9) (hn : 0 < n) : ∃ h', sh_X0_add h (rf b 6) (nI p) (nI q) (nI n) = some h' ∧ VR h' b (X.1, up3 X.2 0 p (col q) (X.2 0 p (col q) + n)) ∧ VF b h h' := by
  have key : ∀ c, c < 7 → c = col q → ∃ h', b_X0_add_12 h (rf b 6) (nI p) (nI q) (nI n) (nI c) = some h' ∧ VR h' b (X.1, up3 X.2 0 p c (X.2 0 p c + n)) ∧ VF b h h' := by
    intro c hc ec
    have e := ld_amt hb hv (show 0 < 6 by decide) hp hc
    rw [Nat.zero_mul, Nat.zero_add] at e
    unfold b_X0_add_12
    simp (disch := omega) only [L0, L1, L2, L3, L4, L5, L6, L7, L8, L9, L10, L11, L12, L13, L14, L15, L16, L20, L21, L42, L44, L48, L57, L59, L60, L63, L64, L99, L108, L112, L255, L462, L999, L9999, nI_add, pk_mul, nI_leI, nI_ltI, nI_eq, Option.bind_some, e]
    simp only [rg0 hb, rg2 hb]
    rw [stI_n (by rw [vl8 hb]; omega) (by omega)]
    simp (disch := omega) only [L0, L1, L2, L3, L4, L5, L6, L7, L8, L9, L10, L11, L12, L13, L14, L15, L16, L20, L21, L42, L44, L48, L57, L59, L60, L63, L64, L99, L108, L112, L255, L462, L999, L9999, nI_add, pk_mul, nI_leI, nI_ltI, nI_eq, Option.bind_some]
    have hw0 : h.1 (b + 8) (p * 7 + c) = nI (X.2 0 p c) := by
      have := hv.2.2.2.2.1 0 p c (by decide) hp hc
      rw [Nat.zero_mul, Nat.zero_add] at this
      exact this
    have v5' : ∀ a p' q', a < 6 → p' < 6 → q' < 7 → (wI h (b + 8) (p * 7 + c) (nI (X.2 0 p c + n))).1 (b + 8) (a * 42 + p' * 7 + q') = nI (up3 X.2 0 p c (X.2 0 p c + n) a p' q') := by
      intro a p' q' ha hp' hq'
      rw [rdI]
      unfold up3
      by_cases e1 : a = 0 ∧ p' = p ∧ q' = c
      · rw [if_pos (by omega), if_pos e1]
      · rw [if_neg (by omega), if_neg e1, hv.2.2.2.2.1 a p' q' ha hp' hq']
    have vc' : ∀ h' : Hp, (∀ j, h'.1 (b + 9) j = h.1 (b + 9) j) → VC h' b (X.1, up3 X.2 0 p c (X.2 0 p c + n)) := fun h' hh => hv.vc.congr hh rfl (fun e p' q' he => by
      show _ = up3 X.2 0 p c _ e p' q'
      unfold up3
      rw [if_neg (by omega)])
    by_cases e6 : c = 6
    · rw [if_pos e6]
      refine ⟨_, rfl, VR.mk ⟨?_, ?_, fun i hi => ?_, fun k q hk1 hk5 hq => ?_, v5', fun a p' q' ha hp' hq' => ?_⟩ (vc' _ (fun j => by rw [rdI, if_neg (by omega)])), VF.wI h _ _ (by omega) (by omega)⟩
      · rw [rdI, if_neg (by omega)]; exact hv.1
      · rw [rdI, if_neg (by omega)]; exact hv.2.1
      · rw [rdI, if_neg (by omega)]; exact hv.2.2.1 i hi
      · rw [rdI, if_neg (by omega)]; exact hv.2.2.2.1 k q hk1 hk5 hq
      · show _ ↔ up3 X.2 0 p c _ a p' q' = 0
        unfold up3
        rw [if_neg (by omega)]
        exact hv.va.2.2.2.2.2 a p' q' ha hp' hq'
    · rw [if_neg e6]
      rw [ldJ_n (by rw [vl10 hb]; omega) (by omega)]
      simp (disch := omega) only [L0, L1, L2, L3, L4, L5, L6, L7, L8, L9, L10, L11, L12, L13, L14, L15, L16, L20, L21, L42, L44, L48, L57, L59, L60, L63, L64, L99, L108, L112, L255, L462, L999, L9999, nI_add, pk_mul, nI_leI, nI_ltI, nI_eq, Option.bind_some]
      rw [stJ_n (by rw [vl10 hb]; omega) (by omega)]
      simp (disch := omega) only [L0, L1, L2, L3, L4, L5, L6, L7, L8, L9, L10, L11, L12, L13, L14, L15, L16, L20, L21, L42, L44, L48, L57, L59, L60, L63, L64, L99, L108, L112, L255, L462, L999, L9999, nI_add, pk_mul, nI_leI, nI_ltI, nI_eq, Option.bind_some]
      have ecq : c = q := by
        rw [ec]
        unfold col
        rw [if_neg]
        intro e
        exact e6 (by rw [ec, e]; rfl)
      refine ⟨_, rfl, VR.mk ⟨?_, ?_, fun i hi => ?_, fun k q hk1 hk5 hq => ?_, v5', fun a p' q' ha hp' hq' => ?_⟩ (vc' _ (fun j => by rw [wJ_1, rdI, if_neg (by omega)])), (VF.wI h _ _ (by omega) (by omega)).tr (VF.wJ _ _ _ (by omega) (by omega))⟩
      · rw [wJ_1, rdI, if_neg (by omega)]; exact hv.1
      · rw [wJ_1, rdI, if_neg (by omega)]; exact hv.2.1
      · rw [wJ_1, rdI, if_neg (by omega)]; exact hv.2.2.1 i hi
      · rw [wJ_1, rdI, if_neg (by omega)]; exact hv.2.2.2.1 k q hk1 hk5 hq
      · show _ ↔ up3 X.2 0 p c _ a p' q' = 0
        rw [rdJ]
        have hold := hv.va.2.2.2.2.2 a p' q' ha hp' hq'
        unfold up3
        by_cases ea : a = 0
        · subst ea
          rw [if_pos ⟨rfl, rfl⟩]
          rw [show ((wI h (b + 8) (p * 7 + c) (nI (X.2 0 p c + n))).2.1 (b + 10) 0) = h.2.1 (b + 10) 0 from rfl, or_and0, hold]
          rw [show ((1 : Int64) <<< ((nI (p * 6 + q)).toInt64 &&& 63)) = bitm (p * 6 + q) from rfl, bitm_and _ (by omega) _ (by omega)]
          by_cases e1 : p' = p ∧ q' = c
          · rw [if_pos ⟨rfl, e1⟩]
            constructor
            · intro z
              exact absurd z.2 (by omega)
            · intro z
              omega
          · rw [if_neg (by omega)]
            constructor
            · exact fun z => z.1
            · intro z
              exact ⟨z, by omega⟩
        · rw [if_neg (by omega), if_neg (by omega)]
          exact hold
  unfold sh_X0_add
  simp (disch := omega) only [L0, L1, L2, L3, L4, L5, L6, L7, L8, L9, L10, L11, L12, L13, L14, L15, L16, L20, L21, L42, L44, L48, L57, L59, L60, L63, L64, L99, L108, L112, L255, L462, L999, L9999, nI_add, pk_mul, nI_leI, nI_ltI, nI_eq, Option.bind_some]
  by_cases e9 : q = 9
  · rw [if_pos e9]
    have hc : col q = 6 := by unfold col; rw [if_pos e9]
    rw [hc]
    exact key 6 (by decide) hc.symm
  · rw [if_neg e9]
    have hc : col q = q := by unfold col; rw [if_neg e9]
    rw [hc]
    exact key q (by omega) hc.symm
set_option maxHeartbeats 400000 in
theorem p_hand (hb : isV b) (hv : VR h b X) {p q n : Nat} (hp : p < 6) (hq : q < 6 ∨ q = 9) (hn : 0 < n) (hle : n ≤ X.1 4 p) : ∃ h', sh_X3_hand h b (nI p) (nI q) (nI n) = some h' ∧ VR h' b (adG X p (col q) n) ∧ VF b h h' := by
  unfold sh_X3_hand
  simp (disch := omega) only [L0, L1, L2, L3, L4, L5, L6, L7, L8, L9, L10, L11, L12, L13, L14, L15, L16, L20, L21, L42, L44, L48, L57, L59, L60, L63, L64, L99, L108, L112, L255, L462, L999, L9999, nI_add, pk_mul, nI_leI, nI_ltI, nI_eq, Option.bind_some, ld_has hb hv]
  rw [pk_sub hle, rf3 hb, stI_n (by rw [vl4 hb]; exact hp) (by omega)]
  simp (disch := omega) only [L0, L1, L2, L3, L4, L5, L6, L7, L8, L9, L10, L11, L12, L13, L14, L15, L16, L20, L21, L42, L44, L48, L57, L59, L60, L63, L64, L99, L108, L112, L255, L462, L999, L9999, nI_add, pk_mul, nI_leI, nI_ltI, nI_eq, Option.bind_some]
  obtain ⟨h', e, h1, h2⟩ := p_add hb (hv.fld (c := 4) (p := p) (v := X.1 4 p - n) (by decide) (by decide)) hp hq hn
  rw [e]
  exact ⟨h', rfl, h1, (VF.wI h _ _ (by omega) (by omega)).tr h2⟩
set_option maxHeartbeats 400000 in
theorem p_handIf (hb : isV b) (hv : VR h b X) {p q n : Nat} (hp : p < 6) (hq : q < 6 ∨ q = 9) (hle : n ≤ X.1 4 p) (h9 : X.1 4 p ≤ 9999) : ∃ h', sh_X3_handIfAny h b (nI p) (nI q) (nI n) = some h' ∧ VR h' b (giv X p q n) ∧ VF b h h' := by
  unfold sh_X3_handIfAny giv
  simp (disch := omega) only [L0, L1, L2, L3, L4, L5, L6, L7, L8, L9, L10, L11, L12, L13, L14, L15, L16, L20, L21, L42, L44, L48, L57, L59, L60, L63, L64, L99, L108, L112, L255, L462, L999, L9999, nI_add, pk_mul, nI_leI, nI_ltI, nI_eq, Option.bind_some]
  by_cases e : q = p
  · rw [if_pos e, if_pos (Or.inl e)]
    exact ⟨h, rfl, hv, VF.rf b h⟩
  · rw [if_neg e]
    by_cases e0 : n = 0
    · rw [if_pos (by omega), if_pos (Or.inr e0)]
      exact ⟨h, rfl, hv, VF.rf b h⟩
    · rw [if_neg (by omega), if_neg (by omega)]
      obtain ⟨h', e, h1, h2⟩ := p_hand hb hv hp hq (by omega) hle
      rw [e]
      exact ⟨h', rfl, h1, h2⟩
end VW
