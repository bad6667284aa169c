/-! PURE: the class and the reference side by side -/
-- what no answer rests on from one call to the next
def Jn (c j : Nat) : Prop := (1 ≤ c ∧ c ≤ 4) ∨ (c = 5 ∧ j = 2) ∨ c = 7 ∨ (32 ≤ c ∧ c < 120) ∨ (c = 120 ∧ (j = 12 ∨ j = 13 ∨ j = 17 ∨ j = 18 ∨ j = 22 ∨ j = 23 ∨ j = 24 ∨ j = 28 ∨ j = 30 ∨ j = 31 ∨ j = 32 ∨ j = 35)) ∨ c = 128 ∨ c = 129 ∨ c = 131 ∨ c = 132 ∨ c = 133 ∨ c = 134 ∨ (c = 125 ∧ 6 ≤ j) ∨ (c = 126 ∧ 462 ≤ j)
def Eq1 (h h' : Hp) : Prop := (∀ c j, ¬ Jn c j → h'.1 c j = h.1 c j) ∧ (∀ c j, c ≤ 31 → h'.2.1 c j = h.2.1 c j)
set_option maxHeartbeats 400000 in
theorem Eq1.rf (h : Hp) : Eq1 h h := ⟨fun _ _ _ => rfl, fun _ _ _ => rfl⟩
set_option maxHeartbeats 400000 in
theorem Eq1.tr {h h1 h2 : Hp} (a : Eq1 h h1) (c : Eq1 h1 h2) : Eq1 h h2 := ⟨fun k j q => (c.1 k j q).trans (a.1 k j q), fun k j q => (c.2 k j q).trans (a.2 k j q)⟩
set_option maxHeartbeats 400000 in
theorem Eq1.wI (h : Hp) {c : Nat} (j : Nat) (v : Int32) (hc : Jn c j) : Eq1 h (wI h c j v) := ⟨fun k i q => by
  rw [rdI, if_neg]
  rintro ⟨rfl, rfl⟩
  exact q hc, fun _ _ _ => rfl⟩
set_option maxHeartbeats 400000 in
theorem Eq1.vf {h h' : Hp} {b : Nat} (v : VF b h h') (hb : 32 ≤ b) (hb2 : b + 11 ≤ 120) : Eq1 h h' := ⟨fun c j q => v.1 c j (by unfold Jn at q; omega), fun c j q => v.2.1 c j (by omega)⟩
set_option maxHeartbeats 400000 in
theorem nJ {c j : Nat} (h : ¬ Jn c j) : ¬ Jn c j := h
def LTR (h : Hp) : Prop := ∃ L, L ≤ 64 ∧ h.1 5 1 = nI L ∧ h.1 120 21 = nI L ∧ ∀ j, j < L → h.1 6 j = h.1 130 j
def RWR (h : Hp) : Prop := ∃ R, R ≤ 12 ∧ h.1 0 8 = nI R ∧ h.1 120 34 = nI R ∧ ∀ j, j < R → ∃ v, v ≤ 9999 ∧ h.1 8 j = nI v ∧ h.1 135 j = nI v
def RFR (h : Hp) : Prop := ∀ j, j < 7 → h.1 9 j = h.1 127 j
def MI (h : Hp) (Y : St) : Prop := h.1 136 0 = nI (Y.1 0 1) ∧ h.1 136 1 = nI (Y.1 0 2) ∧ h.1 136 2 = nI (Y.1 0 4) ∧ (∀ p, p < 6 → h.1 136 (4 + p) = nI (Y.1 4 p)) ∧ (∀ a p q, a ≤ 10 → a ≤ Y.1 0 1 → p < 6 → q < 7 → h.1 136 (10 + (42 * ((Y.1 0 1 - a) % 11) + 7 * p + q)) = nI (Y.2 a p q)) ∧ h.1 137 0 = nI (Y.1 0 0) ∧ h.1 137 1 = nI (Y.1 0 3) ∧ h.1 137 2 = nI (Y.1 0 5) ∧ (∀ p, p < 6 → h.1 137 (3 + p) = nI (Y.1 1 p) ∧ h.1 137 (9 + p) = nI (Y.1 2 p) ∧ h.1 137 (15 + p) = nI (Y.1 5 p) ∧ h.1 137 (21 + p) = nI (Y.1 3 p))
def IMR (k : Nat) (h : Hp) (Y : St) : Prop := (h.1 0 9 = nI 0 ∧ h.1 120 36 = nI 0) ∨ (h.1 0 9 = nI 1 ∧ h.1 120 36 = nI 1 ∧ Iv k Y ∧ VR h 21 Y ∧ MI h Y)
def Gi (k : Nat) (h : Hp) (X Y : St) : Prop := Iv k X ∧ VR h 10 X ∧ MR h X ∧ IMR k h Y ∧ LTR h ∧ RWR h ∧ RFR h
set_option maxHeartbeats 400000 in
theorem VR.same {h h' : Hp} {b : Nat} {X : St} (v : VR h b X) (e1 : ∀ c j, b ≤ c → c < b + 11 → h'.1 c j = h.1 c j) (e2 : ∀ j, h'.2.1 (b + 10) j = h.2.1 (b + 10) j) : VR h' b X := by
  obtain ⟨v1, v2, v3, v4, v5, v6, v7⟩ := v
  refine ⟨?_, ?_, fun j hj => ?_, fun k p h1 h2 h3 => ?_, fun a p q h1 h2 h3 => ?_, fun a p h1 h2 h3 => ?_, fun a p q h1 h2 h3 => ?_⟩
  · rw [e1 b 7 (by omega) (by omega)]; exact v1
  · rw [e1 b 8 (by omega) (by omega)]; exact v2
  · rw [e1 (b + 6) j (by omega) (by omega)]; exact v3 j hj
  · rw [e1 (b + k) p (by omega) (by omega)]; exact v4 k p h1 h2 h3
  · rw [e1 (b + 8) _ (by omega) (by omega)]; exact v5 a p q h1 h2 h3
  · rw [e1 (b + 9) _ (by omega) (by omega)]; exact v6 a p h1 h2 h3
  · rw [e2]; exact v7 a p q h1 h2 h3
set_option maxHeartbeats 400000 in
theorem MR.of2 {h h' : Hp} {X : St} (hm : MR h X) (e1 : ∀ j, j < 6 → h'.1 120 j = h.1 120 j) (e2 : ∀ c j, 121 ≤ c → c ≤ 125 → j < 6 → h'.1 c j = h.1 c j) (e3 : ∀ j, j < 462 → h'.1 126 j = h.1 126 j) : MR h' X :=
  ⟨fun j hj => by rw [e1 j hj, hm.1 j hj], fun p hp => by rw [e2 121 p (by decide) (by decide) hp, e2 122 p (by decide) (by decide) hp, e2 123 p (by decide) (by decide) hp, e2 124 p (by decide) (by decide) hp, e2 125 p (by decide) (by decide) hp]; exact hm.2.1 p hp,
    fun a p q h1 h2 h3 h4 => by
      have : (X.1 0 1 - a) % 11 < 11 := Nat.mod_lt _ (by decide)
      rw [e3 _ (by omega)]
      exact hm.2.2 a p q h1 h2 h3 h4⟩
set_option maxHeartbeats 400000 in
theorem MI.same {h h' : Hp} {Y : St} (v : MI h Y) (e1 : ∀ j, h'.1 136 j = h.1 136 j) (e2 : ∀ j, h'.1 137 j = h.1 137 j) : MI h' Y := by
  unfold MI at v ⊢
  simp only [e1, e2]
  exact v
section GJ
variable {h h' : Hp} {k : Nat} {X Y : St}
set_option maxHeartbeats 400000 in
theorem Gi.eq (g : Gi k h X Y) (e : Eq1 h h') : Gi k h' X Y := by
  obtain ⟨g1, g2, g3, g4, g5, g6, g7⟩ := g
  have e1 : ∀ c j, ¬ Jn c j → h'.1 c j = h.1 c j := e.1
  refine ⟨g1, g2.same (fun c j h1 h2 => e1 c j (by unfold Jn; omega)) (fun j => e.2 _ j (by omega)), g3.of2 (fun j hj => e1 120 j (by unfold Jn; omega)) (fun c j h1 h2 h3 => e1 c j (by unfold Jn; omega)) (fun j hj => e1 126 j (by unfold Jn; omega)), ?_, ?_, ?_, fun j hj => ?_⟩
  · rcases g4 with ⟨a, b⟩ | ⟨a, b, c, d, f⟩
    · exact Or.inl ⟨by rw [e1 0 9 (by unfold Jn; omega)]; exact a, by rw [e1 120 36 (by unfold Jn; omega)]; exact b⟩
    · exact Or.inr ⟨by rw [e1 0 9 (by unfold Jn; omega)]; exact a, by rw [e1 120 36 (by unfold Jn; omega)]; exact b, c, d.same (fun c j h1 h2 => e1 c j (by unfold Jn; omega)) (fun j => e.2 _ j (by omega)), f.same (fun j => e1 136 j (by unfold Jn; omega)) (fun j => e1 137 j (by unfold Jn; omega))⟩
  · obtain ⟨L, a, b, c, d⟩ := g5
    exact ⟨L, a, by rw [e1 5 1 (by unfold Jn; omega)]; exact b, by rw [e1 120 21 (by unfold Jn; omega)]; exact c, fun j hj => by rw [e1 6 j (by unfold Jn; omega), e1 130 j (by unfold Jn; omega)]; exact d j hj⟩
  · obtain ⟨L, a, b, c, d⟩ := g6
    exact ⟨L, a, by rw [e1 0 8 (by unfold Jn; omega)]; exact b, by rw [e1 120 34 (by unfold Jn; omega)]; exact c, fun j hj => by rw [e1 8 j (by unfold Jn; omega), e1 135 j (by unfold Jn; omega)]; exact d j hj⟩
  · rw [e1 9 j (by unfold Jn; omega), e1 127 j (by unfold Jn; omega)]
    exact g7 j hj
set_option maxHeartbeats 400000 in
theorem Gi.mono {k' : Nat} (g : Gi k h X Y) (h1 : k ≤ k') (h2 : k' ≤ 1000) : Gi k' h X Y := by
  obtain ⟨g1, g2, g3, g4, g5⟩ := g
  refine ⟨g1.mono h1 h2, g2, g3, ?_, g5⟩
  rcases g4 with a | ⟨a, b, c, d⟩
  · exact Or.inl a
  · exact Or.inr ⟨a, b, c.mono h1 h2, d⟩
def th (h : Hp) : Hp := wI h 120 13 (0 : Int32)
set_option maxHeartbeats 400000 in
theorem th_eq (h : Hp) : Eq1 h (th h) := Eq1.wI h _ _ (by unfold Jn; omega)
set_option maxHeartbeats 400000 in
theorem Gi.th (g : Gi k h X Y) : Gi k (th h) X Y := g.eq (th_eq h)
/-! refusals -/
def isR (r : Int32) : Prop := r = -1 ∨ r = -2 ∨ r = -3 ∨ r = -4 ∨ r = -6
set_option maxHeartbeats 400000 in
theorem c_refuse {r : Int32} (hr : isR r) (h : Hp) : ∃ j, j < 7 ∧ sh_X4_refuse h 0 r = some (r, wI h 9 j (h.1 9 j + 1)) ∧ ∀ h', sh_X5_refuse h' 120 r = some (r, wI h' 127 j (h'.1 127 j + 1)) := by
  have key : ∀ (r : Int32) (j : Nat), j < 7 → ¬ r < (-6 : Int32) → ¬ (-1 : Int32) < r → -r = nI j → ∃ j, j < 7 ∧ sh_X4_refuse h 0 r = some (r, wI h 9 j (h.1 9 j + 1)) ∧ ∀ h', sh_X5_refuse h' 120 r = some (r, wI h' 127 j (h'.1 127 j + 1)) := by
    intro r j hj h1 h2 h3
    refine ⟨j, hj, ?_, fun h' => ?_⟩
    · unfold sh_X4_refuse b_X4_refuse_22
      rw [if_neg h1, if_neg h2, h3, show rf 0 7 = 9 from rfl, ldI_n (a := 9) hj (by omega), Option.bind_some, stI_n (a := 9) hj (by omega), Option.bind_some]
    · unfold sh_X5_refuse
      rw [h3, mf14, ldI_n (a := 127) hj (by omega), Option.bind_some, stI_n (a := 127) hj (by omega), Option.bind_some]
  rcases hr with rfl | rfl | rfl | rfl | rfl
  · exact key _ 1 (by decide) (by decide) (by decide) (by decide)
  · exact key _ 2 (by decide) (by decide) (by decide) (by decide)
  · exact key _ 3 (by decide) (by decide) (by decide) (by decide)
  · exact key _ 4 (by decide) (by decide) (by decide) (by decide)
  · exact key _ 6 (by decide) (by decide) (by decide) (by decide)
set_option maxHeartbeats 400000 in
theorem Gi.ref (g : Gi k h X Y) {j : Nat} (e : Eq1 (wI h 9 j (h.1 9 j + 1)) h') (hj : j < 7) : Gi k (wI h' 127 j (h'.1 127 j + 1)) X Y := by
  have g' : Gi k (wI (wI h 9 j (h.1 9 j + 1)) 127 j (h.1 127 j + 1)) X Y := by
    obtain ⟨g1, g2, g3, g4, g5, g6, g7⟩ := g
    have e1 : ∀ c i, c ≠ 9 → c ≠ 127 → (wI (wI h 9 j (h.1 9 j + 1)) 127 j (h.1 127 j + 1)).1 c i = h.1 c i := fun c i h1 h2 => by rw [rdI, if_neg (by omega), rdI, if_neg (by omega)]
    refine ⟨g1, g2.same (fun c j h1 h2 => e1 c j (by omega) (by omega)) (fun j => rfl), g3.of (fun j hj => e1 120 j (by omega) (by omega)) (fun c j h1 h2 => e1 c j (by omega) (by omega)), ?_, ?_, ?_, fun i hi => ?_⟩
    · rcases g4 with ⟨a, b⟩ | ⟨a, b, c, d, f⟩
      · exact Or.inl ⟨by rw [e1 0 9 (by omega) (by omega)]; exact a, by rw [e1 120 36 (by omega) (by omega)]; exact b⟩
      · exact Or.inr ⟨by rw [e1 0 9 (by omega) (by omega)]; exact a, by rw [e1 120 36 (by omega) (by omega)]; exact b, c, d.same (fun c j h1 h2 => e1 c j (by omega) (by omega)) (fun j => rfl), f.same (fun j => e1 136 j (by omega) (by omega)) (fun j => e1 137 j (by omega) (by omega))⟩
    · obtain ⟨L, a, b, c, d⟩ := g5
      exact ⟨L, a, by rw [e1 5 1 (by omega) (by omega)]; exact b, by rw [e1 120 21 (by omega) (by omega)]; exact c, fun j hj => by rw [e1 6 j (by omega) (by omega), e1 130 j (by omega) (by omega)]; exact d j hj⟩
    · obtain ⟨L, a, b, c, d⟩ := g6
      exact ⟨L, a, by rw [e1 0 8 (by omega) (by omega)]; exact b, by rw [e1 120 34 (by omega) (by omega)]; exact c, fun j hj => by rw [e1 8 j (by omega) (by omega), e1 135 j (by omega) (by omega)]; exact d j hj⟩
    · rw [rdI, if_neg (by omega), rdI, rdI, rdI]
      by_cases w : i = j
      · rw [if_pos ⟨rfl, w⟩, if_pos ⟨rfl, w⟩, g7 j hj]
      · rw [if_neg (by omega), if_neg (by omega), if_neg (by omega)]
        exact g7 i hi
  refine g'.eq ⟨fun c i q => ?_, fun c i q => ?_⟩
  · have h127 : h'.1 127 j = h.1 127 j := by rw [e.1 127 j (by unfold Jn; omega), rdI, if_neg (by omega)]
    rw [h127, rdI, rdI]
    by_cases w : c = 127 ∧ i = j
    · rw [if_pos w, if_pos w]
    · rw [if_neg w, if_neg w]
      exact e.1 c i q
  · exact e.2 c i q
-- both refuse, with the same number
set_option maxHeartbeats 400000 in
theorem both_refuse (g : Gi k h X Y) {r : Int32} (hr : isR r) : ∃ h1, sh_X4_refuse h 0 r = some (r, h1) ∧ ∀ h2, Eq1 h1 h2 → ∃ h3, sh_X5_refuse h2 120 r = some (r, h3) ∧ Gi k h3 X Y := by
  obtain ⟨j, hj, e1, e2⟩ := c_refuse hr h
  exact ⟨_, e1, fun h2 e => ⟨_, e2 h2, g.ref e hj⟩⟩
/-! who is there, what is within -/
set_option maxHeartbeats 400000 in
theorem m_in (h : Hp) (x : Int32) (lo hi : Int64) : sh_X5_in h x.toInt64 lo hi = some (nI (if lo.toInt ≤ x.toInt ∧ x.toInt ≤ hi.toInt then 1 else 0)) := by
  unfold sh_X5_in b_X5_in_17 b_X5_in_18
  have ex : x.toInt64.toInt = x.toInt := Int32.toInt_toInt64 x
  by_cases h1 : lg_cmp x.toInt64 lo < 0
  · rw [if_pos h1]
    have := (lg_cmp_lt _ _).mp h1
    rw [Int64.lt_iff_toInt_lt, ex] at this
    rw [if_neg (by omega)]
    rfl
  · rw [if_neg h1]
    have h1' : ¬ x.toInt64 < lo := fun z => h1 ((lg_cmp_lt _ _).mpr z)
    rw [Int64.lt_iff_toInt_lt, ex] at h1'
    by_cases h2 : 0 < lg_cmp x.toInt64 hi
    · rw [if_pos h2]
      have := (lg_cmp_gt _ _).mp h2
      rw [Int64.lt_iff_toInt_lt, ex] at this
      rw [if_neg (by omega)]
      rfl
    · rw [if_neg h2]
      have h2' : ¬ hi < x.toInt64 := fun z => h2 ((lg_cmp_gt _ _).mpr z)
      rw [Int64.lt_iff_toInt_lt, ex] at h2'
      rw [if_pos (by omega)]
      rfl
set_option maxHeartbeats 400000 in
theorem m_isOne (hm : MR h X) (hP : X.1 0 0 ≤ 6) (x : Int32) : (∃ p, p < X.1 0 0 ∧ x = nI p ∧ sh_X5_isOne h 120 x = some (nI 1)) ∨ ((∀ p, p < X.1 0 0 → x ≠ nI p) ∧ sh_X5_isOne h 120 x = some (nI 0)) := by
  unfold sh_X5_isOne
  rw [hm.1 0 (by decide), m_in]
  have e1 : ((nI (X.1 0 0) - (1 : Int32)).toInt64).toInt = (X.1 0 0 : Int) - 1 := by
    rw [Int32.toInt_toInt64, L1, pk_sub_toInt (by omega) (by omega)]
    rfl
  have e0 : (0 : Int64).toInt = 0 := by decide
  rw [e1, e0]
  by_cases w : (0 : Int) ≤ x.toInt ∧ x.toInt ≤ (X.1 0 0 : Int) - 1
  · rw [if_pos w]
    refine Or.inl ⟨x.toInt.toNat, by omega, ?_, rfl⟩
    apply Int32.toInt_inj.mp
    rw [nI_toInt (by omega)]
    omega
  · rw [if_neg w]
    refine Or.inr ⟨fun p hp e => w ?_, rfl⟩
    rw [e, nI_toInt (by omega)]
    omega
-- one or nobody, said by both alike
set_option maxHeartbeats 400000 in
theorem one2 (hv : VR h 10 X) (hm : MR h' X) (hP : X.1 0 0 ≤ 6) (x : Int32) : (∃ p, p < X.1 0 0 ∧ x = nI p ∧ sh_X3_exists h 10 x = some (nI 1) ∧ sh_X5_isOne h' 120 x = some (nI 1)) ∨ ((∀ p, p < X.1 0 0 → x ≠ nI p) ∧ sh_X3_exists h 10 x = some (nI 0) ∧ sh_X5_isOne h' 120 x = some (nI 0)) := by
  rcases p_exists hv hP x with ⟨p, h1, h2, h3⟩ | ⟨h1, h2⟩
  · rcases m_isOne hm hP x with ⟨q, g1, g2, g3⟩ | ⟨g1, g2⟩
    · exact Or.inl ⟨p, h1, h2, h3, g3⟩
    · exact absurd h2 (g1 p h1)
  · rcases m_isOne hm hP x with ⟨q, g1, g2, g3⟩ | ⟨g1, g2⟩
    · exact absurd g2 (h1 q g1)
    · exact Or.inr ⟨h1, h2, g2⟩
set_option maxHeartbeats 400000 in
theorem out2 (h h' : Hp) (x : Int32) {lo hi : Nat} (hlo : lo < 2 ^ 31) (hh : hi < 100000) : ∃ r, sh_X4_outside h x (nI lo) (nI hi) = some r ∧ sh_X5_wrongDays h' x (nI lo) (nI hi) = some r ∧ (r = -4 ∨ r = -6 ∨ (r = 0 ∧ ∃ j, lo ≤ j ∧ j ≤ hi ∧ x = nI j)) := by
  unfold sh_X4_outside b_X4_outside_21 sh_X5_wrongDays b_X5_wrongDays_21
  by_cases h1 : nI lo ≤ x
  · rw [if_pos h1]
    by_cases h2 : x ≤ nI hi
    · rw [if_pos h2]
      refine ⟨0, rfl, rfl, Or.inr (Or.inr ⟨rfl, ?_⟩)⟩
      have h0 : ¬ x < 0 := fun z => by
        rw [Int32.le_iff_toInt_le, nI_toInt hlo] at h1
        rw [Int32.lt_iff_toInt_lt] at z
        have : (0 : Int32).toInt = 0 := by decide
        omega
      obtain ⟨j, hj, rfl⟩ := nI_of h0
      exact ⟨j, (nI_leI hlo hj).mp h1, (nI_leI hj (by omega)).mp h2, rfl⟩
    · rw [if_neg h2]
      exact ⟨-6, rfl, rfl, Or.inr (Or.inl rfl)⟩
  · rw [if_neg h1]
    exact ⟨-4, rfl, rfl, Or.inl rfl⟩
end GJ
