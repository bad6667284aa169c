/-! PURE: rest -/
section RE
variable {h h' h1 h2 : Hp} {k : Nat} {X Y : St}
set_option maxHeartbeats 400000 in
theorem dyS_0 (X : St) {j : Nat} (hj : j ≠ 1) : (dyS X).1 0 j = X.1 0 j := by
  unfold dyS
  rw [eve_S _ (by omega) (by omega), mor_S _ _ (by omega)]
set_option maxHeartbeats 400000 in
theorem dyS_has (X : St) {p : Nat} (hp : X.1 0 0 ≤ p) : (dyS X).1 4 p = X.1 4 p := by
  unfold dyS
  have e : (mor X (X.1 0 0)).1 0 0 = X.1 0 0 := mor_S _ _ (by omega)
  rw [eve_S _ (by rw [e]; omega) (by omega), mor_S _ _ (by omega)]
-- nobody has more or less after the day
abbrev qt (X : St) : Prop := ∀ p, p < 6 → (dyS X).1 4 p = X.1 4 p
set_option maxHeartbeats 400000 in
theorem xf5' : rf 0 5 = 7 := rfl
set_option maxHeartbeats 400000 in
theorem c_quiet (hv : VR h 32 X) (hI : Iv k X) (hk : k + 1 ≤ 1000) : ∃ h', sh_X4_quietDayInMind h 0 = some (nI (if qt X then 1 else 0), h') ∧ VR h' 32 (dyS X) ∧ Eq1 h h' := by
  have hP := hI.2.1
  obtain ⟨h0, hB⟩ : ∃ h0, h0 = cpI h 36 0 7 0 6 := ⟨_, rfl⟩
  have eB : ∀ c j, h0.1 c j = if c = 7 ∧ j < 6 then h.1 36 j else h.1 c j := fun c j => by
    rw [hB, rdCI]
    by_cases w : c = 7 ∧ j < 6
    · rw [if_pos (by omega), if_pos w, Nat.zero_add, Nat.sub_zero]
    · rw [if_neg (by omega), if_neg w]
  have e2' : h0.2 = h.2 := by rw [hB, cpI_2]
  have hv0 : VR h0 32 X := hv.same (fun c j z1 z2 => by rw [eB, if_neg (by omega)]) (fun j => by rw [e2'])
  obtain ⟨h1, e1, e2, e3⟩ := p_passDay v32 hv0 hI hk
  have q7 : ∀ j, j < 6 → h1.1 7 j = nI (X.1 4 j) := fun j hj => by
    rw [e3.1 7 j (by omega), eB, if_pos ⟨rfl, hj⟩]
    exact hv.2.2.2.1 4 j (by decide) (by decide) hj
  have e70 : (dyS X).1 0 0 = X.1 0 0 := dyS_0 X (by decide)
  have hh : ∀ p, p < 6 → (dyS X).1 4 p ≤ 9999 := fun p hp => ((Iv_day hI hk).2.2.2.2.2.2.2.2.1 p hp).2.2.1
  have hh0 : ∀ p, p < 6 → X.1 4 p ≤ 9999 := fun p hp => (hI.2.2.2.2.2.2.2.2.1 p hp).2.2.1
  refine ⟨h1, ?_, e2, ⟨fun c j q => ?_, fun c j q => ?_⟩⟩
  · unfold sh_X4_quietDayInMind
    have a1 : acI h (rf (rf 0 2) 3) (0 : Int32) (rf 0 5) (0 : Int32) (6 : Int32) = some h0 := by
      rw [xf2, rf3 v32, xf5', hB]
      exact acI_n (a0 := 36) (a1 := 7) (sp := 0) (dp := 0) (n := 6) (by decide) (by decide) (by decide)
    rw [a1, Option.bind_some, xf2, e1, Option.bind_some]
    refine exE (lp (fun n (s : Int32) => b_X4_quietDayInMind_28 n h1 0 s) (fun p s => s = nI p ∧ ∀ i, i < p → (dyS X).1 4 i = X.1 4 i) (fun r => r = (nI (if qt X then 1 else 0), h1)) (X.1 0 0) (fun n p s hp hs => ?_) (fun n s hs => ?_) 1000 0 (0 : Int32) (by omega) ⟨rfl, fun i hi => by omega⟩ (by omega)) (fun r z1 z2 => by rw [← z1]; exact z2)
    · obtain ⟨rfl, hs⟩ := hs
      show _ ∨ (∃ r, r = _ ∧ f_X4_quietDayInMind_28 (b_X4_quietDayInMind_28 n) h1 0 (nI p) = some r)
      have st : b_X4_quietDayInMind_28 (n + 1) h1 0 (nI p) = if nI ((dyS X).1 4 p) = nI (X.1 4 p) then b_X4_quietDayInMind_28 n h1 0 (nI (p + 1)) else some (nI 0, h1) := by
        show f_X4_quietDayInMind_28 (b_X4_quietDayInMind_28 n) h1 0 (nI p) = _
        unfold f_X4_quietDayInMind_28
        rw [xf2, e2.1, e70, if_neg (nI_ge hp (by omega)), ld_has v32 e2 (by omega), Option.bind_some, xf5', ldI_n (a := 7) (show p < 6 from by omega) (by omega), q7 p (by omega), Option.bind_some, L1, nI_add]
        rfl
      by_cases w : (dyS X).1 4 p = X.1 4 p
      · rw [if_pos (show nI ((dyS X).1 4 p) = nI (X.1 4 p) from by rw [w])] at st
        refine Or.inl ⟨nI (p + 1), ⟨rfl, fun i hi => ?_⟩, st⟩
        rcases Nat.lt_or_ge i p with z | z
        · exact hs i z
        · rw [show i = p from by omega]
          exact w
      · have h1' := hh p (by omega)
        have h2' := hh0 p (by omega)
        rw [if_neg (show ¬ nI ((dyS X).1 4 p) = nI (X.1 4 p) from by rw [nI_eq (by omega) (by omega)]; exact w)] at st
        refine Or.inr ⟨_, ?_, st⟩
        rw [if_neg (fun z => w (z p (by omega)))]
    · obtain ⟨rfl, hs⟩ := hs
      refine ⟨_, rfl, ?_⟩
      show f_X4_quietDayInMind_28 (b_X4_quietDayInMind_28 n) h1 0 (nI (X.1 0 0)) = _
      unfold f_X4_quietDayInMind_28
      rw [xf2, e2.1, e70, if_pos (nI_le (Nat.le_refl _) (by omega)), if_pos]
      · rfl
      · intro p hp
        rcases Nat.lt_or_ge p (X.1 0 0) with z | z
        · exact hs p z
        · exact dyS_has X z
  · unfold Jn at q
    rw [e3.1 c j (by omega), eB, if_neg (by omega)]
  · rw [e3.2.1 c j (by omega), e2']
set_option maxHeartbeats 400000 in
theorem m_asThen {g : Hp} (hm : MR g (dyS X)) (hI : Iv k X) (hk : k + 1 ≤ 1000) (h4 : ∀ p, p < 6 → g.1 134 p = nI (X.1 4 p)) : sh_X5_isAsThen g 120 = some (nI (if qt X then 1 else 0)) := by
  have hh : ∀ p, p < 6 → (dyS X).1 4 p ≤ 9999 := fun p hp => ((Iv_day hI hk).2.2.2.2.2.2.2.2.1 p hp).2.2.1
  have hh0 : ∀ p, p < 6 → X.1 4 p ≤ 9999 := fun p hp => (hI.2.2.2.2.2.2.2.2.1 p hp).2.2.1
  unfold sh_X5_isAsThen
  refine exE (lp (fun n (s : Int32 × Int32) => b_X5_isAsThen_4 n g 120 s.1 s.2) (fun p s => s.2 = nI p ∧ ((s.1 = nI 1 ∧ ∀ i, i < p → (dyS X).1 4 i = X.1 4 i) ∨ (s.1 = nI 0 ∧ ¬ qt X))) (fun r => r = nI (if qt X then 1 else 0)) 6 (fun n p s hp hs => ?_) (fun n s hs => ?_) 1000 0 ((1 : Int32), (0 : Int32)) (by omega) ⟨rfl, Or.inl ⟨rfl, fun i hi => by omega⟩⟩ (by omega)) (fun r z1 z2 => by rw [← z1]; exact z2)
  · obtain ⟨s1, s2⟩ := s
    obtain ⟨e2, hs⟩ := hs
    have e2' : s2 = nI p := e2
    subst e2'
    refine Or.inl ?_
    rcases hs with ⟨e1, hs⟩ | ⟨e1, hs⟩
    · have e1' : s1 = nI 1 := e1
      subst e1'
      have st : b_X5_isAsThen_4 (n + 1) g 120 (nI 1) (nI p) = if nI ((dyS X).1 4 p) = nI (X.1 4 p) then b_X5_isAsThen_4 n g 120 (nI 1) (nI (p + 1)) else b_X5_isAsThen_4 n g 120 (nI 0) (nI (p + 1)) := by
        show f_X5_isAsThen_4 (b_X5_isAsThen_4 n) g 120 (nI 1) (nI p) = _
        unfold f_X5_isAsThen_4 b_X5_isAsThen_33 b_X5_isAsThen_34
        rw [L6, if_neg (nI_ge hp (by omega)), if_neg (by decide), md_has hm hp, Option.bind_some, mf29, ldI_n (a := 134) (show p < 6 from hp) (by omega), h4 p hp, Option.bind_some, L1, nI_add]
        rfl
      by_cases w : (dyS X).1 4 p = X.1 4 p
      · rw [if_pos (show nI ((dyS X).1 4 p) = nI (X.1 4 p) from by rw [w])] at st
        refine ⟨(nI 1, nI (p + 1)), ⟨rfl, Or.inl ⟨rfl, fun i hi => ?_⟩⟩, st⟩
        rcases Nat.lt_or_ge i p with z | z
        · exact hs i z
        · rw [show i = p from by omega]
          exact w
      · have h1' := hh p (by omega)
        have h2' := hh0 p (by omega)
        rw [if_neg (show ¬ nI ((dyS X).1 4 p) = nI (X.1 4 p) from by rw [nI_eq (by omega) (by omega)]; exact w)] at st
        exact ⟨(nI 0, nI (p + 1)), ⟨rfl, Or.inr ⟨rfl, fun z => w (z p hp)⟩⟩, st⟩
    · have e1' : s1 = nI 0 := e1
      subst e1'
      refine ⟨(nI 0, nI (p + 1)), ⟨rfl, Or.inr ⟨rfl, hs⟩⟩, ?_⟩
      show f_X5_isAsThen_4 (b_X5_isAsThen_4 n) g 120 (nI 0) (nI p) = _
      unfold f_X5_isAsThen_4 b_X5_isAsThen_33 b_X5_isAsThen_34
      rw [L6, if_neg (nI_ge hp (by omega)), if_pos (by decide), L1, nI_add]
      rfl
  · obtain ⟨s1, s2⟩ := s
    obtain ⟨e2, hs⟩ := hs
    have e2' : s2 = nI 6 := e2
    subst e2'
    refine ⟨_, rfl, ?_⟩
    show f_X5_isAsThen_4 (b_X5_isAsThen_4 n) g 120 s1 (nI 6) = _
    unfold f_X5_isAsThen_4
    rw [L6, if_pos (nI_le (Nat.le_refl _) (by omega))]
    rcases hs with ⟨e1, hs⟩ | ⟨e1, hs⟩
    · have e1' : s1 = nI 1 := e1
      rw [e1', if_pos (show qt X from fun p hp => hs p hp)]
      rfl
    · have e1' : s1 = nI 0 := e1
      rw [e1', if_neg hs]
      rfl
-- the day from which it rests
def rs (X : St) : Nat → Nat → Nat → Int32
  | 0, _, _ => -9
  | f + 1, i, c => if qt (itD X i) then (if c = 1 then nI (i - 1) else rs X f (i + 1) 1) else rs X f (i + 1) 0
set_option maxHeartbeats 400000 in
theorem c_rest15 (hI : Iv k X) (hk : k ≤ 900) : ∀ (f i c fuel : Nat) (h : Hp), f + i = 60 → f < fuel → (c = 0 ∨ (c = 1 ∧ 1 ≤ i)) → VR h 32 (itD X i) → ∃ h', b_X4_rest_15 fuel h 0 (nI c) (nI (i + 1)) = some (rs X f i c, h') ∧ Eq1 h h'
  | f, i, c, 0, h, e, hf, hc, hv => by omega
  | 0, i, c, fuel + 1, h, e, hf, hc, hv => by
    refine ⟨h, ?_, Eq1.rf _⟩
    show f_X4_rest_15 (b_X4_rest_15 fuel) h 0 (nI c) (nI (i + 1)) = _
    unfold f_X4_rest_15
    rw [L60, if_pos (nI_lt (by omega) (by omega))]
    rfl
  | f + 1, i, c, fuel + 1, h, e, hf, hc, hv => by
    obtain ⟨h1, e1, e2, e3⟩ := c_quiet hv (Iv_itD hI i (by omega)) (by omega)
    have e2' : VR h1 32 (itD X (i + 1)) := e2
    have st : b_X4_rest_15 (fuel + 1) h 0 (nI c) (nI (i + 1)) = if nI (if qt (itD X i) then 1 else 0) = 0 then b_X4_rest_35 (b_X4_rest_15 fuel) h1 0 (nI (i + 1)) (0 : Int32) else b_X4_rest_35 (b_X4_rest_15 fuel) h1 0 (nI (i + 1)) (nI c + (1 : Int32)) := by
      show f_X4_rest_15 (b_X4_rest_15 fuel) h 0 (nI c) (nI (i + 1)) = _
      unfold f_X4_rest_15
      rw [L60, if_neg (nI_nlt (by omega) (by omega)), e1, Option.bind_some]
    rw [st]
    unfold rs b_X4_rest_35
    by_cases w : qt (itD X i)
    · rw [if_pos w, if_neg (by decide), L1, nI_add, if_pos w]
      by_cases z : c = 1
      · rw [z, if_pos (show nI (1 + 1) = (2 : Int32) from rfl), if_pos rfl]
        refine ⟨h1, ?_, e3⟩
        rw [L2, pk_sub (by omega)]
        show some (nI (i - 1), h1) = _
        rfl
      · have hc0 : c = 0 := by omega
        subst hc0
        rw [if_neg (show ¬ nI (0 + 1) = (2 : Int32) from by decide), if_neg (by decide)]
        obtain ⟨h2, k1, k2⟩ := c_rest15 hI hk f (i + 1) 1 fuel h1 (by omega) (by omega) (Or.inr ⟨rfl, by omega⟩) e2'
        refine ⟨h2, ?_, e3.tr k2⟩
        rw [nI_add]
        exact k1
    · rw [if_neg w, if_pos (by decide), if_neg w, if_neg (by decide)]
      obtain ⟨h2, k1, k2⟩ := c_rest15 hI hk f (i + 1) 0 fuel h1 (by omega) (by omega) (Or.inl rfl) e2'
      refine ⟨h2, ?_, e3.tr k2⟩
      rw [L1, nI_add]
      exact k1
set_option maxHeartbeats 400000 in
theorem m_rest29 {K : Hp → Nat → Int32 → Int32 → Int32 → Option (Int32 × Hp)} (x1 x3 : Int32) (hm : MR h X) : ∃ g, b_X5_rest_29 K 1000 h 120 x1 x3 (0 : Int32) = f_X5_rest_29 K (b_X5_rest_29 K 993) g 120 x1 x3 (nI 6) ∧ MR g X ∧ MF h g ∧ ∀ p, p < 6 → g.1 134 p = nI (X.1 4 p) := by
  have key : ∀ (f i n : Nat) (g : Hp), f + i = 6 → MR g X → MF h g → (∀ p, p < i → g.1 134 p = nI (X.1 4 p)) → ∃ g', b_X5_rest_29 K (994 + f) g 120 x1 x3 (nI i) = f_X5_rest_29 K (b_X5_rest_29 K 993) g' 120 x1 x3 (nI 6) ∧ MR g' X ∧ MF h g' ∧ ∀ p, p < 6 → g'.1 134 p = nI (X.1 4 p) := by
    intro f
    induction f with
    | zero =>
      intro i n g e m mf q
      have e' : i = 6 := by omega
      subst e'
      exact ⟨g, rfl, m, mf, q⟩
    | succ f ih =>
      intro i n g e m mf q
      have m' : MR (wI g 134 i (nI (X.1 4 i))) X := m.of (fun j hj => by rw [rdI, if_neg (by omega)]) (fun c j z1 z2 => by rw [rdI, if_neg (by omega)])
      obtain ⟨g', k1, k2, k3, k4⟩ := ih (i + 1) n (wI g 134 i (nI (X.1 4 i))) (by omega) m' (mf.tr (MF.wI g i _ (by unfold MJ; omega))) (fun p hp => by
        rw [rdI]
        by_cases w : p = i
        · rw [if_pos ⟨rfl, w⟩, w]
        · rw [if_neg (by omega)]
          exact q p (by omega))
      refine ⟨g', ?_, k2, k3, k4⟩
      rw [← k1]
      show f_X5_rest_29 K (b_X5_rest_29 K (994 + f)) g 120 x1 x3 (nI i) = _
      unfold f_X5_rest_29
      rw [L6, if_neg (nI_ge (by omega) (by omega)), md_has m (by omega), Option.bind_some, mf29, stI_n (a := 134) (show i < 6 from by omega) (by omega), Option.bind_some, L1, nI_add]
  exact key 6 0 0 h rfl hm (MF.rf h) (fun p hp => by omega)
set_option maxHeartbeats 400000 in
theorem m_rest16 (hI : Iv k X) (hk : k ≤ 900) (h0 : Hp) {g0 : Hp} (hc : ∀ h2, MF h0 h2 → ∃ h3, sh_X5_close h2 120 = some h3 ∧ Eq1 g0 h3) : ∀ (f i c fuel : Nat) (h : Hp), f + i = 60 → f + 1 < fuel → (c = 0 ∨ (c = 1 ∧ 1 ≤ i)) → MR h (itD X i) → MF h0 h → ∃ h', b_X5_rest_16 fuel h 120 (nI c) (-9 : Int32) (nI i) = some (rs X f i c, h') ∧ Eq1 g0 h'
  | f, i, c, 0, h, e, hf, hc1, hv, hm => by omega
  | 0, i, c, fuel + 1, h, e, hf, hc1, hv, hm => by
    obtain ⟨h3, c1, c2⟩ := hc h hm
    refine ⟨h3, ?_, c2⟩
    show f_X5_rest_16 (b_X5_rest_16 fuel) h 120 (nI c) (-9 : Int32) (nI i) = _
    unfold f_X5_rest_16 b_X5_rest_95
    rw [L60, if_pos (nI_le (by omega) (by omega)), c1]
    rfl
  | f + 1, i, c, 1, h, e, hf, hc1, hv, hm => by omega
  | f + 1, i, c, fuel + 2, h, e, hf, hc1, hv, hm => by
    obtain ⟨g, e1, e2, e3, e4⟩ := m_rest29 (K := b_X5_rest_16 (fuel + 1)) (nI c) (nI i) hv
    obtain ⟨h1, d1, d2, d3, _⟩ := m_dayOn e2 (Iv_itD hI i (by omega)) (by omega)
    have d2' : MR h1 (itD X (i + 1)) := d2
    have q4 : ∀ p, p < 6 → h1.1 134 p = nI ((itD X i).1 4 p) := fun p hp => by rw [d3.1 134 p (by unfold DJ; omega), e4 p hp]
    have a1 := m_asThen (X := itD X i) d2 (Iv_itD hI i (by omega)) (by omega) q4
    have hm1 : MF h0 h1 := (hm.tr e3).tr d3.mf
    have st : b_X5_rest_16 (fuel + 2) h 120 (nI c) (-9 : Int32) (nI i) = if nI (if qt (itD X i) then 1 else 0) = 0 then b_X5_rest_74 (b_X5_rest_16 (fuel + 1)) h1 120 (nI i) (0 : Int32) else b_X5_rest_74 (b_X5_rest_16 (fuel + 1)) h1 120 (nI i) (nI c + (1 : Int32)) := by
      show f_X5_rest_16 (b_X5_rest_16 (fuel + 1)) h 120 (nI c) (-9 : Int32) (nI i) = _
      unfold f_X5_rest_16
      rw [L60, if_neg (nI_ge (by omega) (by omega)), if_neg (show ¬ (0 : Int32) ≤ -9 from by decide), e1]
      unfold f_X5_rest_29
      rw [L6, if_pos (nI_le (Nat.le_refl _) (by omega)), d1, Option.bind_some, a1, Option.bind_some]
    rw [st]
    unfold rs b_X5_rest_74 b_X5_rest_88
    by_cases w : qt (itD X i)
    · rw [if_pos w, if_neg (by decide), L1, nI_add, if_pos w]
      by_cases z : c = 1
      · obtain ⟨h3, c1, c2⟩ := hc h1 hm1
        rw [z, if_pos (show nI (1 + 1) = (2 : Int32) from rfl), if_pos rfl, pk_sub (by omega), nI_add]
        refine ⟨h3, ?_, c2⟩
        show f_X5_rest_16 (b_X5_rest_16 fuel) h1 120 (nI (1 + 1)) (nI (i - 1)) (nI (i + 1)) = _
        unfold f_X5_rest_16 b_X5_rest_95
        rw [if_pos (show (0 : Int32) ≤ nI (i - 1) from nI_pos' (by omega)), ite_self, c1]
        rfl
      · have hc0 : c = 0 := by omega
        subst hc0
        rw [if_neg (show ¬ nI (0 + 1) = (2 : Int32) from by decide), if_neg (by decide), nI_add]
        exact m_rest16 hI hk h0 hc f (i + 1) 1 (fuel + 1) h1 (by omega) (by omega) (Or.inr ⟨rfl, by omega⟩) d2' hm1
    · rw [if_neg w, if_pos (by decide), if_neg w, if_neg (by decide), L1, nI_add]
      exact m_rest16 hI hk h0 hc f (i + 1) 0 (fuel + 1) h1 (by omega) (by omega) (Or.inl rfl) d2' hm1
set_option maxHeartbeats 400000 in
theorem a_rest : Same k (fun h => sh_X4_rest h 0) (fun h => sh_X5_rest h 120) := by
  intro h X Y g hk
  obtain ⟨h0, a1, a2, a3⟩ := c_mind g
  obtain ⟨h1, f1, f2⟩ := c_rest15 g.1 hk 60 0 0 1000 h0 rfl (by omega) (Or.inl rfl) a2
  have f3 : Eq1 h h1 := a3.tr f2
  have g1 := (g.eq f3).th
  obtain ⟨h2, o1, o2, o3⟩ := m_mind g1.2.2.1
  obtain ⟨h4, c1, c2⟩ := m_rest16 g1.1 hk h2 o3 60 0 0 1000 h2 rfl (by omega) (Or.inl rfl) o2 (MF.rf h2)
  refine s_ok g hk (r := rs X 60 0 0) (h1 := h1) (h2 := h4) ?_ f3 ?_ c2
  · show sh_X4_rest h 0 = _
    unfold sh_X4_rest
    rw [xf2, xf0, a1, Option.bind_some]
    exact f1
  · show Option.bind (sh_X5_open (th h1) 120) _ = _
    rw [o1, Option.bind_some]
    exact c1
end RE
