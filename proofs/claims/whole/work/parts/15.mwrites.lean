/-! PURE: what the reference's days write -/
def DJ (c j : Nat) : Prop := (c = 120 ∧ (j = 1 ∨ j = 12)) ∨ c = 125 ∨ c = 126 ∨ c = 128
def DF (h h' : Hp) : Prop := (∀ c j, ¬ DJ c j → h'.1 c j = h.1 c j) ∧ h'.2 = h.2
set_option maxHeartbeats 400000 in
theorem DF.rf (h : Hp) : DF h h := ⟨fun _ _ _ => rfl, rfl⟩
set_option maxHeartbeats 400000 in
theorem DF.tr {h h1 h2 : Hp} (a : DF h h1) (c : DF h1 h2) : DF h h2 := ⟨fun k j q => (c.1 k j q).trans (a.1 k j q), c.2.trans a.2⟩
set_option maxHeartbeats 400000 in
theorem DF.wI (h : Hp) {c : Nat} (j : Nat) (v : Int32) (hc : DJ c j) : DF h (wI h c j v) := ⟨fun k i q => by
  rw [rdI, if_neg]
  rintro ⟨rfl, rfl⟩
  exact q hc, rfl⟩
set_option maxHeartbeats 400000 in
theorem MR.of {h h' : Hp} {X : St} (hm : MR h X) (e1 : ∀ j, j < 6 → h'.1 120 j = h.1 120 j) (e2 : ∀ c j, 121 ≤ c → c ≤ 126 → h'.1 c j = h.1 c j) : MR h' X :=
  ⟨fun j hj => by rw [e1 j hj, hm.1 j hj], fun p hp => by rw [e2 121 p (by decide) (by decide), e2 122 p (by decide) (by decide), e2 123 p (by decide) (by decide), e2 124 p (by decide) (by decide), e2 125 p (by decide) (by decide)]; exact hm.2.1 p hp,
    fun a p q h1 h2 h3 h4 => by rw [e2 126 _ (by decide) (by decide)]; exact hm.2.2 a p q h1 h2 h3 h4⟩
section MW
variable {h : Hp} {k : Nat} {X : St}
set_option maxHeartbeats 400000 in
theorem MR.has (hm : MR h X) {p v : Nat} : MR (wI h 125 p (nI v)) (up1 X.1 4 p v, X.2) := by
  refine ⟨fun j hj => ?_, fun r hr => ?_, fun a r q h1 h2 h3 h4 => ?_⟩
  · show _ = nI (up1 X.1 4 p v 0 j)
    rw [rdI, if_neg (by omega), hm.1 j hj, up1_ne (by omega)]
  · show _ = nI (up1 X.1 4 p v 1 r) ∧ _ = nI (up1 X.1 4 p v 2 r) ∧ _ = nI (up1 X.1 4 p v 5 r) ∧ _ = nI (up1 X.1 4 p v 3 r) ∧ _ = nI (up1 X.1 4 p v 4 r)
    obtain ⟨m1, m2, m3, m4, m5⟩ := hm.2.1 r hr
    rw [rdI, rdI, rdI, rdI, rdI, if_neg (by omega), if_neg (by omega), if_neg (by omega), if_neg (by omega), up1_ne (by omega), up1_ne (by omega), up1_ne (by omega), up1_ne (by omega)]
    refine ⟨m1, m2, m3, m4, ?_⟩
    unfold up1
    by_cases e : r = p
    · rw [if_pos ⟨rfl, e⟩, if_pos ⟨rfl, e⟩]
    · rw [if_neg (by omega), if_neg (by omega), m5]
  · show _ = nI (X.2 a r q)
    have h2 : a ≤ up1 X.1 4 p v 0 1 := h2
    rw [up1_ne (by omega)] at h2
    show (wI h 125 p (nI v)).1 126 (42 * ((up1 X.1 4 p v 0 1 - a) % 11) + 7 * r + q) = _
    rw [up1_ne (by omega), rdI, if_neg (by omega)]
    exact hm.2.2 a r q h1 h2 h3 h4
set_option maxHeartbeats 400000 in
theorem m_addGift (hm : MR h X) (hI : Iv k X) {p q n : Nat} (hp : p < 6) (hq : q < 7) (hn : n ≤ X.1 4 p) : ∃ h', sh_X5_addGift h 120 (nI p) (nI q) (nI n) = some h' ∧ MR h' (adG X p q n) ∧ DF h h' ∧ h'.1 120 12 = h.1 120 12 := by
  have hd := hI.2.2.1
  have h1 := hI.1
  have hlt : X.1 0 1 % 11 < 11 := Nat.mod_lt _ (by decide)
  unfold sh_X5_addGift
  rw [hm.1 1 (by decide), L11, pk_rem (by omega) (by omega) (by omega)]
  simp (disch := omega) only [L0, L1, L2, L3, L4, L5, L6, L7, L8, L9, L10, L11, L12, L13, L14, L15, L16, L20, L21, L42, L44, L48, L57, L59, L60, L63, L64, L99, L108, L112, L255, L462, L999, L9999, nI_add, pk_mul, nI_leI, nI_ltI, nI_eq, Option.bind_some, mf10, mf11]
  have e0 := hm.2.2 0 p q (by omega) (by omega) hp hq
  rw [Nat.sub_zero] at e0
  rw [ldI_n (a := 126) (show _ < 462 by omega) (by omega), Option.bind_some, e0]
  simp (disch := omega) only [L0, L1, L2, L3, L4, L5, L6, L7, L8, L9, L10, L11, L12, L13, L14, L15, L16, L20, L21, L42, L44, L48, L57, L59, L60, L63, L64, L99, L108, L112, L255, L462, L999, L9999, nI_add, pk_mul, nI_leI, nI_ltI, nI_eq, Option.bind_some]
  rw [stI_n (a := 126) (show _ < 462 by omega) (by omega), Option.bind_some, ldI_n (a := 125) hp (by omega), Option.bind_some, rdI, if_neg (by omega), (hm.2.1 p hp).2.2.2.2, pk_sub hn, stI_n (a := 125) hp (by omega)]
  refine ⟨_, rfl, ?_, (DF.wI h _ _ (Or.inr (Or.inr (Or.inl rfl)))).tr (DF.wI _ _ _ (Or.inr (Or.inl rfl))), ?_⟩
  · have hm2 : MR (wI h 126 (42 * (X.1 0 1 % 11) + 7 * p + q) (nI (X.2 0 p q + n))) (X.1, up3 X.2 0 p q (X.2 0 p q + n)) := by
      refine ⟨fun j hj => ?_, fun r hr => ?_, fun a r s h1 h2 h3 h4 => ?_⟩
      · rw [rdI, if_neg (by omega)]; exact hm.1 j hj
      · rw [rdI, rdI, rdI, rdI, rdI, if_neg (by omega), if_neg (by omega), if_neg (by omega), if_neg (by omega), if_neg (by omega)]
        exact hm.2.1 r hr
      · show _ = nI (up3 X.2 0 p q (X.2 0 p q + n) a r s)
        have h2 : a ≤ X.1 0 1 := h2
        have hl2 : (X.1 0 1 - a) % 11 < 11 := Nat.mod_lt _ (by decide)
        show (wI h 126 (42 * (X.1 0 1 % 11) + 7 * p + q) (nI (X.2 0 p q + n))).1 126 (42 * ((X.1 0 1 - a) % 11) + 7 * r + s) = _
        rw [rdI]
        unfold up3
        by_cases e : a = 0 ∧ r = p ∧ s = q
        · obtain ⟨rfl, rfl, rfl⟩ := e
          rw [if_pos ⟨rfl, by rw [Nat.sub_zero]⟩, if_pos ⟨rfl, rfl, rfl⟩]
        · rw [if_neg (by omega), if_neg e]
          exact hm.2.2 a r s h1 h2 h3 h4
    exact hm2.has
  · rw [rdI, if_neg (by omega), rdI, if_neg (by omega)]
set_option maxHeartbeats 400000 in
theorem m_give (hm : MR h X) (hI : Iv k X) {p : Nat} (hp : p < X.1 0 0) : ∃ h', sh_X5_giveByKind h 120 (nI p) = some h' ∧ MR h' (giv X p (tgt X p) (amt X p)) ∧ DF h h' ∧ h'.1 120 12 = h.1 120 12 := by
  have hP := hI.2.1
  have ht := tgt_ok hI hp
  have ha := amt_le X p
  have h9 := (hI.2.2.2.2.2.2.2.2.1 p (by omega)).2.2.1
  unfold sh_X5_giveByKind b_X5_giveByKind_36 b_X5_giveByKind_32
  rw [m_byKind hm hI hp, m_target hm hI hp, Option.bind_some]
  unfold giv gft
  by_cases e : tgt X p = p
  · rw [if_pos e, if_pos (Or.inl e), if_pos (by decide)]
    exact ⟨h, rfl, hm, DF.rf h, rfl⟩
  · rw [if_neg e]
    by_cases e0 : amt X p = 0
    · rw [if_pos (Or.inr e0), e0, if_pos (by decide)]
      exact ⟨h, rfl, hm, DF.rf h, rfl⟩
    · have z1 : ¬ (nI (amt X p) ≤ (0 : Int32)) := nI_nle (by omega) (by omega)
      rw [if_neg z1, if_neg (show ¬ (tgt X p = p ∨ amt X p = 0) by omega)]
      simp (disch := omega) only [L0, L1, L2, L3, L4, L5, L6, L7, L8, L9, L10, L11, L12, L13, L14, L15, L16, L20, L21, L42, L44, L48, L57, L59, L60, L63, L64, L99, L108, L112, L255, L462, L999, L9999, nI_add, pk_mul, nI_leI, nI_ltI, nI_eq, Option.bind_some]
      unfold col
      by_cases e9 : tgt X p = 9
      · rw [if_pos e9, if_pos e9]
        obtain ⟨h', g1, g2, g3, g4⟩ := m_addGift hm hI (p := p) (q := 6) (n := amt X p) (by omega) (by decide) ha
        rw [g1]
        exact ⟨h', rfl, g2, g3, g4⟩
      · rw [if_neg e9, if_neg e9]
        obtain ⟨h', g1, g2, g3, g4⟩ := m_addGift hm hI (p := p) (q := tgt X p) (n := amt X p) (by omega) (by omega) ha
        rw [g1]
        exact ⟨h', rfl, g2, g3, g4⟩
set_option maxHeartbeats 400000 in
theorem m_end121 {g : Hp} {D : Nat} (hD : D ≤ 1001) (hg : g.1 120 1 = nI D) : ∃ h', b_X5_endDay_121 1000 g 120 (nI 0) = some h' ∧ (∀ c j, h'.1 c j = if c = 126 ∧ 42 * (D % 11) ≤ j ∧ j < 42 * (D % 11) + 42 then nI 0 else g.1 c j) ∧ h'.2 = g.2 := by
  have hlt : D % 11 < 11 := Nat.mod_lt _ (by decide)
  refine exE (lp (fun n (s : Hp × Int32) => b_X5_endDay_121 n s.1 120 s.2) (fun i s => s.2 = nI i ∧ (∀ c j, s.1.1 c j = if c = 126 ∧ 42 * (D % 11) ≤ j ∧ j < 42 * (D % 11) + i then nI 0 else g.1 c j) ∧ s.1.2 = g.2) (fun h' => (∀ c j, h'.1 c j = if c = 126 ∧ 42 * (D % 11) ≤ j ∧ j < 42 * (D % 11) + 42 then nI 0 else g.1 c j) ∧ h'.2 = g.2) 42 (fun n i s hi hs => Or.inl ?_) (fun n s hs => ?_) 1000 0 (g, nI 0) (by omega) ⟨rfl, fun c j => by rw [if_neg (by omega)], rfl⟩ (by omega)) (fun r h1 h2 => ⟨r, h2, h1⟩)
  · obtain ⟨w, x⟩ := s
    obtain ⟨e1, e2, e3⟩ := hs
    dsimp only at e1 e2 e3
    subst e1
    refine ⟨(wI w 126 (42 * (D % 11) + i) (nI 0), nI (i + 1)), ⟨rfl, fun c j => ?_, e3⟩, ?_⟩
    · show (wI w 126 (42 * (D % 11) + i) (nI 0)).1 c j = _
      rw [rdI, e2]
      by_cases w : c = 126 ∧ j = 42 * (D % 11) + i
      · rw [if_pos w, if_pos (by omega)]
      · rw [if_neg w]
        by_cases w2 : c = 126 ∧ 42 * (D % 11) ≤ j ∧ j < 42 * (D % 11) + i
        · rw [if_pos w2, if_pos (by omega)]
        · rw [if_neg w2, if_neg (by omega)]
    · show f_X5_endDay_121 (b_X5_endDay_121 n) w 120 (nI i) = _
      unfold f_X5_endDay_121
      have hw1 : w.1 120 1 = nI D := by rw [e2, if_neg (by omega), hg]
      rw [hw1, L11, pk_rem (by omega) (by omega) (by omega)]
      simp (disch := omega) only [L0, L1, L2, L3, L4, L5, L6, L7, L8, L9, L10, L11, L12, L13, L14, L15, L16, L20, L21, L42, L44, L48, L57, L59, L60, L63, L64, L99, L108, L112, L255, L462, L999, L9999, nI_add, pk_mul, nI_leI, nI_ltI, nI_eq, Option.bind_some]
      rw [if_neg (by omega), mf11, stI_n (a := 126) (show _ < 462 by omega) (by omega)]
      rfl
  · obtain ⟨w, x⟩ := s
    obtain ⟨e1, e2, e3⟩ := hs
    dsimp only at e1 e2 e3
    subst e1
    refine ⟨w, ⟨e2, e3⟩, ?_⟩
    show f_X5_endDay_121 (b_X5_endDay_121 n) w 120 (nI 42) = _
    unfold f_X5_endDay_121
    simp (disch := omega) only [L0, L1, L2, L3, L4, L5, L6, L7, L8, L9, L10, L11, L12, L13, L14, L15, L16, L20, L21, L42, L44, L48, L57, L59, L60, L63, L64, L99, L108, L112, L255, L462, L999, L9999, nI_add, pk_mul, nI_leI, nI_ltI, nI_eq, Option.bind_some]
    rw [if_pos (by omega)]
set_option maxHeartbeats 400000 in
theorem m_end80 {g : Hp} (hm : MR g X) (hI : Iv k X) (hc : ∀ p, p < X.1 0 0 → g.1 128 p = nI (car X p)) : ∃ h', b_X5_endDay_80 1000 g 120 (nI 0) = some h' ∧ MR h' (eve X) ∧ DF g h' ∧ h'.1 120 12 = g.1 120 12 := by
  have hP := hI.2.1
  have hd := hI.2.2.1
  have hk := hI.1
  refine exE (lp (fun n (s : Hp × Int32) => b_X5_endDay_80 n s.1 120 s.2) (fun i s => s.2 = nI i ∧ MR s.1 (ev1 X i) ∧ DF g s.1 ∧ s.1.1 120 12 = g.1 120 12 ∧ ∀ p, p < X.1 0 0 → s.1.1 128 p = nI (car X p)) (fun h' => MR h' (eve X) ∧ DF g h' ∧ h'.1 120 12 = g.1 120 12) (X.1 0 0) (fun n i s hi hs => Or.inl ?_) (fun n s hs => ?_) 1000 0 (g, nI 0) (by omega) ⟨rfl, by rw [ev1_0]; exact hm, DF.rf g, rfl, hc⟩ (by omega)) (fun r h1 h2 => ⟨r, h2, h1⟩)
  · obtain ⟨w, x⟩ := s
    obtain ⟨e1, e2, e3, e4, e5⟩ := hs
    dsimp only at e1 e2 e3 e4 e5
    subst e1
    have eh : (ev1 X i).1 4 i = X.1 4 i := ev1_has X (Nat.le_refl i)
    refine ⟨(wI w 125 i (nI (X.1 4 i + car X i)), nI (i + 1)), ⟨rfl, ?_, e3.tr (DF.wI _ _ _ (Or.inr (Or.inl rfl))), ?_, fun p hp => ?_⟩, ?_⟩
    · have := e2.has (p := i) (v := X.1 4 i + car X i)
      rw [ev1_up] at this
      exact this
    · show (wI w 125 i _).1 120 12 = _
      rw [rdI, if_neg (by omega), e4]
    · show (wI w 125 i _).1 128 p = _
      rw [rdI, if_neg (by omega), e5 p hp]
    · show f_X5_endDay_80 (b_X5_endDay_80 n) w 120 (nI i) = _
      unfold f_X5_endDay_80
      rw [e2.1 0 (by decide), ev1_S X i 0 0 (by decide), md_has e2 (by omega), eh, mf15, ldI_n (a := 128) (show i < 6 by omega) (by omega), e5 i hi]
      simp (disch := omega) only [L0, L1, L2, L3, L4, L5, L6, L7, L8, L9, L10, L11, L12, L13, L14, L15, L16, L20, L21, L42, L44, L48, L57, L59, L60, L63, L64, L99, L108, L112, L255, L462, L999, L9999, nI_add, pk_mul, nI_leI, nI_ltI, nI_eq, Option.bind_some]
      rw [if_neg (by omega), mf10, stI_n (a := 125) (show i < 6 by omega) (by omega)]
      rfl
  · obtain ⟨w, x⟩ := s
    obtain ⟨e1, e2, e3, e4, e5⟩ := hs
    dsimp only at e1 e2 e3 e4 e5
    subst e1
    have eS := ev1_S X (X.1 0 0)
    have e11 : w.1 120 1 = nI (X.1 0 1) := by rw [e2.1 1 (by decide), eS 0 1 (by decide)]
    obtain ⟨h', g1, g2, g3⟩ := m_end121 (g := wI w 120 1 (nI (X.1 0 1 + 1))) (D := X.1 0 1 + 1) (by omega) (by rw [rdI, if_pos ⟨rfl, rfl⟩])
    have ee : (eve X).1 0 1 = X.1 0 1 + 1 := by
      show (if 0 = 4 ∧ 1 < X.1 0 0 then X.1 4 1 + car X 1 else if 0 = 0 ∧ 1 = 1 then X.1 0 1 + 1 else X.1 0 1) = _
      rw [if_neg (by omega), if_pos ⟨rfl, rfl⟩]
    refine ⟨h', ⟨⟨fun j hj => ?_, fun p hp => ?_, fun a p q h1 h2 h3 h4 => ?_⟩, ⟨fun c j hz => ?_, ?_⟩, ?_⟩, ?_⟩
    · rw [g2, if_neg (by omega), rdI]
      by_cases w1 : j = 1
      · subst w1
        rw [if_pos ⟨rfl, rfl⟩, ee]
      · rw [if_neg (by omega), e2.1 j hj, eS 0 j (by decide), eve_S X (by omega) (by omega)]
    · obtain ⟨m1, m2, m3, m4, m5⟩ := e2.2.1 p hp
      rw [g2, g2, g2, g2, g2, if_neg (by omega), if_neg (by omega), if_neg (by omega), if_neg (by omega), if_neg (by omega), rdI, rdI, rdI, rdI, rdI, if_neg (by omega), if_neg (by omega), if_neg (by omega), if_neg (by omega), if_neg (by omega), m1, m2, m3, m4, m5]
      rw [eS 1 p (by decide), eS 2 p (by decide), eS 5 p (by decide), eS 3 p (by decide), eve_S X (by omega) (by omega), eve_S X (by omega) (by omega), eve_S X (by omega) (by omega), eve_S X (by omega) (by omega)]
      refine ⟨rfl, rfl, rfl, rfl, ?_⟩
      show nI (if 4 = 4 ∧ p < X.1 0 0 then X.1 4 p + car X p else X.1 4 p) = nI (if 4 = 4 ∧ p < X.1 0 0 then X.1 4 p + car X p else if 4 = 0 ∧ p = 1 then X.1 0 1 + 1 else X.1 4 p)
      rw [if_neg (show ¬ (4 = 0 ∧ p = 1) by omega)]
    · rw [ee] at h2 ⊢
      show _ = nI (if a = 0 then 0 else X.2 (a - 1) p q)
      have l1 : (X.1 0 1 + 1 - a) % 11 < 11 := Nat.mod_lt _ (by decide)
      have l2 : (X.1 0 1 + 1) % 11 < 11 := Nat.mod_lt _ (by decide)
      rw [g2]
      by_cases w0 : a = 0
      · subst w0
        rw [if_pos (by omega), if_pos rfl]
      · rw [if_neg (by omega), if_neg w0, rdI, if_neg (by omega)]
        have := e2.2.2 (a - 1) p q (by omega) (by rw [eS 0 1 (by decide)]; omega) h3 h4
        rw [eS 0 1 (by decide), show X.1 0 1 - (a - 1) = X.1 0 1 + 1 - a by omega] at this
        exact this
    · rw [g2, if_neg (by unfold DJ at hz; omega), rdI, if_neg (by unfold DJ at hz; omega)]
      exact e3.1 c j hz
    · rw [g3]
      exact e3.2
    · rw [g2, if_neg (by omega), rdI, if_neg (by omega), e4]
    · show f_X5_endDay_80 (b_X5_endDay_80 n) w 120 (nI (X.1 0 0)) = _
      unfold f_X5_endDay_80
      rw [e2.1 0 (by decide), eS 0 0 (by decide), if_pos (nI_le (Nat.le_refl _) (by omega)), e11, L1, nI_add]
      exact g1
set_option maxHeartbeats 400000 in
theorem m_endDay (hm : MR h X) (hI : Iv k X) : ∃ h', sh_X5_endDay h 120 = some h' ∧ MR h' (eve X) ∧ DF h h' ∧ h'.1 120 12 = h.1 120 12 + nI (lst X) := by
  have hP := hI.2.1
  have hd := hI.2.2.1
  have hk := hI.1
  unfold sh_X5_endDay
  refine exE (lp (fun n (s : Hp × Int32) => b_X5_endDay_2 n s.1 120 s.2) (fun i s => s.2 = nI i ∧ MR s.1 X ∧ DF h s.1 ∧ s.1.1 120 12 = h.1 120 12 + nI (sm (fun p => lyi X p - car X p) i) ∧ ∀ p, p < i → s.1.1 128 p = nI (car X p)) (fun h' => MR h' (eve X) ∧ DF h h' ∧ h'.1 120 12 = h.1 120 12 + nI (lst X)) (X.1 0 0) (fun n i s hi hs => Or.inl ?_) (fun n s hs => ?_) 1000 0 (h, nI 0) (by omega) ⟨rfl, hm, DF.rf h, by show _ = h.1 120 12 + nI 0; rw [show nI 0 = (0 : Int32) from rfl, Int32.add_zero], fun p hp => by omega⟩ (by omega)) (fun r h1 h2 => ⟨r, h2, h1⟩)
  · obtain ⟨w, x⟩ := s
    obtain ⟨e1, e2, e3, e4, e5⟩ := hs
    dsimp only at e1 e2 e3 e4 e5
    subst e1
    have hi6 : i < 6 := by omega
    have b1 := got_le hI 0 i
    have b2 := hI.2.2.2.2.2.2.2.2.1 i hi6
    have b3 := lev_le hI i
    have c1 := car_le X i
    refine ⟨(wI (wI w 128 i (nI (car X i))) 120 12 (w.1 120 12 + (nI (lyi X i) - nI (car X i))), nI (i + 1)), ⟨rfl, e2.of (fun j hj => ?_) (fun c j h1 h2 => ?_), e3.tr ((DF.wI _ _ _ (Or.inr (Or.inr (Or.inr rfl)))).tr (DF.wI _ _ _ (Or.inl ⟨rfl, Or.inr rfl⟩))), ?_, fun p hp => ?_⟩, ?_⟩
    · show (wI (wI w 128 i _) 120 12 _).1 120 j = _
      rw [rdI, if_neg (by omega), rdI, if_neg (by omega)]
    · show (wI (wI w 128 i _) 120 12 _).1 c j = _
      rw [rdI, if_neg (by omega), rdI, if_neg (by omega)]
    · show (wI (wI w 128 i _) 120 12 _).1 120 12 = h.1 120 12 + nI (sm (fun p => lyi X p - car X p) i + (lyi X i - car X i))
      rw [rdI, if_pos ⟨rfl, rfl⟩, e4, pk_sub c1.1, Int32.add_assoc, nI_add]
    · show (wI (wI w 128 i _) 120 12 _).1 128 p = _
      rw [rdI, if_neg (by omega), rdI]
      by_cases w1 : p = i
      · subst w1
        rw [if_pos ⟨rfl, rfl⟩]
      · rw [if_neg (by omega), e5 p (by omega)]
    · show f_X5_endDay_2 (b_X5_endDay_2 n) w 120 (nI i) = _
      unfold f_X5_endDay_2
      have hgot := m_got e2 hI (a := 0) (q := i) (by omega) (by omega)
      rw [← ago_0] at hgot
      rw [e2.1 0 (by decide), e2.1 1 (by decide), hgot, md_finds e2 hi6, m_leave e2 hI hi6, md_has e2 hi6]
      simp (disch := omega) only [L0, L1, L2, L3, L4, L5, L6, L7, L8, L9, L10, L11, L12, L13, L14, L15, L16, L20, L21, L42, L44, L48, L57, L59, L60, L63, L64, L99, L108, L112, L255, L462, L999, L9999, nI_add, pk_mul, nI_leI, nI_ltI, nI_eq, Option.bind_some, m_lesser]
      rw [if_neg (by omega), pk_sub (by omega)]
      simp (disch := omega) only [L0, L1, L2, L3, L4, L5, L6, L7, L8, L9, L10, L11, L12, L13, L14, L15, L16, L20, L21, L42, L44, L48, L57, L59, L60, L63, L64, L99, L108, L112, L255, L462, L999, L9999, nI_add, pk_mul, nI_leI, nI_ltI, nI_eq, Option.bind_some, m_lesser]
      rw [mf15, stI_n (a := 128) hi6 (by omega), Option.bind_some, ldI_n (a := 128) hi6 (by omega), Option.bind_some]
      have r1 : ∀ v, (wI w 128 i v).1 128 i = v := fun v => by rw [rdI, if_pos ⟨rfl, rfl⟩]
      have r2 : ∀ v, (wI w 128 i v).1 120 12 = w.1 120 12 := fun v => by rw [rdI, if_neg (by omega)]
      rw [r1, r2]
      rfl
  · obtain ⟨w, x⟩ := s
    obtain ⟨e1, e2, e3, e4, e5⟩ := hs
    dsimp only at e1 e2 e3 e4 e5
    subst e1
    obtain ⟨h', g1, g2, g3, g4⟩ := m_end80 e2 hI e5
    refine ⟨h', ⟨g2, e3.tr g3, by rw [g4, e4]; rfl⟩, ?_⟩
    show f_X5_endDay_2 (b_X5_endDay_2 n) w 120 (nI (X.1 0 0)) = _
    unfold f_X5_endDay_2
    rw [e2.1 0 (by decide), if_pos (nI_le (Nat.le_refl _) (by omega))]
    exact g1
set_option maxHeartbeats 400000 in
theorem m_dayOn (hm : MR h X) (hI : Iv k X) (hk : k + 1 ≤ 1000) : ∃ h', sh_X5_dayOn h 120 = some h' ∧ MR h' (dyS X) ∧ DF h h' ∧ h'.1 120 12 = h.1 120 12 + nI (dLo X) := by
  have hP := hI.2.1
  unfold sh_X5_dayOn
  refine exE (lp (fun n (s : Hp × Int32) => b_X5_dayOn_2 n s.1 120 s.2) (fun i s => s.2 = nI i ∧ MR s.1 (mor X i) ∧ DF h s.1 ∧ s.1.1 120 12 = h.1 120 12) (fun h' => MR h' (dyS X) ∧ DF h h' ∧ h'.1 120 12 = h.1 120 12 + nI (dLo X)) (X.1 0 0) (fun n i s hi hs => Or.inl ?_) (fun n s hs => ?_) 1000 0 (h, nI 0) (by omega) ⟨rfl, hm, DF.rf h, rfl⟩ (by omega)) (fun r h1 h2 => ⟨r, h2, h1⟩)
  · obtain ⟨w, x⟩ := s
    obtain ⟨e1, e2, e3, e4⟩ := hs
    dsimp only at e1 e2 e3 e4
    subst e1
    have hIi := Iv_mor hI hk i (by omega)
    have e0 : (mor X i).1 0 0 = X.1 0 0 := mor_S X i (by omega)
    obtain ⟨h', g1, g2, g3, g4⟩ := m_give e2 hIi (p := i) (by rw [e0]; exact hi)
    refine ⟨(h', nI (i + 1)), ⟨rfl, g2, e3.tr g3, g4.trans e4⟩, ?_⟩
    show f_X5_dayOn_2 (b_X5_dayOn_2 n) w 120 (nI i) = _
    unfold f_X5_dayOn_2
    rw [e2.1 0 (by decide), e0, g1]
    simp (disch := omega) only [L0, L1, L2, L3, L4, L5, L6, L7, L8, L9, L10, L11, L12, L13, L14, L15, L16, L20, L21, L42, L44, L48, L57, L59, L60, L63, L64, L99, L108, L112, L255, L462, L999, L9999, nI_add, pk_mul, nI_leI, nI_ltI, nI_eq, Option.bind_some]
    rw [if_neg (by omega)]
  · obtain ⟨w, x⟩ := s
    obtain ⟨e1, e2, e3, e4⟩ := hs
    dsimp only at e1 e2 e3 e4
    subst e1
    have hIi := Iv_mor hI hk (X.1 0 0) (Nat.le_refl _)
    have e0 : (mor X (X.1 0 0)).1 0 0 = X.1 0 0 := mor_S X _ (by omega)
    obtain ⟨h', g1, g2, g3, g4⟩ := m_endDay e2 hIi
    refine ⟨h', ⟨g2, e3.tr g3, by rw [g4, e4]; rfl⟩, ?_⟩
    show f_X5_dayOn_2 (b_X5_dayOn_2 n) w 120 (nI (X.1 0 0)) = _
    unfold f_X5_dayOn_2
    rw [e2.1 0 (by decide), e0, if_pos (nI_le (Nat.le_refl _) (by omega)), g1]
    rfl
-- what is lost in n days
def itL (X : St) : Nat → Nat
  | 0 => 0
  | n + 1 => itL X n + dLo (itD X n)
set_option maxHeartbeats 400000 in
theorem m_run (hm : MR h X) (hI : Iv k X) {m : Nat} (h6 : m ≤ 60) (hk : k + m ≤ 1000) : ∃ h', sh_X5_run h 120 (nI m) = some h' ∧ MR h' (itD X m) ∧ DF h h' ∧ h'.1 120 12 = h.1 120 12 + nI (itL X m) := by
  unfold sh_X5_run
  refine exE (lp (fun n (s : Hp × Int32) => b_X5_run_2 n s.1 120 (nI m) s.2) (fun i s => s.2 = nI i ∧ MR s.1 (itD X i) ∧ DF h s.1 ∧ s.1.1 120 12 = h.1 120 12 + nI (itL X i)) (fun h' => MR h' (itD X m) ∧ DF h h' ∧ h'.1 120 12 = h.1 120 12 + nI (itL X m)) m (fun n i s hi hs => Or.inl ?_) (fun n s hs => ?_) 1000 0 (h, nI 0) (by omega) ⟨rfl, hm, DF.rf h, by show _ = h.1 120 12 + nI 0; rw [show nI 0 = (0 : Int32) from rfl, Int32.add_zero]⟩ (by omega)) (fun r h1 h2 => ⟨r, h2, h1⟩)
  · obtain ⟨w, x⟩ := s
    obtain ⟨e1, e2, e3, e4⟩ := hs
    dsimp only at e1 e2 e3 e4
    subst e1
    obtain ⟨h', g1, g2, g3, g4⟩ := m_dayOn e2 (Iv_itD hI i (by omega)) (by omega)
    refine ⟨(h', nI (i + 1)), ⟨rfl, g2, e3.tr g3, ?_⟩, ?_⟩
    · show h'.1 120 12 = h.1 120 12 + nI (itL X i + dLo (itD X i))
      rw [g4, e4, Int32.add_assoc, nI_add]
    · show f_X5_run_2 (b_X5_run_2 n) w 120 (nI m) (nI i) = _
      unfold f_X5_run_2
      simp (disch := omega) only [L0, L1, L2, L3, L4, L5, L6, L7, L8, L9, L10, L11, L12, L13, L14, L15, L16, L20, L21, L42, L44, L48, L57, L59, L60, L63, L64, L99, L108, L112, L255, L462, L999, L9999, nI_add, pk_mul, nI_leI, nI_ltI, nI_eq, Option.bind_some]
      rw [if_neg (by omega), g1]
      rfl
  · obtain ⟨w, x⟩ := s
    obtain ⟨e1, e2, e3, e4⟩ := hs
    dsimp only at e1 e2 e3 e4
    subst e1
    refine ⟨w, ⟨e2, e3, e4⟩, ?_⟩
    show f_X5_run_2 (b_X5_run_2 n) w 120 (nI m) (nI m) = _
    unfold f_X5_run_2
    rw [if_pos (nI_le (Nat.le_refl _) (by omega))]
end MW
