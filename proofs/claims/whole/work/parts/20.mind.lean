/-! PURE: in mind; the first queries -/
set_option maxHeartbeats 400000 in
theorem v10 : isV 10 := ⟨0, by decide, rfl⟩
set_option maxHeartbeats 400000 in
theorem v21 : isV 21 := ⟨1, by decide, rfl⟩
set_option maxHeartbeats 400000 in
theorem v32 : isV 32 := ⟨2, by decide, rfl⟩
set_option maxHeartbeats 400000 in
theorem xf0 : rf 0 0 = 10 := rfl
set_option maxHeartbeats 400000 in
theorem xf1 : rf 0 1 = 21 := rfl
set_option maxHeartbeats 400000 in
theorem xf2 : rf 0 2 = 32 := rfl
set_option maxHeartbeats 400000 in
theorem xf3 : rf 0 3 = 1 := rfl
set_option maxHeartbeats 400000 in
theorem xf4 : rf 0 4 = 5 := rfl
set_option maxHeartbeats 400000 in
theorem xf5 : rf 0 5 = 7 := rfl
set_option maxHeartbeats 400000 in
theorem xf6 : rf 0 6 = 8 := rfl
set_option maxHeartbeats 400000 in
theorem xf7 : rf 0 7 = 9 := rfl
-- what is done in mind may touch
def MJ (c j : Nat) : Prop := (c = 120 ∧ (j = 1 ∨ j = 2 ∨ j = 4 ∨ j = 12 ∨ j = 30 ∨ j = 35)) ∨ c = 125 ∨ c = 126 ∨ c = 128 ∨ c = 134
def MF (h h' : Hp) : Prop := (∀ c j, ¬ MJ c j → h'.1 c j = h.1 c j) ∧ h'.2 = h.2
set_option maxHeartbeats 400000 in
theorem MF.rf (h : Hp) : MF h h := ⟨fun _ _ _ => rfl, rfl⟩
set_option maxHeartbeats 400000 in
theorem MF.tr {h h1 h2 : Hp} (a : MF h h1) (c : MF h1 h2) : MF h h2 := ⟨fun k j q => (c.1 k j q).trans (a.1 k j q), c.2.trans a.2⟩
set_option maxHeartbeats 400000 in
theorem DF.mf {h h' : Hp} (d : DF h h') : MF h h' := ⟨fun c j q => d.1 c j (by unfold MJ at q; unfold DJ; omega), d.2⟩
set_option maxHeartbeats 400000 in
theorem MF.wI (h : Hp) {c : Nat} (j : Nat) (v : Int32) (hc : MJ c j) : MF h (wI h c j v) := ⟨fun k i q => by
  rw [rdI, if_neg]
  rintro ⟨rfl, rfl⟩
  exact q hc, rfl⟩
section QM
variable {h h1 h2 : Hp} {k : Nat} {X Y : St}
set_option maxHeartbeats 400000 in
theorem m_open (hm : MR h X) : ∃ h1, sh_X5_open h 120 = some h1 ∧ TK 129 h 472 h1 ∧ MR h1 X := by
  obtain ⟨h1, e1, t⟩ := m_take h (c := 129) (Or.inl rfl)
  refine ⟨h1, ?_, t, hm.of (fun j hj => ?_) (fun c j g1 g2 => ?_)⟩
  · unfold sh_X5_open
    rw [mf16, L1, e1]
    rfl
  · rw [t.1, if_neg (by omega), if_neg (by omega), if_neg (by omega)]
  · rw [t.1, if_neg (by omega), if_neg (by omega), if_neg (by omega)]
set_option maxHeartbeats 400000 in
theorem m_close (t : TK 129 h 472 h1) (f : MF h1 h2) : ∃ h3, sh_X5_close h2 120 = some h3 ∧ Eq1 h h3 := by
  obtain ⟨h3, e1, g⟩ := m_put h2 (c := 129) (Or.inl rfl)
  refine ⟨h3, ?_, fun c j q => ?_, fun c j q => ?_⟩
  · unfold sh_X5_close
    rw [mf16, L0, e1]
    rfl
  · rw [g.1]
    by_cases w : ivP c j < 472
    · have := (ivP_iff w).mp rfl
      rw [if_pos w, f.1 129 _ (by unfold MJ; omega), t.1, if_pos ⟨rfl, w⟩, ← this.1, ← this.2]
    · have hn : ¬ MJ c j := by
        intro z
        apply w
        unfold MJ at z
        unfold Jn at q
        unfold ivP
        repeat' split
        all_goals omega
      unfold Jn at q
      rw [if_neg w, if_neg (by omega), if_neg (by omega), f.1 c j hn, t.1, if_neg (by omega), if_neg (by omega), if_neg (by omega)]
  · rw [g.2.1, f.2, t.2.1]
-- the class's mind becomes what is
set_option maxHeartbeats 400000 in
theorem c_mind (g : Gi k h X Y) : ∃ h1, sh_X3_become h 32 10 = some h1 ∧ VR h1 32 X ∧ Eq1 h h1 := by
  obtain ⟨h1, e1, e2, e3⟩ := p_become (h := h) v32 v10 (by decide)
  exact ⟨h1, e1, e3 X g.2.1, Eq1.vf e2 (by decide) (by decide)⟩
set_option maxHeartbeats 400000 in
theorem c_think (g : Gi k h X Y) {n : Nat} (hn : n ≤ 60) (hk : k + n ≤ 1000) : ∃ h1, sh_X4_think h 0 (nI n) = some h1 ∧ VR h1 32 (itD X n) ∧ Eq1 h h1 := by
  obtain ⟨h1, e1, e2, e3⟩ := c_mind g
  obtain ⟨h2, f1, f2, f3⟩ := p_passDays v32 e2 g.1 hn hk
  refine ⟨h2, ?_, f2, e3.tr (Eq1.vf f3 (by decide) (by decide))⟩
  unfold sh_X4_think
  rw [xf0, xf2, e1, Option.bind_some, f1]
  rfl
-- the end of a call: both stand alike again
def Fin (k : Nat) (h : Hp) : Prop := ∃ X Y, Gi (k + 1) h X Y
set_option maxHeartbeats 400000 in
theorem Gi.fin (g : Gi k h X Y) (hk : k ≤ 900) : Fin k h := ⟨X, Y, g.mono (by omega) (by omega)⟩
set_option maxHeartbeats 400000 in
theorem Gi.P (g : Gi k h X Y) : X.1 0 0 ≤ 6 := g.1.2.1
set_option maxHeartbeats 400000 in
theorem isR_neg {r : Int32} (hr : isR r) : ¬ r = 0 ∧ ¬ 0 ≤ r ∧ r ≠ 0 := by rcases hr with rfl | rfl | rfl | rfl | rfl <;> decide
-- one, and a number within: refused by both alike, or not
set_option maxHeartbeats 400000 in
theorem one_range (g : Gi k h X Y) (x1 x2 : Int32) {lo hi : Nat} (hlo : lo < 2 ^ 31) (hh : hi < 100000) : (∃ r, isR r ∧ sh_X4_ofOneRefusal h 0 x1 x2 (nI lo) (nI hi) = some r ∧ ∀ h', MR h' X → sh_X5_wrongOne h' 120 x1 x2 (nI lo) (nI hi) = some r) ∨ (∃ p j, p < X.1 0 0 ∧ x1 = nI p ∧ lo ≤ j ∧ j ≤ hi ∧ x2 = nI j ∧ sh_X4_ofOneRefusal h 0 x1 x2 (nI lo) (nI hi) = some 0 ∧ ∀ h', MR h' X → sh_X5_wrongOne h' 120 x1 x2 (nI lo) (nI hi) = some 0) := by
  unfold sh_X4_ofOneRefusal b_X4_ofOneRefusal_22 sh_X5_wrongOne b_X5_wrongOne_19
  rw [xf0]
  rcases p_exists g.2.1 g.P x1 with ⟨p, h1, h2, h3⟩ | ⟨h1, h3⟩
  · have hone : ∀ h', MR h' X → sh_X5_isOne h' 120 x1 = some (nI 1) := fun h' hm => by
      rcases m_isOne hm g.P x1 with ⟨q, _, _, z⟩ | ⟨z, _⟩
      · exact z
      · exact absurd h2 (z p h1)
    obtain ⟨r, e1, _, e3⟩ := out2 h h x2 hlo hh
    have ew : ∀ h', sh_X5_wrongDays h' x2 (nI lo) (nI hi) = some r := fun h' => by
      obtain ⟨r', f1, f2, _⟩ := out2 h h' x2 hlo hh
      rw [e1] at f1
      rw [f2, Option.some.inj f1]
    rw [h3, Option.bind_some, if_neg (by decide), e1]
    rcases e3 with e3 | e3 | ⟨e3, j, j1, j2, j3⟩
    · exact Or.inl ⟨r, by unfold isR; simp [e3], rfl, fun h' hm => by rw [hone h' hm, Option.bind_some, if_neg (by decide), ew]; rfl⟩
    · exact Or.inl ⟨r, by unfold isR; simp [e3], rfl, fun h' hm => by rw [hone h' hm, Option.bind_some, if_neg (by decide), ew]; rfl⟩
    · exact Or.inr ⟨p, j, h1, h2, j1, j2, j3, by rw [e3]; rfl, fun h' hm => by rw [hone h' hm, Option.bind_some, if_neg (by decide), ew, e3]; rfl⟩
  · have hone : ∀ h', MR h' X → sh_X5_isOne h' 120 x1 = some (nI 0) := fun h' hm => by
      rcases m_isOne hm g.P x1 with ⟨q, z1, z2, _⟩ | ⟨_, z⟩
      · exact absurd z2 (h1 q z1)
      · exact z
    rw [h3, Option.bind_some, if_pos (by decide)]
    exact Or.inl ⟨-1, Or.inl rfl, rfl, fun h' hm => by rw [hone h' hm, Option.bind_some, if_pos (by decide)]⟩
set_option maxHeartbeats 400000 in
theorem range1 (h : Hp) (x : Int32) {lo hi : Nat} (hlo : lo < 2 ^ 31) (hh : hi < 100000) : (∃ r, isR r ∧ sh_X4_outside h x (nI lo) (nI hi) = some r ∧ ∀ h', sh_X5_wrongDays h' x (nI lo) (nI hi) = some r) ∨ (∃ j, lo ≤ j ∧ j ≤ hi ∧ x = nI j ∧ sh_X4_outside h x (nI lo) (nI hi) = some 0 ∧ ∀ h', sh_X5_wrongDays h' x (nI lo) (nI hi) = some 0) := by
  obtain ⟨r, e1, _, e3⟩ := out2 h h x hlo hh
  have ew : ∀ h', sh_X5_wrongDays h' x (nI lo) (nI hi) = some r := fun h' => by
    obtain ⟨r', f1, f2, _⟩ := out2 h h' x hlo hh
    rw [e1] at f1
    rw [f2, Option.some.inj f1]
  rcases e3 with e3 | e3 | ⟨e3, j, j1, j2, j3⟩
  · exact Or.inl ⟨r, by unfold isR; simp [e3], e1, ew⟩
  · exact Or.inl ⟨r, by unfold isR; simp [e3], e1, ew⟩
  · exact Or.inr ⟨j, j1, j2, j3, by rw [e1, e3], fun h' => by rw [ew, e3]⟩
-- what both answer in the same way
def Res (k : Nat) (h : Hp) (CL MO : Hp → Option (Int32 × Hp)) : Prop := ∃ r h1 h2, CL h = some (r, h1) ∧ MO h1 = some (r, h2) ∧ Fin k h2
def Same (k : Nat) (CL MO : Hp → Option (Int32 × Hp)) : Prop := ∀ h X Y, Gi k h X Y → k ≤ 900 → Res k h CL MO
set_option maxHeartbeats 400000 in
theorem m_mind (hm : MR h X) : ∃ h1, sh_X5_open h 120 = some h1 ∧ MR h1 X ∧ ∀ h2, MF h1 h2 → ∃ h3, sh_X5_close h2 120 = some h3 ∧ Eq1 h h3 := by
  obtain ⟨h1, e1, e2, e3⟩ := m_open hm
  exact ⟨h1, e1, e3, fun h2 f => m_close e2 f⟩
set_option maxHeartbeats 400000 in
theorem s_ref {CL MO : Hp → Option (Int32 × Hp)} (g : Gi k h X Y) (hk : k ≤ 900) {r : Int32} (hr : isR r) (hc : CL h = Option.bind (sh_X4_refuse h 0 r) fun q => some (q.1, q.2)) (hm : ∀ h1, (∀ c j, c ≠ 9 → h1.1 c j = h.1 c j) → h1.2 = h.2 → MR (th h1) X → MO h1 = Option.bind (sh_X5_refuse (th h1) 120 r) fun q => some (q.1, q.2)) : Res k h CL MO := by
  obtain ⟨j, hj, e1, e2⟩ := c_refuse hr h
  have hd : ∀ c i, c ≠ 9 → (wI h 9 j (h.1 9 j + 1)).1 c i = h.1 c i := fun c i hc => by rw [rdI, if_neg (by omega)]
  have hM : MR (th (wI h 9 j (h.1 9 j + 1))) X := by
    refine g.2.2.1.of (fun i hi => ?_) (fun c i h1 h2 => ?_)
    · unfold th
      rw [rdI, if_neg (by omega), hd _ _ (by decide)]
    · unfold th
      rw [rdI, if_neg (by omega), hd _ _ (by omega)]
  refine ⟨r, wI h 9 j (h.1 9 j + 1), wI (th (wI h 9 j (h.1 9 j + 1))) 127 j ((th (wI h 9 j (h.1 9 j + 1))).1 127 j + 1), ?_, ?_, (g.ref (th_eq _) hj).fin hk⟩
  · rw [hc, e1]
    rfl
  · rw [hm _ hd rfl hM, e2]
    rfl
set_option maxHeartbeats 400000 in
theorem s_ok {CL MO : Hp → Option (Int32 × Hp)} (g : Gi k h X Y) (hk : k ≤ 900) {r : Int32} (hc : CL h = some (r, h1)) (e1 : Eq1 h h1) (hm : MO h1 = some (r, h2)) (e2 : Eq1 (th h1) h2) : Res k h CL MO :=
  ⟨r, h1, h2, hc, hm, ((g.eq e1).eq ((th_eq h1).tr e2)).fin hk⟩
set_option maxHeartbeats 400000 in
theorem a_after (x1 x2 : Int32) : Same k (fun h => sh_X4_after h 0 x1 x2) (fun h => sh_X5_after h 120 x1 x2) := by
  intro h X Y g hk
  rcases one_range g x1 x2 (lo := 0) (hi := 60) (by decide) (by decide) with ⟨r, hr, e1, e2⟩ | ⟨p, n, hp, rfl, _, hn, rfl, e1, e2⟩
  · refine s_ref g hk hr ?_ (fun h1 _ _ m => ?_)
    · show Option.bind (sh_X4_ofOneRefusal h 0 x1 x2 (nI 0) (nI 60)) _ = _
      rw [e1, Option.bind_some, if_neg (isR_neg hr).1]
    · show Option.bind (sh_X5_wrongOne (th h1) 120 x1 x2 (nI 0) (nI 60)) _ = _
      rw [e2 _ m, Option.bind_some, if_neg (isR_neg hr).2.1]
      rfl
  · have hP := g.P
    obtain ⟨h1, f1, f2, f3⟩ := c_think g hn (by omega)
    have g1 := (g.eq f3).th
    obtain ⟨h2, o1, o2, o3⟩ := m_mind g1.2.2.1
    obtain ⟨h3, r1, r2, r3, _⟩ := m_run o2 g1.1 hn (by omega)
    obtain ⟨h4, c1, c2⟩ := o3 h3 r3.mf
    refine s_ok g hk (r := nI ((itD X n).1 4 p)) (h1 := h1) (h2 := h4) ?_ f3 ?_ c2
    · show Option.bind (sh_X4_ofOneRefusal h 0 (nI p) (nI n) (nI 0) (nI 60)) _ = _
      rw [e1, Option.bind_some, if_pos rfl, f1, Option.bind_some, xf2, ld_has v32 f2 (by omega)]
      rfl
    · show Option.bind (sh_X5_wrongOne (th h1) 120 (nI p) (nI n) (nI 0) (nI 60)) _ = _
      rw [e2 _ g1.2.2.1, Option.bind_some, if_pos (by decide)]
      show Option.bind (sh_X5_hasAfter (th h1) 120 (nI p) (nI n)) _ = _
      unfold sh_X5_hasAfter
      rw [o1, Option.bind_some, r1, Option.bind_some, md_has r2 (by omega), Option.bind_some, c1]
      rfl
set_option maxHeartbeats 400000 in
theorem Iv.P (hI : Iv k X) : X.1 0 0 ≤ 6 := hI.2.1
set_option maxHeartbeats 400000 in
theorem sumH_le (hI : Iv k X) : sumH X ≤ 59994 := by
  have := sm_le (f := fun p => X.1 4 p) (B := 9999) (n := X.1 0 0) (fun i hi => (hI.2.2.2.2.2.2.2.2.1 i (by have := hI.P; omega)).2.2.1)
  have hP := hI.P
  unfold sumH
  have : X.1 0 0 * 9999 ≤ 6 * 9999 := Nat.mul_le_mul_right _ hP
  omega
set_option maxHeartbeats 400000 in
theorem m_allAfter (hm : MR h X) (hI : Iv k X) {n : Nat} (hn : n ≤ 60) (hk : k ≤ 900) : ∃ h', sh_X5_allAfter h 120 (nI n) = some (nI (sumH (itD X n)), h') ∧ Eq1 h h' := by
  obtain ⟨h2, o1, o2, o3⟩ := m_mind hm
  obtain ⟨h3, r1, r2, r3, _⟩ := m_run o2 hI hn (by omega)
  obtain ⟨h4, c1, c2⟩ := o3 h3 r3.mf
  refine ⟨h4, ?_, c2⟩
  unfold sh_X5_allAfter
  rw [o1, Option.bind_some, r1, Option.bind_some, m_all r2 (Iv_itD hI n (by omega)).P, Option.bind_some, c1]
  rfl
set_option maxHeartbeats 400000 in
theorem a_all (x1 : Int32) : Same k (fun h => sh_X4_all h 0 x1) (fun h => sh_X5_all_ h 120 x1) := by
  intro h X Y g hk
  rcases range1 h x1 (lo := 0) (hi := 60) (by decide) (by decide) with ⟨r, hr, e1, e2⟩ | ⟨n, _, hn, rfl, e1, e2⟩
  · refine s_ref g hk hr ?_ (fun h1 _ _ m => ?_)
    · show Option.bind (sh_X4_outside h x1 (nI 0) (nI 60)) _ = _
      rw [e1, Option.bind_some, if_neg (isR_neg hr).1]
    · show Option.bind (sh_X5_wrongDays (th h1) x1 (nI 0) (nI 60)) _ = _
      rw [e2, Option.bind_some, if_neg (isR_neg hr).2.1]
      rfl
  · obtain ⟨h1, f1, f2, f3⟩ := c_think g hn (by omega)
    have g1 := (g.eq f3).th
    obtain ⟨h4, c1, c2⟩ := m_allAfter g1.2.2.1 g1.1 hn hk
    refine s_ok g hk (r := nI (sumH (itD X n))) (h1 := h1) (h2 := h4) ?_ f3 ?_ c2
    · show Option.bind (sh_X4_outside h (nI n) (nI 0) (nI 60)) _ = _
      rw [e1, Option.bind_some, if_pos rfl, f1, Option.bind_some, xf2, p_sumHas v32 f2 (Iv_itD g.1 n (by omega)).P]
      rfl
    · show Option.bind (sh_X5_wrongDays (th h1) (nI n) (nI 0) (nI 60)) _ = _
      rw [e2, Option.bind_some, if_pos (by decide)]
      show Option.bind (sh_X5_allAfter (th h1) 120 (nI n)) _ = _
      rw [c1]
      rfl
set_option maxHeartbeats 400000 in
theorem a_richest (x1 : Int32) : Same k (fun h => sh_X4_richest h 0 x1) (fun h => sh_X5_richest h 120 x1) := by
  intro h X Y g hk
  rcases range1 h x1 (lo := 0) (hi := 60) (by decide) (by decide) with ⟨r, hr, e1, e2⟩ | ⟨n, _, hn, rfl, e1, e2⟩
  · refine s_ref g hk hr ?_ (fun h1 _ _ m => ?_)
    · show Option.bind (sh_X4_outside h x1 (nI 0) (nI 60)) _ = _
      rw [e1, Option.bind_some, if_neg (isR_neg hr).1]
    · show Option.bind (sh_X5_wrongDays (th h1) x1 (nI 0) (nI 60)) _ = _
      rw [e2, Option.bind_some, if_neg (isR_neg hr).2.1]
      rfl
  · obtain ⟨h1, f1, f2, f3⟩ := c_think g hn (by omega)
    have g1 := (g.eq f3).th
    obtain ⟨h2, o1, o2, o3⟩ := m_mind g1.2.2.1
    obtain ⟨h3, r1, r2, r3, _⟩ := m_run o2 g1.1 hn (by omega)
    obtain ⟨h4, c1, c2⟩ := o3 h3 r3.mf
    refine s_ok g hk (r := rcI (rcs (itD X n) ((itD X n).1 0 0))) (h1 := h1) (h2 := h4) ?_ f3 ?_ c2
    · show Option.bind (sh_X4_outside h (nI n) (nI 0) (nI 60)) _ = _
      rw [e1, Option.bind_some, if_pos rfl, f1, Option.bind_some, xf2]
      show Option.bind (sh_X3_richestAbove h1 32 (thr none)) _ = _
      rw [p_richest v32 f2 (Iv_itD g.1 n (by omega)) none (by intro n h; cases h)]
      rfl
    · show Option.bind (sh_X5_wrongDays (th h1) (nI n) (nI 0) (nI 60)) _ = _
      rw [e2, Option.bind_some, if_pos (by decide)]
      show Option.bind (sh_X5_open (th h1) 120) _ = _
      rw [o1, Option.bind_some, r1, Option.bind_some, m_richest r2 (Iv_itD g1.1 n (by omega)), Option.bind_some, c1]
      rfl
set_option maxHeartbeats 400000 in
theorem a_grows (x1 : Int32) : Same k (fun h => sh_X4_grows h 0 x1) (fun h => sh_X5_grows h 120 x1) := by
  intro h X Y g hk
  rcases range1 h x1 (lo := 1) (hi := 60) (by decide) (by decide) with ⟨r, hr, e1, e2⟩ | ⟨n, _, hn, rfl, e1, e2⟩
  · refine s_ref g hk hr ?_ (fun h1 _ _ m => ?_)
    · show Option.bind (sh_X4_outside h x1 (nI 1) (nI 60)) _ = _
      rw [e1, Option.bind_some, if_neg (isR_neg hr).1]
    · show Option.bind (sh_X5_wrongDays (th h1) x1 (nI 1) (nI 60)) _ = _
      rw [e2, Option.bind_some, if_neg (isR_neg hr).2.1]
      rfl
  · obtain ⟨h1, f1, f2, f3⟩ := c_think g hn (by omega)
    have g1 := (g.eq f3).th
    obtain ⟨h4, c1, c2⟩ := m_allAfter g1.2.2.1 g1.1 hn hk
    have s1 := sumH_le g.1
    have s2 := sumH_le (Iv_itD g.1 n (by omega))
    refine s_ok g hk (r := if sumH X < sumH (itD X n) then 1 else if sumH (itD X n) = sumH X then 0 else 2) (h1 := h1) (h2 := h4) ?_ f3 ?_ c2
    · show Option.bind (sh_X4_outside h (nI n) (nI 1) (nI 60)) _ = _
      rw [e1, Option.bind_some, if_pos rfl, f1, Option.bind_some, xf2, xf0, p_sumHas v32 f2 (Iv_itD g.1 n (by omega)).P, Option.bind_some, p_sumHas v10 (g.eq f3).2.1 g.P, Option.bind_some]
      have q : (nI (sumH (itD X n)) - nI (sumH X)).toInt = (sumH (itD X n) : Int) - sumH X := pk_sub_toInt (by omega) (by omega)
      have q0 : (0 : Int32).toInt = 0 := by decide
      by_cases w1 : sumH X < sumH (itD X n)
      · rw [if_neg (show ¬ nI (sumH (itD X n)) - nI (sumH X) ≤ 0 from by rw [Int32.le_iff_toInt_le, q, q0]; omega), if_pos w1]
        rfl
      · rw [if_pos (show nI (sumH (itD X n)) - nI (sumH X) ≤ 0 from by rw [Int32.le_iff_toInt_le, q, q0]; omega), if_neg w1]
        by_cases w2 : sumH (itD X n) = sumH X
        · rw [if_pos (show nI (sumH (itD X n)) - nI (sumH X) = 0 from by apply Int32.toInt_inj.mp; rw [q, q0]; omega), if_pos w2]
          rfl
        · rw [if_neg (show ¬ nI (sumH (itD X n)) - nI (sumH X) = 0 from fun z => by rw [z, q0] at q; omega), if_neg w2]
          rfl
    · show Option.bind (sh_X5_wrongDays (th h1) (nI n) (nI 1) (nI 60)) _ = _
      rw [e2, Option.bind_some, if_pos (by decide)]
      show Option.bind (sh_X5_all (th h1) 120) _ = _
      rw [m_all g1.2.2.1 g.P, Option.bind_some]
      show Option.bind (sh_X5_allAfter (th h1) 120 (nI n)) _ = _
      rw [c1, Option.bind_some]
      by_cases w1 : sumH X < sumH (itD X n)
      · rw [if_neg (show ¬ nI (sumH (itD X n)) ≤ nI (sumH X) from by rw [nI_leI (by omega) (by omega)]; omega), if_pos w1]
        rfl
      · rw [if_pos (show nI (sumH (itD X n)) ≤ nI (sumH X) from by rw [nI_leI (by omega) (by omega)]; omega), if_neg w1]
        by_cases w2 : sumH (itD X n) = sumH X
        · rw [if_pos (show nI (sumH (itD X n)) = nI (sumH X) from by rw [w2]), if_pos w2]
          rfl
        · rw [if_neg (show ¬ nI (sumH (itD X n)) = nI (sumH X) from by rw [nI_eq (by omega) (by omega)]; exact w2), if_neg w2]
          rfl
-- lost days
set_option maxHeartbeats 400000 in
theorem c_lost34 (hI : Iv k X) {n : Nat} (hn : n ≤ 60) (hk : k + n ≤ 1000) : ∀ (f i fuel : Nat) (h : Hp), f + i = n → f < fuel → VR h 32 (itD X i) → ∃ h', b_X4_lost_34 fuel h 0 (nI n) (nI (itL X i)) (nI i) = some (nI (itL X n), h') ∧ VF 32 h h'
  | f, i, 0, h, e, hf, hv => by omega
  | 0, i, fuel + 1, h, e, hf, hv => by
    have e' : i = n := by omega
    subst e'
    refine ⟨h, ?_, VF.rf _ _⟩
    show f_X4_lost_34 (b_X4_lost_34 fuel) h 0 (nI i) (nI (itL X i)) (nI i) = _
    unfold f_X4_lost_34
    rw [if_pos (nI_le (Nat.le_refl _) (by omega))]
  | f + 1, i, fuel + 1, h, e, hf, hv => by
    obtain ⟨h1, e1, e2, e3⟩ := p_passDay v32 hv (Iv_itD hI i (by omega)) (by omega)
    obtain ⟨h2, f1, f2⟩ := c_lost34 hI hn hk f (i + 1) fuel h1 (by omega) (by omega) e2
    refine ⟨h2, ?_, e3.tr f2⟩
    show f_X4_lost_34 (b_X4_lost_34 fuel) h 0 (nI n) (nI (itL X i)) (nI i) = _
    unfold f_X4_lost_34
    rw [if_neg (nI_ge (by omega) (by omega)), xf2, e1, Option.bind_some, L1, nI_add, nI_add]
    exact f1
set_option maxHeartbeats 400000 in
theorem a_lost (x1 : Int32) : Same k (fun h => sh_X4_lost h 0 x1) (fun h => sh_X5_lost h 120 x1) := by
  intro h X Y g hk
  rcases range1 h x1 (lo := 0) (hi := 60) (by decide) (by decide) with ⟨r, hr, e1, e2⟩ | ⟨n, _, hn, rfl, e1, e2⟩
  · refine s_ref g hk hr ?_ (fun h1 _ _ m => ?_)
    · show Option.bind (sh_X4_outside h x1 (nI 0) (nI 60)) _ = _
      rw [e1, Option.bind_some, if_neg (isR_neg hr).1]
    · show Option.bind (sh_X5_wrongDays (th h1) x1 (nI 0) (nI 60)) _ = _
      rw [e2, Option.bind_some, if_neg (isR_neg hr).2.1]
      rfl
  · obtain ⟨h0, a1, a2, a3⟩ := c_mind g
    obtain ⟨h1, f1, f2⟩ := c_lost34 g.1 hn (by omega) n 0 1000 h0 rfl (by omega) a2
    have f3 : Eq1 h h1 := a3.tr (Eq1.vf f2 (by decide) (by decide))
    have g1 := (g.eq f3).th
    obtain ⟨h2, o1, o2, o3⟩ := m_mind g1.2.2.1
    have o2' : MR (wI h2 120 12 (nI 0)) X := o2.of (fun j hj => by rw [rdI, if_neg (by omega)]) (fun c j q1 q2 => by rw [rdI, if_neg (by omega)])
    obtain ⟨h3, r1, r2, r3, r4⟩ := m_run o2' g1.1 hn (by omega)
    obtain ⟨h4, c1, c2⟩ := o3 h3 ((MF.wI h2 12 (nI 0) (by unfold MJ; omega)).tr r3.mf)
    refine s_ok g hk (r := nI (itL X n)) (h1 := h1) (h2 := h4) ?_ f3 ?_ c2
    · show Option.bind (sh_X4_outside h (nI n) (nI 0) (nI 60)) _ = _
      rw [e1, Option.bind_some, if_pos rfl, xf2, xf0, a1, Option.bind_some]
      exact f1
    · show Option.bind (sh_X5_wrongDays (th h1) (nI n) (nI 0) (nI 60)) _ = _
      rw [e2, Option.bind_some, if_pos (by decide)]
      show Option.bind (sh_X5_open (th h1) 120) _ = _
      rw [o1, Option.bind_some, L0, r1, Option.bind_some, c1, Option.bind_some, r4, rdI, if_pos ⟨rfl, rfl⟩, nI_add, Nat.zero_add]
-- enough
def en (X : St) (p n : Nat) : Nat → Nat → Int32
  | 0, _ => -9
  | f + 1, i => if (itD X i).1 4 p < n then en X p n f (i + 1) else nI i
set_option maxHeartbeats 400000 in
theorem c_en35 (hI : Iv k X) {p n : Nat} (hp : p < 6) (hn : n ≤ 9999) (hk : k ≤ 900) : ∀ (f i fuel : Nat) (h : Hp), f + i = 61 → f < fuel → VR h 32 (itD X i) → ∃ h', b_X4_enough_35 fuel h 0 (nI p) (nI n) (nI i) = some (en X p n f i, h') ∧ VF 32 h h'
  | f, i, 0, h, e, hf, hv => by omega
  | 0, i, fuel + 1, h, e, hf, hv => by
    refine ⟨h, ?_, VF.rf _ _⟩
    show f_X4_enough_35 (b_X4_enough_35 fuel) h 0 (nI p) (nI n) (nI i) = _
    unfold f_X4_enough_35
    rw [L60, if_pos ((nI_ltI (by omega) (by omega)).mpr (by omega))]
    rfl
  | f + 1, i, fuel + 1, h, e, hf, hv => by
    have hh := ((Iv_itD hI i (by omega)).2.2.2.2.2.2.2.2.1 p hp).2.2.1
    by_cases w : (itD X i).1 4 p < n
    · obtain ⟨h1, e1, e2, e3⟩ := p_passDay v32 hv (Iv_itD hI i (by omega)) (by omega)
      obtain ⟨h2, f1, f2⟩ := c_en35 hI hp hn hk f (i + 1) fuel h1 (by omega) (by omega) e2
      refine ⟨h2, ?_, e3.tr f2⟩
      show f_X4_enough_35 (b_X4_enough_35 fuel) h 0 (nI p) (nI n) (nI i) = _
      unfold f_X4_enough_35 en
      rw [L60, if_neg (show ¬ nI 60 < nI i from by rw [nI_ltI (by omega) (by omega)]; omega), xf2, ld_has v32 hv hp, Option.bind_some, if_pos ((nI_ltI (by omega) (by omega)).mpr w), e1, Option.bind_some, L1, nI_add, if_pos w]
      exact f1
    · refine ⟨h, ?_, VF.rf _ _⟩
      show f_X4_enough_35 (b_X4_enough_35 fuel) h 0 (nI p) (nI n) (nI i) = _
      unfold f_X4_enough_35 en
      rw [L60, if_neg (show ¬ nI 60 < nI i from by rw [nI_ltI (by omega) (by omega)]; omega), xf2, ld_has v32 hv hp, Option.bind_some, if_neg (show ¬ nI ((itD X i).1 4 p) < nI n from by rw [nI_ltI (by omega) (by omega)]; exact w), if_neg w]
set_option maxHeartbeats 400000 in
theorem m_en33 (hI : Iv k X) {p n : Nat} (hp : p < 6) (hn : n ≤ 9999) (hk : k ≤ 900) (h0 : Hp) {g0 : Hp} (hc : ∀ h2, MF h0 h2 → ∃ h3, sh_X5_close h2 120 = some h3 ∧ Eq1 g0 h3) : ∀ (f i fuel : Nat) (h : Hp), f + i = 61 → f < fuel → MR h (itD X i) → MF h0 h → ∃ h', b_X5_enough_33 fuel h 120 (nI p) (nI n) (nI i) = some (en X p n f i, h') ∧ Eq1 g0 h'
  | f, i, 0, h, e, hf, hv, hm => by omega
  | 0, i, fuel + 1, h, e, hf, hv, hm => by
    obtain ⟨h3, c1, c2⟩ := hc h hm
    refine ⟨h3, ?_, c2⟩
    show f_X5_enough_33 (b_X5_enough_33 fuel) h 120 (nI p) (nI n) (nI i) = _
    unfold f_X5_enough_33 b_X5_enough_60
    have q : nI 60 < nI i := (nI_ltI (by omega) (by omega)).mpr (by omega)
    rw [L60, if_pos q, c1, Option.bind_some, if_pos q]
    rfl
  | f + 1, i, fuel + 1, h, e, hf, hv, hm => by
    have hh := ((Iv_itD hI i (by omega)).2.2.2.2.2.2.2.2.1 p hp).2.2.1
    have q : ¬ nI 60 < nI i := by rw [nI_ltI (by omega) (by omega)]; omega
    by_cases w : (itD X i).1 4 p < n
    · obtain ⟨h1, e1, e2, e3, _⟩ := m_dayOn hv (Iv_itD hI i (by omega)) (by omega)
      obtain ⟨h2, f1, f2⟩ := m_en33 hI hp hn hk h0 hc f (i + 1) fuel h1 (by omega) (by omega) e2 (hm.tr e3.mf)
      refine ⟨h2, ?_, f2⟩
      show f_X5_enough_33 (b_X5_enough_33 fuel) h 120 (nI p) (nI n) (nI i) = _
      unfold f_X5_enough_33 en
      rw [L60, if_neg q, md_has hv hp, Option.bind_some, if_neg (show ¬ nI n ≤ nI ((itD X i).1 4 p) from by rw [nI_leI (by omega) (by omega)]; omega), e1, Option.bind_some, L1, nI_add, if_pos w]
      exact f1
    · obtain ⟨h3, c1, c2⟩ := hc h hm
      refine ⟨h3, ?_, c2⟩
      show f_X5_enough_33 (b_X5_enough_33 fuel) h 120 (nI p) (nI n) (nI i) = _
      unfold f_X5_enough_33 en b_X5_enough_60
      rw [L60, if_neg q, md_has hv hp, Option.bind_some, if_pos (show nI n ≤ nI ((itD X i).1 4 p) from by rw [nI_leI (by omega) (by omega)]; omega), c1, Option.bind_some, if_neg q, if_neg w]
      rfl
set_option maxHeartbeats 400000 in
theorem a_enough (x1 x2 : Int32) : Same k (fun h => sh_X4_enough h 0 x1 x2) (fun h => sh_X5_enough h 120 x1 x2) := by
  intro h X Y g hk
  rcases one_range g x1 x2 (lo := 0) (hi := 9999) (by decide) (by decide) with ⟨r, hr, e1, e2⟩ | ⟨p, n, hp, rfl, _, hn, rfl, e1, e2⟩
  · refine s_ref g hk hr ?_ (fun h1 _ _ m => ?_)
    · show Option.bind (sh_X4_ofOneRefusal h 0 x1 x2 (nI 0) (nI 9999)) _ = _
      rw [e1, Option.bind_some, if_neg (isR_neg hr).1]
    · show Option.bind (sh_X5_wrongOne (th h1) 120 x1 x2 (nI 0) (nI 9999)) _ = _
      rw [e2 _ m, Option.bind_some, if_neg (isR_neg hr).2.1]
      rfl
  · have hP := g.P
    obtain ⟨h0, a1, a2, a3⟩ := c_mind g
    obtain ⟨h1, f1, f2⟩ := c_en35 g.1 (p := p) (by omega) hn hk 61 0 1000 h0 rfl (by omega) a2
    have f3 : Eq1 h h1 := a3.tr (Eq1.vf f2 (by decide) (by decide))
    have g1 := (g.eq f3).th
    obtain ⟨h2, o1, o2, o3⟩ := m_mind g1.2.2.1
    obtain ⟨h4, c1, c2⟩ := m_en33 g1.1 (p := p) (by omega) hn hk h2 o3 61 0 1000 h2 rfl (by omega) o2 (MF.rf h2)
    refine s_ok g hk (r := en X p n 61 0) (h1 := h1) (h2 := h4) ?_ f3 ?_ c2
    · show Option.bind (sh_X4_ofOneRefusal h 0 (nI p) (nI n) (nI 0) (nI 9999)) _ = _
      rw [e1, Option.bind_some, if_pos rfl, xf2, xf0, a1, Option.bind_some]
      exact f1
    · show Option.bind (sh_X5_wrongOne (th h1) 120 (nI p) (nI n) (nI 0) (nI 9999)) _ = _
      rw [e2 _ g1.2.2.1, Option.bind_some, if_pos (by decide)]
      show Option.bind (sh_X5_open (th h1) 120) _ = _
      rw [o1, Option.bind_some]
      exact c1
set_option maxHeartbeats 400000 in
theorem a_gives (x1 : Int32) : Same k (fun h => sh_X4_gives h 0 x1) (fun h => sh_X5_gives h 120 x1) := by
  intro h X Y g hk
  have hP := g.P
  rcases p_exists g.2.1 g.P x1 with ⟨p, h1, rfl, h3⟩ | ⟨h1, h3⟩
  · have g1 := g.th
    rcases m_isOne g1.2.2.1 hP (nI p) with ⟨q, _, _, z⟩ | ⟨z, _⟩
    · have ht : tgt X p < 10 := by rcases tgt_ok g.1 h1 with z | z <;> omega
      refine s_ok g hk (r := nI (gft X p)) (h1 := h) (h2 := th h) ?_ (Eq1.rf h) ?_ (Eq1.rf _)
      · show Option.bind (sh_X3_exists h 10 (nI p)) _ = _
        rw [h3, Option.bind_some, if_neg (by decide), xf0, p_gift v10 g.2.1 g.1 (by omega) ht]
        rfl
      · show Option.bind (sh_X5_isOne (th h) 120 (nI p)) _ = _
        rw [z, Option.bind_some, if_neg (by decide)]
        show Option.bind (sh_X5_byKind (th h) 120 (nI p)) _ = _
        rw [m_byKind g1.2.2.1 g1.1 h1]
        rfl
    · exact absurd rfl (z p h1)
  · refine s_ref g hk (r := -1) (Or.inl rfl) ?_ (fun h2 _ _ m => ?_)
    · show Option.bind (sh_X3_exists h 10 x1) _ = _
      rw [h3, Option.bind_some, if_pos (by decide)]
      rfl
    · show Option.bind (sh_X5_isOne (th h2) 120 x1) _ = _
      rcases m_isOne m hP x1 with ⟨q, z1, z2, _⟩ | ⟨_, z⟩
      · exact absurd z2 (h1 q z1)
      · rw [z, Option.bind_some, if_pos (by decide)]
        rfl
end QM
