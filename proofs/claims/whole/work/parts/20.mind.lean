/-! PURE: in mind; the first queries -/
set_option maxHeartbeats 400000 in
theorem v10 : isV 10 := ⟨0, by decide, rfl⟩
set_option maxHeartbeats 400000 in
theorem v21 : isV 21 := ⟨1, by decide, rfl⟩
set_option maxHeartbeats 400000 in
theorem v32 : isV 32 := ⟨2, by decide, rfl⟩
set_option maxHeartbeats 400000 in
theorem xf0 : rf 0 0 = 10 := rfl
set_option maxHeartbeats 400000 in
theorem xf1 : rf 0 1 = 21 := rfl
set_option maxHeartbeats 400000 in
theorem xf2 : rf 0 2 = 32 := rfl
set_option maxHeartbeats 400000 in
theorem xf3 : rf 0 3 = 1 := rfl
set_option maxHeartbeats 400000 in
theorem xf4 : rf 0 4 = 5 := rfl
set_option maxHeartbeats 400000 in
theorem xf5 : rf 0 5 = 7 := rfl
set_option maxHeartbeats 400000 in
theorem xf6 : rf 0 6 = 8 := rfl
set_option maxHeartbeats 400000 in
theorem xf7 : rf 0 7 = 9 := rfl
-- what is done in mind may touch
def MJ (c j : Nat) : Prop := (c = 120 ∧ (j = 1 ∨ j = 2 ∨ j = 4 ∨ j = 12 ∨ j = 30 ∨ j = 35)) ∨ c = 125 ∨ c = 126 ∨ c = 128 ∨ c = 134
def MF (h h' : Hp) : Prop := (∀ c j, ¬ MJ c j → h'.1 c j = h.1 c j) ∧ h'.2 = h.2
set_option maxHeartbeats 400000 in
theorem MF.rf (h : Hp) : MF h h := ⟨fun _ _ _ => rfl, rfl⟩
set_option maxHeartbeats 400000 in
theorem MF.tr {h h1 h2 : Hp} (a : MF h h1) (c : MF h1 h2) : MF h h2 := ⟨fun k j q => (c.1 k j q).trans (a.1 k j q), c.2.trans a.2⟩
set_option maxHeartbeats 400000 in
theorem DF.mf {h h' : Hp} (d : DF h h') : MF h h' := ⟨fun c j q => d.1 c j (by unfold MJ at q; unfold DJ; omega), d.2⟩
set_option maxHeartbeats 400000 in
theorem MF.wI (h : Hp) {c : Nat} (j : Nat) (v : Int32) (hc : MJ c j) : MF h (wI h c j v) := ⟨fun k i q => by
  rw [rdI, if_neg]
  rintro ⟨rfl, rfl⟩
  exact q hc, rfl⟩
section QM
variable {h h1 h2 : Hp} {k : Nat} {X Y : St}
set_option maxHeartbeats 400000 in
theorem m_open (hm : MR h X) : ∃ h1, sh_X5_open h 120 = some h1 ∧ TK 129 h 472 h1 ∧ MR h1 X := by
  obtain ⟨h1, e1, t⟩ := m_take h (c := 129) (Or.inl rfl)
  refine ⟨h1, ?_, t, hm.of (fun j hj => ?_) (fun c j g1 g2 => ?_)⟩
  · unfold sh_X5_open
    rw [mf16, L1, e1]
    rfl
  · rw [t.1, if_neg (by omega), if_neg (by omega), if_neg (by omega)]
  · rw [t.1, if_neg (by omega), if_neg (by omega), if_neg (by omega)]
set_option maxHeartbeats 400000 in
theorem m_close (t : TK 129 h 472 h1) (f : MF h1 h2) : ∃ h3, sh_X5_close h2 120 = some h3 ∧ Eq1 h h3 := by
  obtain ⟨h3, e1, g⟩ := m_put h2 (c := 129) (Or.inl rfl)
  refine ⟨h3, ?_, fun c j q => ?_, fun c j q => ?_⟩
  · unfold sh_X5_close
    rw [mf16, L0, e1]
    rfl
  · rw [g.1]
    by_cases w : ivP c j < 472
    · have := (ivP_iff w).mp rfl
      rw [if_pos w, f.1 129 _ (by unfold MJ; omega), t.1, if_pos ⟨rfl, w⟩, ← this.1, ← this.2]
    · have hn : ¬ MJ c j := by
        intro z
        apply w
        unfold MJ at z
        unfold Jn at q
        unfold ivP
        repeat' split
        all_goals omega
      unfold Jn at q
      rw [if_neg w, if_neg (by omega), if_neg (by omega), f.1 c j hn, t.1, if_neg (by omega), if_neg (by omega), if_neg (by omega)]
  · rw [g.2.1, f.2, t.2.1]
-- the class's mind becomes what is
set_option maxHeartbeats 400000 in
theorem c_mind (g : Gi k h X Y) : ∃ h1, sh_X3_become h 32 10 = some h1 ∧ VR h1 32 X ∧ Eq1 h h1 := by
  obtain ⟨h1, e1, e2, e3⟩ := p_become (h := h) v32 v10 (by decide)
  exact ⟨h1, e1, e3 X g.2.1, Eq1.vf e2 (by decide) (by decide)⟩
set_option maxHeartbeats 400000 in
theorem c_think (g : Gi k h X Y) {n : Nat} (hn : n ≤ 60) (hk : k + n ≤ 1000) : ∃ h1, sh_X4_think h 0 (nI n) = some h1 ∧ VR h1 32 (itD X n) ∧ Eq1 h h1 := by
  obtain ⟨h1, e1, e2, e3⟩ := c_mind g
  obtain ⟨h2, f1, f2, f3⟩ := p_passDays v32 e2 g.1 hn hk
  refine ⟨h2, ?_, f2, e3.tr (Eq1.vf f3 (by decide) (by decide))⟩
  unfold sh_X4_think
  rw [xf0, xf2, e1, Option.bind_some, f1]
  rfl
-- the end of a call: both stand alike again
def Fin (k : Nat) (h : Hp) : Prop := ∃ X Y, Gi (k + 1) h X Y
set_option maxHeartbeats 400000 in
theorem Gi.fin (g : Gi k h X Y) (hk : k ≤ 900) : Fin k h := ⟨X, Y, g.mono (by omega) (by omega)⟩
set_option maxHeartbeats 400000 in
theorem Gi.P (g : Gi k h X Y) : X.1 0 0 ≤ 6 := g.1.2.1
set_option maxHeartbeats 400000 in
theorem isR_neg {r : Int32} (hr : isR r) : ¬ r = 0 ∧ ¬ 0 ≤ r ∧ r ≠ 0 := by rcases hr with rfl | rfl | rfl | rfl | rfl <;> decide
-- one, and a number within: refused by both alike, or not
set_option maxHeartbeats 400000 in
theorem one_range (g : Gi k h X Y) (x1 x2 : Int32) {lo hi : Nat} (hlo : lo < 2 ^ 31) (hh : hi < 100000) : (∃ r, isR r ∧ sh_X4_ofOneRefusal h 0 x1 x2 (nI lo) (nI hi) = some r ∧ ∀ h', MR h' X → sh_X5_wrongOne h' 120 x1 x2 (nI lo) (nI hi) = some r) ∨ (∃ p j, p < X.1 0 0 ∧ x1 = nI p ∧ lo ≤ j ∧ j ≤ hi ∧ x2 = nI j ∧ sh_X4_ofOneRefusal h 0 x1 x2 (nI lo) (nI hi) = some 0 ∧ ∀ h', MR h' X → sh_X5_wrongOne h' 120 x1 x2 (nI lo) (nI hi) = some 0) := by
  unfold sh_X4_ofOneRefusal b_X4_ofOneRefusal_22 sh_X5_wrongOne b_X5_wrongOne_19
  rw [xf0]
  rcases p_exists g.2.1 g.P x1 with ⟨p, h1, h2, h3⟩ | ⟨h1, h3⟩
  · have hone : ∀ h', MR h' X → sh_X5_isOne h' 120 x1 = some (nI 1) := fun h' hm => by
      rcases m_isOne hm g.P x1 with ⟨q, _, _, z⟩ | ⟨z, _⟩
      · exact z
      · exact absurd h2 (z p h1)
    obtain ⟨r, e1, _, e3⟩ := out2 h h x2 hlo hh
    have ew : ∀ h', sh_X5_wrongDays h' x2 (nI lo) (nI hi) = some r := fun h' => by
      obtain ⟨r', f1, f2, _⟩ := out2 h h' x2 hlo hh
      rw [e1] at f1
      rw [f2, Option.some.inj f1]
    rw [h3, Option.bind_some, if_neg (by decide), e1]
    rcases e3 with e3 | e3 | ⟨e3, j, j1, j2, j3⟩
    · exact Or.inl ⟨r, by unfold isR; simp [e3], rfl, fun h' hm => by rw [hone h' hm, Option.bind_some, if_neg (by decide), ew]; rfl⟩
    · exact Or.inl ⟨r, by unfold isR; simp [e3], rfl, fun h' hm => by rw [hone h' hm, Option.bind_some, if_neg (by decide), ew]; rfl⟩
    · exact Or.inr ⟨p, j, h1, h2, j1, j2, j3, by rw [e3]; rfl, fun h' hm => by rw [hone h' hm, Option.bind_some, if_neg (by decide), ew, e3]; rfl⟩
  · have hone : ∀ h', MR h' X → sh_X5_isOne h' 120 x1 = some (nI 0) := fun h' hm => by
      rcases m_isOne hm g.P x1 with ⟨q, z1, z2, _⟩ | ⟨_, z⟩
      · exact absurd z2 (h1 q z1)
      · exact z
    rw [h3, Option.bind_some, if_pos (by decide)]
    exact Or.inl ⟨-1, Or.inl rfl, rfl, fun h' hm => by rw [hone h' hm, Option.bind_some, if_pos (by decide)]⟩
set_option maxHeartbeats 400000 in
theorem range1 (h : Hp) (x : Int32) {lo hi : Nat} (hlo : lo < 2 ^ 31) (hh : hi < 100000) : (∃ r, isR r ∧ sh_X4_outside h x (nI lo) (nI hi) = some r ∧ ∀ h', sh_X5_wrongDays h' x (nI lo) (nI hi) = some r) ∨ (∃ j, lo ≤ j ∧ j ≤ hi ∧ x = nI j ∧ sh_X4_outside h x (nI lo) (nI hi) = some 0 ∧ ∀ h', sh_X5_wrongDays h' x (nI lo) (nI hi) = some 0) := by
  obtain ⟨r, e1, _, e3⟩ := out2 h h x hlo hh
  have ew : ∀ h', sh_X5_wrongDays h' x (nI lo) (nI hi) = some r := fun h' => by
    obtain ⟨r', f1, f2, _⟩ := out2 h h' x hlo hh
    rw [e1] at f1
    rw [f2, Option.some.inj f1]
  rcases e3 with e3 | e3 | ⟨e3, j, j1, j2, j3⟩
  · exact Or.inl ⟨r, by unfold isR; simp [e3], e1, ew⟩
  · exact Or.inl ⟨r, by unfold isR; simp [e3], e1, ew⟩
  · exact Or.inr ⟨j, j1, j2, j3, by rw [e1, e3], fun h' => by rw [ew, e3]⟩
-- what both answer in the same way
def Same (k : Nat) (CL MO : Hp → Option (Int32 × Hp)) : Prop := ∀ h X Y, Gi k h X Y → k ≤ 900 → ∃ r h1 h2, CL h = some (r, h1) ∧ MO h1 = some (r, h2) ∧ Fin k h2
set_option maxHeartbeats 400000 in
theorem a_after (x1 x2 : Int32) : Same k (fun h => sh_X4_after h 0 x1 x2) (fun h => sh_X5_after h 120 x1 x2) := by
  intro h X Y g hk
  dsimp only
  unfold sh_X4_after
  rw [L0, L60]
  rcases one_range g x1 x2 (lo := 0) (hi := 60) (by decide) (by decide) with ⟨r, hr, e1, e2⟩ | ⟨p, n, hp, rfl, _, hn, rfl, e1, e2⟩
  · obtain ⟨h1, f1, f2⟩ := both_refuse g hr
    obtain ⟨h3, f3, f4⟩ := f2 (th h1) (th_eq h1)
    refine ⟨r, h1, h3, ?_, ?_, f4.fin hk⟩
    · rw [e1, Option.bind_some, if_neg (isR_neg hr).1, f1]
      rfl
    · unfold sh_X5_after b_X5_after_33
      show Option.bind (sh_X5_wrongOne (th h1) 120 x1 x2 (nI 0) (nI 60)) _ = _
      rw [e2 (th h1) (g.2.2.1.of2 (fun j hj => ?_) (fun c j z1 z2 z3 => ?_) (fun j hj => ?_)), Option.bind_some, if_neg (isR_neg hr).2.1]
      · show Option.bind (sh_X5_refuse (th h1) 120 r) _ = _
        rw [f3]
        rfl
      all_goals sorry
  · sorry
end QM
