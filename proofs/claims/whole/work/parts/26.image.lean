/-! PURE: image, restore, rest -/
section IM
variable {h h' h1 h2 : Hp} {k : Nat} {X Y : St}
def mA (j : Nat) : Nat := if j < 3 then 120 else if j < 9 then 121 else if j < 15 then 122 else if j < 21 then 123 else 124
def mJ (j : Nat) : Nat := if j = 0 then 0 else if j = 1 then 3 else if j = 2 then 5 else (j - 3) % 6
set_option maxHeartbeats 400000 in
theorem mAJ : ∀ i, i < 6 → mA (3 + i) = 121 ∧ mJ (3 + i) = i ∧ mA (9 + i) = 122 ∧ mJ (9 + i) = i ∧ mA (15 + i) = 123 ∧ mJ (15 + i) = i ∧ mA (21 + i) = 124 ∧ mJ (21 + i) = i := by decide
set_option maxHeartbeats 400000 in
theorem mAJ_inj : ∀ i, i < 27 → ∀ j, j < 27 → mA i = mA j → mJ i = mJ j → i = j := by decide +kernel
set_option maxHeartbeats 400000 in
theorem mAJ_rng : ∀ i, i < 27 → (mA i = 120 ∧ (mJ i = 0 ∨ mJ i = 3 ∨ mJ i = 5)) ∨ (121 ≤ mA i ∧ mA i ≤ 124) := by decide +kernel
def TM (h : Hp) (D : Nat → Prop) (g : Hp) : Prop := (∀ j, j < 27 → D j → g.1 137 j = h.1 (mA j) (mJ j)) ∧ (∀ c j, ¬ (c = 137 ∧ j < 27) → g.1 c j = h.1 c j) ∧ g.2 = h.2
def GM (h : Hp) (D : Nat → Prop) (g : Hp) : Prop := (∀ j, j < 27 → D j → g.1 (mA j) (mJ j) = h.1 137 j) ∧ (∀ c j, ¬ (c = 120 ∧ (j = 0 ∨ j = 3 ∨ j = 5)) → ¬ (121 ≤ c ∧ c ≤ 124) → g.1 c j = h.1 c j) ∧ g.2 = h.2
set_option maxHeartbeats 400000 in
theorem TM.step {D : Nat → Prop} {g : Hp} (h18 : h.1 120 18 = nI 1) (t : TM h D g) {e : Nat} (he : e < 27) : ∃ q, sh_X5_carryMore g 120 (nI e) (g.1 (mA e) (mJ e)) = some q ∧ TM h (fun j => D j ∨ j = e) (wI q.2 (mA e) (mJ e) q.1) := by
  have hr := mAJ_rng e he
  have e18 : g.1 120 18 = nI 1 := by rw [t.2.1 120 18 (by omega), h18]
  have ev : g.1 (mA e) (mJ e) = h.1 (mA e) (mJ e) := t.2.1 _ _ (by omega)
  refine ⟨(g.1 (mA e) (mJ e), wI g 137 e (g.1 (mA e) (mJ e))), ?_, fun j hj hD => ?_, fun c j hn => ?_, t.2.2⟩
  · unfold sh_X5_carryMore b_X5_carryMore_14
    rw [e18, if_neg (by decide), mf38, stI_n (a := 137) (show e < 27 from he) (by omega), Option.bind_some, ldI_n (a := 137) (show e < 27 from he) (by omega), Option.bind_some, rdI, if_pos ⟨rfl, rfl⟩]
  · show (wI (wI g 137 e (g.1 (mA e) (mJ e))) (mA e) (mJ e) (g.1 (mA e) (mJ e))).1 137 j = _
    rw [rdI, if_neg (by omega), rdI]
    by_cases w : j = e
    · rw [if_pos ⟨rfl, w⟩, w, ev]
    · rw [if_neg (by omega)]
      exact t.1 j hj (hD.elim id (fun z => absurd z w))
  · show (wI (wI g 137 e (g.1 (mA e) (mJ e))) (mA e) (mJ e) (g.1 (mA e) (mJ e))).1 c j = _
    rw [rdI]
    by_cases w : c = mA e ∧ j = mJ e
    · rw [if_pos w, w.1, w.2, ev]
    · rw [if_neg w, rdI, if_neg (by omega)]
      exact t.2.1 c j hn
set_option maxHeartbeats 400000 in
theorem GM.step {D : Nat → Prop} {g : Hp} (h18 : h.1 120 18 = nI 0) (t : GM h D g) {e : Nat} (he : e < 27) : ∃ q, sh_X5_carryMore g 120 (nI e) (g.1 (mA e) (mJ e)) = some q ∧ GM h (fun j => D j ∨ j = e) (wI q.2 (mA e) (mJ e) q.1) := by
  have hr := mAJ_rng e he
  have e18 : g.1 120 18 = nI 0 := by rw [t.2.1 120 18 (by omega) (by omega), h18]
  refine ⟨(g.1 137 e, g), ?_, fun j hj hD => ?_, fun c j h1 h2 => ?_, t.2.2⟩
  · unfold sh_X5_carryMore b_X5_carryMore_14
    rw [e18, if_pos (by decide), mf38, ldI_n (a := 137) (show e < 27 from he) (by omega), Option.bind_some]
  · show (wI g (mA e) (mJ e) (g.1 137 e)).1 (mA j) (mJ j) = _
    rw [rdI]
    by_cases w : mA j = mA e ∧ mJ j = mJ e
    · have := mAJ_inj j hj e he w.1 w.2
      rw [if_pos w, this, t.2.1 137 e (by omega) (by omega)]
    · rw [if_neg w]
      exact t.1 j hj (hD.elim id (fun z => absurd ⟨by rw [z], by rw [z]⟩ w))
  · show (wI g (mA e) (mJ e) (g.1 137 e)).1 c j = _
    rw [rdI, if_neg (by omega)]
    exact t.2.1 c j h1 h2
set_option maxHeartbeats 400000 in
theorem m_more50 (B : (Nat → Prop) → Hp → Prop) (hs : ∀ D g e, B D g → e < 27 → ∃ q, sh_X5_carryMore g 120 (nI e) (g.1 (mA e) (mJ e)) = some q ∧ B (fun j => D j ∨ j = e) (wI q.2 (mA e) (mJ e) q.1)) (hmo : ∀ D D' g, B D g → (∀ j, j < 27 → D' j → D j) → B D' g) : ∀ (f i fuel : Nat) (g : Hp), f + i = 6 → f < fuel → B (fun j => j < 3 ∨ (3 ≤ j ∧ (j - 3) % 6 < i)) g → ∃ h', b_X5_carryAll_50 fuel g 120 (nI i) = some h' ∧ B (fun _ => True) h'
  | f, i, 0, g, e, hf, b => by omega
  | 0, i, fuel + 1, g, e, hf, b => by
    refine ⟨g, ?_, hmo _ _ g b (fun j hj _ => by omega)⟩
    show f_X5_carryAll_50 (b_X5_carryAll_50 fuel) g 120 (nI i) = _
    unfold f_X5_carryAll_50
    rw [L6, if_pos (nI_le (by omega) (by omega))]
  | f + 1, i, fuel + 1, g, e, hf, b => by
    obtain ⟨a1, b1, a2, b2, a3, b3, a4, b4⟩ := mAJ i (by omega)
    obtain ⟨q1, c1, d1⟩ := hs _ g (3 + i) b (by omega)
    obtain ⟨q2, c2, d2⟩ := hs _ _ (9 + i) d1 (by omega)
    obtain ⟨q3, c3, d3⟩ := hs _ _ (15 + i) d2 (by omega)
    obtain ⟨q4, c4, d4⟩ := hs _ _ (21 + i) d3 (by omega)
    rw [a1, b1] at c1 d1 c2
    rw [a2, b2] at c2 d2 c3
    rw [a3, b3] at c3 d3 c4
    rw [a4, b4] at c4 d4
    have hi6 : i < 6 := by omega
    obtain ⟨h', e1, e2⟩ := m_more50 B hs hmo f (i + 1) fuel _ (by omega) (by omega) (hmo _ (fun j => j < 3 ∨ (3 ≤ j ∧ (j - 3) % 6 < i + 1)) _ d4 (fun j hj z => by omega))
    refine ⟨h', ?_, e2⟩
    show f_X5_carryAll_50 (b_X5_carryAll_50 fuel) g 120 (nI i) = _
    unfold f_X5_carryAll_50
    rw [L6, if_neg (nI_ge (by omega) (by omega)), mf6, mf7, mf8, mf9, ldI_n (a := 121) (show i < 6 from hi6) (by omega), Option.bind_some, L3, nI_add, c1, Option.bind_some, stI_n (a := 121) (show i < 6 from hi6) (by omega), Option.bind_some, ldI_n (a := 122) (show i < 6 from hi6) (by omega), Option.bind_some, L9, nI_add, c2, Option.bind_some, stI_n (a := 122) (show i < 6 from hi6) (by omega), Option.bind_some, ldI_n (a := 123) (show i < 6 from hi6) (by omega), Option.bind_some, L15, nI_add, c3, Option.bind_some, stI_n (a := 123) (show i < 6 from hi6) (by omega), Option.bind_some, ldI_n (a := 124) (show i < 6 from hi6) (by omega), Option.bind_some, L21, nI_add, c4, Option.bind_some, stI_n (a := 124) (show i < 6 from hi6) (by omega), Option.bind_some, L1, nI_add]
    exact e1
set_option maxHeartbeats 400000 in
theorem m_allM (B : (Nat → Prop) → Hp → Prop) (hs : ∀ D g e, B D g → e < 27 → ∃ q, sh_X5_carryMore g 120 (nI e) (g.1 (mA e) (mJ e)) = some q ∧ B (fun j => D j ∨ j = e) (wI q.2 (mA e) (mJ e) q.1)) (hmo : ∀ D D' g, B D g → (∀ j, j < 27 → D' j → D j) → B D' g) {v : Int32} (e1 : sh_X5_carryDays h 120 136 v = some h1) (b0 : B (fun _ => False) h1) : ∃ h', sh_X5_carryAll h 120 v = some h' ∧ B (fun _ => True) h' := by
  obtain ⟨q1, c1, d1⟩ := hs _ h1 0 b0 (by decide)
  obtain ⟨q2, c2, d2⟩ := hs _ _ 1 d1 (by decide)
  obtain ⟨q3, c3, d3⟩ := hs _ _ 2 d2 (by decide)
  obtain ⟨h', f1, f2⟩ := m_more50 B hs hmo 6 0 1000 _ rfl (by omega) (hmo _ (fun j => j < 3 ∨ (3 ≤ j ∧ (j - 3) % 6 < 0)) _ d3 (fun j hj z => by omega))
  refine ⟨h', ?_, f2⟩
  unfold sh_X5_carryAll
  rw [mf37, e1, Option.bind_some]
  show Option.bind (sh_X5_carryMore h1 120 (nI 0) (h1.1 (mA 0) (mJ 0))) _ = _
  rw [c1, Option.bind_some]
  show Option.bind (sh_X5_carryMore (wI q1.2 (mA 0) (mJ 0) q1.1) 120 (nI 1) ((wI q1.2 (mA 0) (mJ 0) q1.1).1 (mA 1) (mJ 1))) _ = _
  rw [c2, Option.bind_some]
  show Option.bind (sh_X5_carryMore (wI q2.2 (mA 1) (mJ 1) q2.1) 120 (nI 2) ((wI q2.2 (mA 1) (mJ 1) q2.1).1 (mA 2) (mJ 2))) _ = _
  rw [c3, Option.bind_some]
  exact f1
set_option maxHeartbeats 400000 in
theorem TM.mono {D D' : Nat → Prop} {g : Hp} (t : TM h D g) (hd : ∀ j, j < 27 → D' j → D j) : TM h D' g := ⟨fun j hj z => t.1 j hj (hd j hj z), t.2⟩
set_option maxHeartbeats 400000 in
theorem GM.mono {D D' : Nat → Prop} {g : Hp} (t : GM h D g) (hd : ∀ j, j < 27 → D' j → D j) : GM h D' g := ⟨fun j hj z => t.1 j hj (hd j hj z), t.2⟩
set_option maxHeartbeats 400000 in
theorem m_image (hm : MR h X) : ∃ h', sh_X5_carryAll h 120 (nI 1) = some h' ∧ MI h' X ∧ ∀ c j, ¬ Jn c j → c ≠ 136 → c ≠ 137 → h'.1 c j = h.1 c j ∧ h'.2.1 = h.2.1 := by
  obtain ⟨h1, e1, t⟩ := m_take h (c := 136) (Or.inr rfl)
  have h18 : h1.1 120 18 = nI 1 := by rw [t.1, if_neg (by omega), if_neg (by omega), if_pos ⟨rfl, rfl⟩]
  obtain ⟨h2, e2, t2⟩ := m_allM (TM h1) (fun D g e b he => TM.step h18 b he) (fun D D' g b z => b.mono z) e1 ⟨fun _ _ z => z.elim, fun _ _ _ => rfl, rfl⟩
  have s6 : ∀ j, j < 472 → h2.1 136 j = h.1 (lcA j) (lcJ j) := fun j hj => by rw [t2.2.1 136 j (by omega), t.1, if_pos ⟨rfl, hj⟩]
  have s7 : ∀ j, j < 27 → h2.1 137 j = h.1 (mA j) (mJ j) := fun j hj => by
    have := mAJ_rng j hj
    rw [t2.1 j hj trivial, t.1, if_neg (by omega), if_neg (by omega), if_neg (by omega)]
  refine ⟨h2, e2, ⟨?_, ?_, ?_, fun p hp => ?_, fun a p q h1 h2 h3 h4 => ?_, ?_, ?_, ?_, fun p hp => ?_⟩, fun c j q1 q2 q3 => ⟨?_, ?_⟩⟩
  · rw [s6 0 (by decide)]; exact hm.1 1 (by decide)
  · rw [s6 1 (by decide)]; exact hm.1 2 (by decide)
  · rw [s6 2 (by decide)]; exact hm.1 4 (by decide)
  · rw [s6 (4 + p) (by omega)]
    unfold lcA lcJ
    rw [if_neg (by omega), if_pos (by omega), if_neg (by omega), if_neg (by omega), if_neg (by omega), if_neg (by omega), if_pos (by omega), Nat.add_sub_cancel_left]
    exact (hm.2.1 p hp).2.2.2.2
  · have : (X.1 0 1 - a) % 11 < 11 := Nat.mod_lt _ (by decide)
    rw [s6 _ (by omega)]
    unfold lcA lcJ
    rw [if_neg (by omega), if_neg (by omega), if_neg (by omega), if_neg (by omega), if_neg (by omega), if_neg (by omega), if_neg (by omega), Nat.add_sub_cancel_left]
    exact hm.2.2 a p q h1 h2 h3 h4
  · rw [s7 0 (by decide)]; exact hm.1 0 (by decide)
  · rw [s7 1 (by decide)]; exact hm.1 3 (by decide)
  · rw [s7 2 (by decide)]; exact hm.1 5 (by decide)
  · obtain ⟨a1, b1, a2, b2, a3, b3, a4, b4⟩ := mAJ p hp
    have hq := hm.2.1 p hp
    rw [s7 (3 + p) (by omega), s7 (9 + p) (by omega), s7 (15 + p) (by omega), s7 (21 + p) (by omega), a1, a2, a3, a4, b1, b2, b3, b4]
    exact ⟨hq.1, hq.2.1, hq.2.2.1, hq.2.2.2.1⟩
  · unfold Jn at q1
    rw [t2.2.1 c j (by omega), t.1, if_neg (by omega), if_neg (by omega), if_neg (by omega)]
  · rw [t2.2.2, t.2.1]
set_option maxHeartbeats 400000 in
theorem m_restore (hi : MI h Y) : ∃ h', sh_X5_carryAll h 120 (nI 0) = some h' ∧ MR h' Y ∧ RF h h' := by
  obtain ⟨h1, e1, t⟩ := m_put h (c := 136) (Or.inr rfl)
  have h18 : h1.1 120 18 = nI 0 := by
    rw [t.1, if_neg (by unfold ivP; decide), if_neg (by omega), if_pos ⟨rfl, rfl⟩]
  obtain ⟨h2, e2, t2⟩ := m_allM (GM h1) (fun D g e b he => GM.step h18 b he) (fun D D' g b z => b.mono z) e1 ⟨fun _ _ z => z.elim, fun _ _ _ _ => rfl, rfl⟩
  have i9 : ∀ j, ivP 137 j = 9999 := fun j => by
    unfold ivP
    rw [if_neg (by omega), if_neg (by omega), if_neg (by omega), if_neg (by omega), if_neg (by omega), if_neg (by omega)]
  have s7 : ∀ j, j < 27 → h2.1 (mA j) (mJ j) = h.1 137 j := fun j hj => by
    rw [t2.1 j hj trivial, t.1, if_neg (by rw [i9]; omega), if_neg (by omega), if_neg (by omega)]
  have s6 : ∀ i, i < 472 → i ≠ 3 → h2.1 (lcA i) (lcJ i) = h.1 136 i := fun i hi h3 => by
    have e := (ivP_iff hi (c := lcA i) (j := lcJ i)).mpr ⟨rfl, rfl⟩
    have hr : ¬ (lcA i = 120 ∧ (lcJ i = 0 ∨ lcJ i = 3 ∨ lcJ i = 5)) ∧ ¬ (121 ≤ lcA i ∧ lcA i ≤ 124) := by
      unfold lcA lcJ
      repeat' split
      all_goals omega
    rw [t2.2.1 _ _ hr.1 hr.2, t.1, if_pos (by omega), e]
  obtain ⟨m1, m2, m3, m4, m5, m6, m7, m8, m9⟩ := hi
  refine ⟨h2, e2, ⟨fun j hj => ?_, fun p hp => ?_, fun a p q h1 h2 h3 h4 => ?_⟩, fun c j q1 q2 q3 => ?_, ?_⟩
  · rcases (by omega : j = 0 ∨ j = 1 ∨ j = 2 ∨ j = 3 ∨ j = 4 ∨ j = 5) with rfl | rfl | rfl | rfl | rfl | rfl
    · exact (s7 0 (by decide)).trans m6
    · exact (s6 0 (by decide) (by decide)).trans m1
    · exact (s6 1 (by decide) (by decide)).trans m2
    · exact (s7 1 (by decide)).trans m7
    · exact (s6 2 (by decide) (by decide)).trans m3
    · exact (s7 2 (by decide)).trans m8
  · obtain ⟨a1, b1, a2, b2, a3, b3, a4, b4⟩ := mAJ p hp
    have hq := m9 p hp
    have z1 := s7 (3 + p) (by omega)
    have z2 := s7 (9 + p) (by omega)
    have z3 := s7 (15 + p) (by omega)
    have z4 := s7 (21 + p) (by omega)
    have z5 := s6 (4 + p) (by omega) (by omega)
    rw [a1, b1] at z1
    rw [a2, b2] at z2
    rw [a3, b3] at z3
    rw [a4, b4] at z4
    have l5 : lcA (4 + p) = 125 ∧ lcJ (4 + p) = p := by
      unfold lcA lcJ
      rw [if_neg (by omega), if_pos (by omega), if_neg (by omega), if_neg (by omega), if_neg (by omega), if_neg (by omega), if_pos (by omega), Nat.add_sub_cancel_left]
      exact ⟨rfl, rfl⟩
    rw [l5.1, l5.2] at z5
    exact ⟨z1.trans hq.1, z2.trans hq.2.1, z3.trans hq.2.2.1, z4.trans hq.2.2.2, z5.trans (m4 p hp)⟩
  · have : (Y.1 0 1 - a) % 11 < 11 := Nat.mod_lt _ (by decide)
    have z := s6 (10 + (42 * ((Y.1 0 1 - a) % 11) + 7 * p + q)) (by omega) (by omega)
    have l5 : lcA (10 + (42 * ((Y.1 0 1 - a) % 11) + 7 * p + q)) = 126 ∧ lcJ (10 + (42 * ((Y.1 0 1 - a) % 11) + 7 * p + q)) = 42 * ((Y.1 0 1 - a) % 11) + 7 * p + q := by
      unfold lcA lcJ
      rw [if_neg (by omega), if_neg (by omega), if_neg (by omega), if_neg (by omega), if_neg (by omega), if_neg (by omega), if_neg (by omega), Nat.add_sub_cancel_left]
      exact ⟨rfl, rfl⟩
    rw [l5.1, l5.2] at z
    exact z.trans (m5 a p q h1 h2 h3 h4)
  · have hn : ¬ ivP c j < 472 := fun z => by
      have := (ivP_iff z).mp rfl
      unfold Jn at q1
      unfold ivP at z
      repeat' split at z
      all_goals omega
    unfold Jn at q1
    rw [t2.2.1 c j (by omega) (by omega), t.1, if_neg hn, if_neg (by omega), if_neg (by omega)]
  · rw [t2.2.2, t.2.1]
set_option maxHeartbeats 400000 in
theorem a_restore : Same k (fun h => sh_X4_restore h 0) (fun h => sh_X5_restore h 120) := by
  intro h X Y g hk
  rcases g.2.2.2.1 with ⟨i1, i2⟩ | ⟨i1, i2, i3, i4, i5⟩
  · refine s_ref g hk (r := -3) (by unfold isR; simp) ?_ (fun h1 q _ m => ?_)
    · show sh_X4_restore h 0 = _
      unfold sh_X4_restore
      rw [i1, if_pos (by decide)]
    · show sh_X5_restore h1 120 = _
      unfold sh_X5_restore
      show (if (th h1).1 120 36 = 0 then _ else _) = _
      rw [th_ne (by omega), q 120 36 (by omega), i2, if_pos (by decide)]
      rfl
  · obtain ⟨h1, e1, e2, e3⟩ := p_become (h := h) v10 v21 (by decide)
    have hv := e3 Y i4
    refine s_do g hk (r := nI (Y.1 0 1)) (h1 := h1) (X' := Y) ?_ hv e2 (i3.mono (by omega) (by omega)) (fun hm => ?_)
    · show sh_X4_restore h 0 = _
      unfold sh_X4_restore
      rw [i1, if_neg (by decide), xf0, show rf 0 1 = 21 from rfl, e1, Option.bind_some, hv.2.1]
    · have i5' : MI (th h1) Y := i5.same (fun j => by rw [th_ne (by omega), e2.1 _ _ (by omega)]) (fun j => by rw [th_ne (by omega), e2.1 _ _ (by omega)])
      obtain ⟨h2, f1, f2, f3⟩ := m_restore i5'
      refine ⟨h2, ?_, f2, f3⟩
      show sh_X5_restore h1 120 = _
      unfold sh_X5_restore
      show (if (th h1).1 120 36 = 0 then _ else Option.bind (sh_X5_carryAll (th h1) 120 (nI 0)) _) = _
      rw [th_ne (by omega), e2.1 120 36 (by omega), i2, if_neg (by decide), f1, Option.bind_some, f2.1 1 (by decide)]
set_option maxHeartbeats 400000 in
theorem a_image : Same k (fun h => sh_X4_image h 0) (fun h => sh_X5_image h 120) := by
  intro h X Y g hk
  obtain ⟨h0, e1, e2, e3⟩ := p_become (h := h) v21 v10 (by decide)
  have hv := e3 X g.2.1
  generalize hB : wI h0 0 9 (nI 1) = h1
  have eB : ∀ c j, h1.1 c j = if c = 0 ∧ j = 9 then nI 1 else h0.1 c j := fun c j => by rw [← hB, rdI]
  generalize hC : wI (th h1) 120 36 (nI 1) = hc
  have eC : ∀ c j, hc.1 c j = if c = 120 ∧ j = 36 then nI 1 else if c = 120 ∧ j = 13 then 0 else if c = 0 ∧ j = 9 then nI 1 else h0.1 c j := fun c j => by
    rw [← hC, rdI]
    unfold th
    rw [rdI, eB]
  have eL : hc.2.1 = h0.2.1 := by rw [← hC, ← hB]; rfl
  have mC : MR hc X := g.2.2.1.of (fun j hj => by rw [eC, if_neg (by omega), if_neg (by omega), if_neg (by omega), e2.1 _ _ (by omega)]) (fun c j z1 z2 => by rw [eC, if_neg (by omega), if_neg (by omega), if_neg (by omega), e2.1 _ _ (by omega)])
  obtain ⟨h2, f1, f2, f3⟩ := m_image mC
  have fr : ∀ c j, ¬ Jn c j → c ≠ 136 → c ≠ 137 → ¬ (c = 120 ∧ j = 36) → ¬ (c = 0 ∧ j = 9) → ¬ (21 ≤ c ∧ c < 32) → h2.1 c j = h.1 c j := fun c j q1 q2 q3 q4 q5 q6 => by
    rw [(f3 c j q1 q2 q3).1, eC, if_neg q4, if_neg (by unfold Jn at q1; omega), if_neg q5, e2.1 c j (by omega)]
  have lL : h2.2.1 = h0.2.1 := by rw [(f3 0 0 (by unfold Jn; omega) (by omega) (by omega)).2, eL]
  have m2 : MR h2 X := mC.of2 (fun j hj => (f3 120 j (by unfold Jn; omega) (by omega) (by omega)).1) (fun c j z1 z2 z3 => (f3 c j (by unfold Jn; omega) (by omega) (by omega)).1) (fun j hj => (f3 126 j (by unfold Jn; omega) (by omega) (by omega)).1)
  refine ⟨nI (X.1 0 1), h1, h2, ?_, ?_, X, X, ?_⟩
  · show sh_X4_image h 0 = _
    unfold sh_X4_image
    rw [show rf 0 1 = 21 from rfl, xf0, e1, Option.bind_some, L1, hB, eB, if_neg (by omega), e2.1 10 8 (by omega), g.2.1.2.1]
  · show sh_X5_image h1 120 = _
    unfold sh_X5_image
    show Option.bind (sh_X5_carryAll (wI (th h1) 120 36 (nI 1)) 120 (nI 1)) _ = _
    rw [hC, f1, Option.bind_some, m2.1 1 (by decide)]
  · have hvS : VR h2 21 X := hv.same (fun c j z1 z2 => by rw [(f3 c j (by unfold Jn; omega) (by omega) (by omega)).1, eC, if_neg (by omega), if_neg (by omega), if_neg (by omega)]) (fun j => by rw [lL])
    have hv10 : VR h2 10 X := g.2.1.same (fun c j z1 z2 => fr c j (by unfold Jn; omega) (by omega) (by omega) (by omega) (by omega) (by omega)) (fun j => by rw [lL, e2.2.1 _ _ (by omega)])
    obtain ⟨L, l1, l2, l3, l4⟩ := g.2.2.2.2.1
    obtain ⟨R, r1, r2, r3, r4⟩ := g.2.2.2.2.2.1
    refine Gi.mono (k := k) ⟨g.1, hv10, m2, Or.inr ⟨?_, ?_, g.1, hvS, f2⟩, ⟨L, l1, ?_, ?_, fun j hj => ?_⟩, ⟨R, r1, ?_, ?_, fun j hj => ?_⟩, fun j hj => ?_⟩ (by omega) (by omega)
    · rw [(f3 0 9 (by unfold Jn; omega) (by omega) (by omega)).1, eC, if_neg (by omega), if_neg (by omega), if_pos ⟨rfl, rfl⟩]
    · rw [(f3 120 36 (by unfold Jn; omega) (by omega) (by omega)).1, eC, if_pos ⟨rfl, rfl⟩]
    · rw [fr 5 1 (by unfold Jn; omega) (by omega) (by omega) (by omega) (by omega) (by omega), l2]
    · rw [fr 120 21 (by unfold Jn; omega) (by omega) (by omega) (by omega) (by omega) (by omega), l3]
    · rw [fr 6 j (by unfold Jn; omega) (by omega) (by omega) (by omega) (by omega) (by omega), fr 130 j (by unfold Jn; omega) (by omega) (by omega) (by omega) (by omega) (by omega)]
      exact l4 j hj
    · rw [fr 0 8 (by unfold Jn; omega) (by omega) (by omega) (by omega) (by omega) (by omega), r2]
    · rw [fr 120 34 (by unfold Jn; omega) (by omega) (by omega) (by omega) (by omega) (by omega), r3]
    · rw [fr 8 j (by unfold Jn; omega) (by omega) (by omega) (by omega) (by omega) (by omega), fr 135 j (by unfold Jn; omega) (by omega) (by omega) (by omega) (by omega) (by omega)]
      exact r4 j hj
    · rw [fr 9 j (by unfold Jn; omega) (by omega) (by omega) (by omega) (by omega) (by omega), fr 127 j (by unfold Jn; omega) (by omega) (by omega) (by omega) (by omega) (by omega)]
      exact g.2.2.2.2.2.2 j hj
end IM
