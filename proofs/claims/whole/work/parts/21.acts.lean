/-! PURE: what changes the village -/
section AC
variable {h h' h1 h2 : Hp} {k : Nat} {X Y : St}
set_option maxHeartbeats 400000 in
theorem Gi.upd {X' : St} {k' : Nat} (g : Gi k h X Y) (hk : k ≤ k') (hI : Iv k' X') (hv : VR h' 10 X') (hm : MR h' X') (e : ∀ c j, ¬ Jn c j → ¬ (10 ≤ c ∧ c ≤ 20) → ¬ (c = 120 ∧ j < 6) → ¬ (121 ≤ c ∧ c ≤ 126) → h'.1 c j = h.1 c j) (e2 : ∀ c j, 21 ≤ c → c ≤ 31 → h'.2.1 c j = h.2.1 c j) : Gi k' h' X' Y := by
  obtain ⟨g1, g2, g3, g4, g5, g6, g7⟩ := g
  have e1 : ∀ c j, ¬ Jn c j ∧ ¬ (10 ≤ c ∧ c ≤ 20) ∧ ¬ (c = 120 ∧ j < 6) ∧ ¬ (121 ≤ c ∧ c ≤ 126) → h'.1 c j = h.1 c j := fun c j q => e c j q.1 q.2.1 q.2.2.1 q.2.2.2
  refine ⟨hI, hv, hm, ?_, ?_, ?_, fun j hj => ?_⟩
  · rcases g4 with ⟨a, b⟩ | ⟨a, b, c, d, f⟩
    · exact Or.inl ⟨by rw [e1 0 9 (by unfold Jn; omega)]; exact a, by rw [e1 120 36 (by unfold Jn; omega)]; exact b⟩
    · exact Or.inr ⟨by rw [e1 0 9 (by unfold Jn; omega)]; exact a, by rw [e1 120 36 (by unfold Jn; omega)]; exact b, c.mono hk hI.1, d.same (fun c j h1 h2 => e1 c j (by unfold Jn; omega)) (fun j => e2 _ j (by omega) (by omega)), f.same (fun j => e1 136 j (by unfold Jn; omega)) (fun j => e1 137 j (by unfold Jn; omega))⟩
  · obtain ⟨L, a, b, c, d⟩ := g5
    exact ⟨L, a, by rw [e1 5 1 (by unfold Jn; omega)]; exact b, by rw [e1 120 21 (by unfold Jn; omega)]; exact c, fun j hj => by rw [e1 6 j (by unfold Jn; omega), e1 130 j (by unfold Jn; omega)]; exact d j hj⟩
  · obtain ⟨L, a, b, c, d⟩ := g6
    exact ⟨L, a, by rw [e1 0 8 (by unfold Jn; omega)]; exact b, by rw [e1 120 34 (by unfold Jn; omega)]; exact c, fun j hj => by rw [e1 8 j (by unfold Jn; omega), e1 135 j (by unfold Jn; omega)]; exact d j hj⟩
  · rw [e1 9 j (by unfold Jn; omega), e1 127 j (by unfold Jn; omega)]
    exact g7 j hj
def RF (h h' : Hp) : Prop := (∀ c j, ¬ Jn c j → ¬ (c = 120 ∧ j < 6) → ¬ (121 ≤ c ∧ c ≤ 126) → h'.1 c j = h.1 c j) ∧ h'.2.1 = h.2.1
set_option maxHeartbeats 400000 in
theorem DF.rff (d : DF h h') : RF h h' := ⟨fun c j q1 q2 q3 => d.1 c j (by unfold DJ; unfold Jn at q1; omega), by rw [d.2]⟩
set_option maxHeartbeats 400000 in
theorem RF.rf (h : Hp) : RF h h := ⟨fun _ _ _ _ _ => rfl, rfl⟩
set_option maxHeartbeats 400000 in
theorem RF.tr (a : RF h h1) (c : RF h1 h2) : RF h h2 := ⟨fun k j q1 q2 q3 => (c.1 k j q1 q2 q3).trans (a.1 k j q1 q2 q3), c.2.trans a.2⟩
set_option maxHeartbeats 400000 in
theorem RF.wI (h : Hp) {c : Nat} (j : Nat) (v : Int32) (hc : Jn c j ∨ (c = 120 ∧ j < 6) ∨ (121 ≤ c ∧ c ≤ 126)) : RF h (wI h c j v) := ⟨fun k i q1 q2 q3 => by
  rw [rdI, if_neg]
  rintro ⟨rfl, rfl⟩
  rcases hc with z | z | z
  · exact q1 z
  · exact q2 z
  · exact q3 z, rfl⟩
set_option maxHeartbeats 400000 in
theorem th_ne {c j : Nat} (hn : ¬ (c = 120 ∧ j = 13)) : (th h).1 c j = h.1 c j := by
  unfold th
  rw [rdI, if_neg hn]
set_option maxHeartbeats 400000 in
theorem s_do {CL MO : Hp → Option (Int32 × Hp)} (g : Gi k h X Y) (hk : k ≤ 900) {r : Int32} {X' : St} (hc : CL h = some (r, h1)) (hv : VR h1 10 X') (f : VF 10 h h1) (hI : Iv (k + 1) X') (hm : MR (th h1) X → ∃ h2, MO h1 = some (r, h2) ∧ MR h2 X' ∧ RF (th h1) h2) : Res k h CL MO := by
  have m1 : MR (th h1) X := g.2.2.1.of (fun j hj => by rw [th_ne (by omega), f.1 _ _ (by omega)]) (fun c j a b => by rw [th_ne (by omega), f.1 _ _ (by omega)])
  obtain ⟨h2, a1, a2, a3⟩ := hm m1
  refine ⟨r, h1, h2, hc, a1, X', Y, g.upd (by omega) hI ?_ a2 ?_ ?_⟩
  · refine hv.same (fun c j z1 z2 => ?_) (fun j => ?_)
    · rw [a3.1 c j (by unfold Jn; omega) (by omega) (by omega), th_ne (by omega)]
    · rw [a3.2]
      rfl
  · intro c j q1 q2 q3 q4
    rw [a3.1 c j q1 q3 q4, th_ne (by unfold Jn at q1; omega), f.1 c j (by omega)]
  · intro c j q1 q2
    rw [a3.2]
    show h1.2.1 c j = _
    rw [f.2.1 c j (by omega)]
set_option maxHeartbeats 400000 in
theorem a_evening : Same k (fun h => sh_X4_evening h 0) (fun h => sh_X5_evening h 120) := by
  intro h X Y g hk
  have hd : X.1 0 1 ≤ k := g.1.2.2.1
  obtain ⟨h1, e1, e2, e3⟩ := p_endDay v10 g.2.1 g.1
  refine s_do g hk (r := nI ((eve X).1 0 1)) (h1 := h1) (X' := eve X) ?_ e2 e3 (Iv_eve (g.1.mono (by omega) (by omega)) (by omega)) (fun hm => ?_)
  · show sh_X4_evening h 0 = _
    unfold sh_X4_evening
    rw [xf0, g.2.1.2.1, L999, if_pos ((nI_ltI (by omega) (by omega)).mpr (by omega)), e1, Option.bind_some, e2.2.1]
  · obtain ⟨h2, f1, f2, f3, _⟩ := m_endDay hm g.1
    refine ⟨h2, ?_, f2, f3.rff⟩
    show sh_X5_evening h1 120 = _
    unfold sh_X5_evening
    show (if (th h1).1 120 1 = (999 : Int32) then _ else Option.bind (sh_X5_endDay (th h1) 120) _) = _
    rw [hm.1 1 (by decide), L999, if_neg (show ¬ nI (X.1 0 1) = nI 999 from by rw [nI_eq (by omega) (by omega)]; omega), f1, Option.bind_some, f2.1 1 (by decide)]
set_option maxHeartbeats 400000 in
theorem a_day : Same k (fun h => sh_X4_day h 0) (fun h => sh_X5_day h 120) := by
  intro h X Y g hk
  have hd : X.1 0 1 ≤ k := g.1.2.2.1
  obtain ⟨h1, e1, e2, e3⟩ := p_passDay v10 g.2.1 g.1 (by omega)
  refine s_do g hk (r := nI ((dyS X).1 0 1)) (h1 := h1) (X' := dyS X) ?_ e2 e3 (Iv_day g.1 (by omega)) (fun hm => ?_)
  · show sh_X4_day h 0 = _
    unfold sh_X4_day
    rw [xf0, g.2.1.2.1, L999, if_pos ((nI_ltI (by omega) (by omega)).mpr (by omega)), e1, Option.bind_some, e2.2.1]
  · obtain ⟨h2, f1, f2, f3, _⟩ := m_dayOn hm g.1 (by omega)
    refine ⟨h2, ?_, f2, f3.rff⟩
    show sh_X5_day h1 120 = _
    unfold sh_X5_day
    show (if (th h1).1 120 1 = (999 : Int32) then _ else Option.bind (sh_X5_dayOn (th h1) 120) _) = _
    rw [hm.1 1 (by decide), L999, if_neg (show ¬ nI (X.1 0 1) = nI 999 from by rw [nI_eq (by omega) (by omega)]; omega), f1, Option.bind_some, f2.1 1 (by decide)]
-- one or nobody, in the reference
set_option maxHeartbeats 400000 in
theorem one_p (hP : X.1 0 0 ≤ 6) {p : Nat} (hp : p < X.1 0 0) (hm : MR h X) : sh_X5_isOne h 120 (nI p) = some (nI 1) := by
  rcases m_isOne hm hP (nI p) with ⟨q, _, _, z⟩ | ⟨z, _⟩
  · exact z
  · exact absurd rfl (z p hp)
set_option maxHeartbeats 400000 in
theorem one_n (hP : X.1 0 0 ≤ 6) {x : Int32} (hx : ∀ p, p < X.1 0 0 → x ≠ nI p) (hm : MR h X) : sh_X5_isOne h 120 x = some (nI 0) := by
  rcases m_isOne hm hP x with ⟨q, z1, z2, _⟩ | ⟨_, z⟩
  · exact absurd z2 (hx q z1)
  · exact z
def GOK (X : St) (p q n : Nat) : Prop := p < X.1 0 0 ∧ (q < X.1 0 0 ∨ q = 9) ∧ q ≠ p ∧ 1 ≤ n ∧ n ≤ X.1 4 p
set_option maxHeartbeats 400000 in
theorem gift_x3 {b : Nat} (hb : isV b) (hv : VR h b X) (hI : Iv k X) {p q : Nat} (hp : p < X.1 0 0) (hq : q < X.1 0 0 ∨ q = 9) (hne : q ≠ p) (x3 : Int32) : (∃ r, isR r ∧ b_X3_giftRefusal_29 h b (nI p) x3 = some r ∧ ∀ h', MR h' X → b_X5_wrongGift_22 h' 120 (nI p) (nI q) x3 = some r) ∨ (∃ n, GOK X p q n ∧ x3 = nI n ∧ b_X3_giftRefusal_29 h b (nI p) x3 = some 0 ∧ ∀ h', MR h' X → b_X5_wrongGift_22 h' 120 (nI p) (nI q) x3 = some 0) := by
  have hP := hI.2.1
  have h9 := (hI.2.2.2.2.2.2.2.2.1 p (by omega)).2.2.1
  have hn : ¬ nI p = nI q := by rw [nI_eq (by omega) (by omega)]; omega
  unfold b_X3_giftRefusal_29 b_X5_wrongGift_22 sh_X4_outside b_X4_outside_21
  rw [ld_has hb hv (by omega), Option.bind_some]
  by_cases w1 : (1 : Int32) ≤ x3
  · by_cases w2 : x3 ≤ nI (X.1 4 p)
    · refine Or.inr ?_
      have h0 : ¬ x3 < 0 := fun z => by
        rw [Int32.le_iff_toInt_le] at w1
        rw [Int32.lt_iff_toInt_lt] at z
        have : (0 : Int32).toInt = 0 := by decide
        have : (1 : Int32).toInt = 1 := by decide
        omega
      obtain ⟨n, hn1, rfl⟩ := nI_of h0
      rw [L1, nI_leI (by omega) hn1] at w1
      rw [nI_leI hn1 (by omega)] at w2
      refine ⟨n, ⟨hp, hq, hne, w1, w2⟩, rfl, ?_, fun h' hm => ?_⟩
      · rw [L1, if_pos ((nI_leI (by omega) hn1).mpr w1), if_pos ((nI_leI hn1 (by omega)).mpr w2)]
        rfl
      · rw [if_neg hn, L1, if_pos ((nI_leI (by omega) hn1).mpr w1), md_has hm (by omega), Option.bind_some, if_pos ((nI_leI hn1 (by omega)).mpr w2)]
        rfl
    · refine Or.inl ⟨-6, by unfold isR; simp, ?_, fun h' hm => ?_⟩
      · rw [if_pos w1, if_neg w2]
        rfl
      · rw [if_neg hn, if_pos w1, md_has hm (by omega), Option.bind_some, if_neg w2]
        rfl
  · refine Or.inl ⟨-4, by unfold isR; simp, ?_, fun h' hm => ?_⟩
    · rw [if_neg w1]
      rfl
    · rw [if_neg hn, if_neg w1]
      rfl
set_option maxHeartbeats 400000 in
theorem gift_range {b : Nat} (hb : isV b) (hv : VR h b X) (hI : Iv k X) (x1 x2 x3 : Int32) : (∃ r, isR r ∧ sh_X3_giftRefusal h b x1 x2 x3 = some r ∧ ∀ h', MR h' X → sh_X5_wrongGift h' 120 x1 x2 x3 = some r) ∨ (∃ p q n, GOK X p q n ∧ x1 = nI p ∧ x2 = nI q ∧ x3 = nI n ∧ sh_X3_giftRefusal h b x1 x2 x3 = some 0 ∧ ∀ h', MR h' X → sh_X5_wrongGift h' 120 x1 x2 x3 = some 0) := by
  have hP := hI.2.1
  have r1 : isR (-1) := Or.inl rfl
  unfold sh_X3_giftRefusal sh_X5_wrongGift
  rcases p_exists hv hP x1 with ⟨p, hp, rfl, e1⟩ | ⟨hn, e1⟩
  · rw [e1, Option.bind_some, if_neg (by decide)]
    have o1 : ∀ h', MR h' X → sh_X5_isOne h' 120 (nI p) = some (nI 1) := fun h' hm => one_p hP hp hm
    by_cases w : x2 = nI p
    · rw [if_pos w]
      refine Or.inl ⟨-1, r1, rfl, fun h' hm => ?_⟩
      rw [w, o1 h' hm, Option.bind_some, if_neg (by decide), Option.bind_some, if_neg (by decide)]
      unfold b_X5_wrongGift_22
      rw [if_pos rfl]
      rfl
    · rw [if_neg w]
      by_cases w9 : x2 = (9 : Int32)
      · rw [if_pos w9]
        have hm9 : ∀ h', MR h' X → sh_X5_isOne h' 120 x2 = some (nI 0) := fun h' hm => one_n hP (fun q hq z => by
          rw [w9, L9, nI_eq (by omega) (by omega)] at z
          omega) hm
        rcases gift_x3 hb hv hI hp (q := 9) (Or.inr rfl) (by omega) x3 with ⟨r, hr, f1, f2⟩ | ⟨n, hn, f0, f1, f2⟩
        · refine Or.inl ⟨r, hr, f1, fun h' hm => ?_⟩
          rw [o1 h' hm, Option.bind_some, if_neg (by decide), hm9 h' hm, Option.bind_some, if_pos (by decide), if_pos w9, w9]
          exact f2 h' hm
        · refine Or.inr ⟨p, 9, n, hn, rfl, w9, f0, f1, fun h' hm => ?_⟩
          rw [o1 h' hm, Option.bind_some, if_neg (by decide), hm9 h' hm, Option.bind_some, if_pos (by decide), if_pos w9, w9]
          exact f2 h' hm
      · rw [if_neg w9]
        rcases p_exists hv hP x2 with ⟨q, hq, rfl, e2⟩ | ⟨hn2, e2⟩
        · rw [e2, Option.bind_some, if_neg (by decide)]
          have o2 : ∀ h', MR h' X → sh_X5_isOne h' 120 (nI q) = some (nI 1) := fun h' hm => one_p hP hq hm
          rcases gift_x3 hb hv hI hp (q := q) (Or.inl hq) (fun z => w (by rw [z])) x3 with ⟨r, hr, f1, f2⟩ | ⟨n, hn, f0, f1, f2⟩
          · refine Or.inl ⟨r, hr, f1, fun h' hm => ?_⟩
            rw [o1 h' hm, Option.bind_some, if_neg (by decide), o2 h' hm, Option.bind_some, if_neg (by decide)]
            exact f2 h' hm
          · refine Or.inr ⟨p, q, n, hn, rfl, rfl, f0, f1, fun h' hm => ?_⟩
            rw [o1 h' hm, Option.bind_some, if_neg (by decide), o2 h' hm, Option.bind_some, if_neg (by decide)]
            exact f2 h' hm
        · rw [e2, Option.bind_some, if_pos (by decide)]
          refine Or.inl ⟨-1, r1, rfl, fun h' hm => ?_⟩
          rw [o1 h' hm, Option.bind_some, if_neg (by decide), one_n hP hn2 hm, Option.bind_some, if_pos (by decide), if_neg w9]
          rfl
  · rw [e1, Option.bind_some, if_pos (by decide)]
    refine Or.inl ⟨-1, r1, rfl, fun h' hm => ?_⟩
    rw [one_n hP hn hm, Option.bind_some, if_pos (by decide)]
    rfl
set_option maxHeartbeats 400000 in
theorem giv_ad {p q n : Nat} (ho : GOK X p q n) : giv X p q n = adG X p (col q) n := by
  unfold giv
  rw [if_neg]
  have := ho.2.2
  omega
set_option maxHeartbeats 400000 in
theorem Iv_gok {p q n : Nat} (hI : Iv k X) (hk : k + 1 ≤ 1000) (ho : GOK X p q n) : Iv (k + 1) (adG X p (col q) n) := by
  rw [← giv_ad ho]
  exact Iv_giv (hI.mono (by omega) hk) ho.1 ho.2.1 ho.2.2.2.2 (fun q => by
    have := hI.2.2.2.2.2.2.2.2.2.2.1 0 p q
    omega)
set_option maxHeartbeats 400000 in
theorem m_give40 (hI : Iv k X) {p q n : Nat} (ho : GOK X p q n) (hm : MR h X) : ∃ h2, (if nI q = (9 : Int32) then b_X5_give_40 h 120 (nI p) (nI n) 120 (nI p) (6 : Int32) else b_X5_give_40 h 120 (nI p) (nI n) 120 (nI p) (nI q)) = some (nI ((adG X p (col q) n).1 4 p), h2) ∧ MR h2 (adG X p (col q) n) ∧ DF h h2 := by
  have hP := hI.2.1
  obtain ⟨hp, hq, hne, hn1, hn2⟩ := ho
  obtain ⟨h2, f1, f2, f3, _⟩ := m_addGift hm hI (p := p) (q := col q) (n := n) (by omega) (by unfold col; split <;> omega) hn2
  refine ⟨h2, ?_, f2, f3⟩
  have key : b_X5_give_40 h 120 (nI p) (nI n) 120 (nI p) (nI (col q)) = some (nI ((adG X p (col q) n).1 4 p), h2) := by
    unfold b_X5_give_40
    rw [f1, Option.bind_some, md_has f2 (by omega)]
    rfl
  by_cases w : q = 9
  · subst w
    rw [if_pos (show nI 9 = (9 : Int32) from rfl)]
    exact key
  · rw [if_neg (show ¬ nI q = (9 : Int32) from by rw [L9, nI_eq (by omega) (by omega)]; exact w)]
    unfold col at key
    rw [if_neg w] at key
    unfold col
    rw [if_neg w]
    exact key
set_option maxHeartbeats 400000 in
theorem a_give (x1 x2 x3 : Int32) : Same k (fun h => sh_X4_give h 0 x1 x2 x3) (fun h => sh_X5_give h 120 x1 x2 x3) := by
  intro h X Y g hk
  have hP := g.P
  rcases gift_range v10 g.2.1 g.1 x1 x2 x3 with ⟨r, hr, e1, e2⟩ | ⟨p, q, n, ho, rfl, rfl, rfl, e1, e2⟩
  · refine s_ref g hk hr ?_ (fun h1 _ _ m => ?_)
    · show Option.bind (sh_X3_giftRefusal h 10 x1 x2 x3) _ = _
      rw [e1, Option.bind_some, if_neg (isR_neg hr).1]
    · show Option.bind (sh_X5_wrongGift (th h1) 120 x1 x2 x3) _ = _
      rw [e2 _ m, Option.bind_some, if_neg (isR_neg hr).2.1]
      rfl
  · have ho' := ho
    obtain ⟨hp, hq, hne, hn1, hn2⟩ := ho
    obtain ⟨h1, f1, f2, f3⟩ := p_hand v10 g.2.1 (p := p) (q := q) (n := n) (by omega) (by omega) (by omega) hn2
    refine s_do g hk (r := nI ((adG X p (col q) n).1 4 p)) (h1 := h1) (X' := adG X p (col q) n) ?_ f2 f3 (Iv_gok g.1 (by omega) ho') (fun hm => ?_)
    · show Option.bind (sh_X3_giftRefusal h 10 (nI p) (nI q) (nI n)) _ = _
      rw [e1, Option.bind_some, if_pos rfl, xf0, f1, Option.bind_some, ld_has v10 f2 (by omega)]
      rfl
    · obtain ⟨h2, k1, k2, k3⟩ := m_give40 g.1 ho' hm
      refine ⟨h2, ?_, k2, k3.rff⟩
      show Option.bind (sh_X5_wrongGift (th h1) 120 (nI p) (nI q) (nI n)) _ = _
      rw [e2 _ hm, Option.bind_some, if_pos (by decide)]
      exact k1
end AC
