/-! PURE: one chooses: days of choice, rows, and the class's search -/
section SC
variable {h h' h1 h2 : Hp} {k : Nat} {X Y : St}
def tq (X : St) (p : Nat) : Nat := if X.1 3 p = p then 9 else X.1 3 p
def moC (X : St) (p m : Nat) : Nat → St
  | 0 => X
  | i + 1 => if i = p then giv (moC X p m i) p (tq (moC X p m i) p) m else giv (moC X p m i) i (tgt (moC X p m i) i) (amt (moC X p m i) i)
def dyC (X : St) (p m : Nat) : St := eve (moC X p m (X.1 0 0))
def amC (X : St) (p c : Nat) : Nat := X.1 4 p * c / 2
set_option maxHeartbeats 400000 in
theorem moC_S (X : St) (p m : Nat) : ∀ (i : Nat) {c j : Nat}, ¬ (c = 4 ∧ j < i) → (moC X p m i).1 c j = X.1 c j
  | 0, _, _, _ => rfl
  | i + 1, c, j, hc => by
    show (if i = p then giv (moC X p m i) p (tq (moC X p m i) p) m else giv (moC X p m i) i (tgt (moC X p m i) i) (amt (moC X p m i) i)).1 c j = _
    split
    · rw [giv_S _ _ _ _ (by omega), moC_S X p m i (by omega)]
    · rw [giv_S _ _ _ _ (by omega), moC_S X p m i (by omega)]
set_option maxHeartbeats 400000 in
theorem moC_G (X : St) (p m : Nat) : ∀ (i : Nat) {a r q : Nat}, ¬ (a = 0 ∧ r < i) → (moC X p m i).2 a r q = X.2 a r q
  | 0, _, _, _, _ => rfl
  | i + 1, a, r, q, hc => by
    show (if i = p then giv (moC X p m i) p (tq (moC X p m i) p) m else giv (moC X p m i) i (tgt (moC X p m i) i) (amt (moC X p m i) i)).2 a r q = _
    split
    · rw [giv_G _ _ _ _ (by omega), moC_G X p m i (by omega)]
    · rw [giv_G _ _ _ _ (by omega), moC_G X p m i (by omega)]
set_option maxHeartbeats 400000 in
theorem tq_ok (hI : Iv k X) {p : Nat} (hp : p < X.1 0 0) : tq X p < X.1 0 0 ∨ tq X p = 9 := by
  have h3 := hI.2.2.2.2.2.2.2.2.2.1 p hp
  unfold tq
  split <;> omega
set_option maxHeartbeats 400000 in
theorem tq_ne (hI : Iv k X) {p : Nat} (hp : p < X.1 0 0) : tq X p ≠ p := by
  have h3 := hI.2.2.2.2.2.2.2.2.2.1 p hp
  have hP := hI.2.1
  unfold tq
  split <;> omega
set_option maxHeartbeats 400000 in
theorem Iv_moC (hI : Iv k X) (hk : k + 1 ≤ 1000) {p m : Nat} (hp : p < X.1 0 0) (hm : m ≤ X.1 4 p) : ∀ i, i ≤ X.1 0 0 → Iv (k + 1) (moC X p m i)
  | 0, _ => hI.mono (by omega) hk
  | i + 1, hi => by
    have ih := Iv_moC hI hk hp hm i (by omega)
    have e0 : (moC X p m i).1 0 0 = X.1 0 0 := moC_S X p m i (by omega)
    show Iv (k + 1) (if i = p then giv (moC X p m i) p (tq (moC X p m i) p) m else giv (moC X p m i) i (tgt (moC X p m i) i) (amt (moC X p m i) i))
    split
    · next z =>
      subst z
      refine Iv_giv ih (by rw [e0]; omega) (tq_ok ih (by rw [e0]; omega)) (by rw [moC_S X i m i (by omega)]; exact hm) (fun q => ?_)
      rw [moC_G X i m i (by omega)]
      have := hI.2.2.2.2.2.2.2.2.2.2.1 0 i q
      omega
    · refine Iv_giv ih (by rw [e0]; omega) (tgt_ok ih (by rw [e0]; omega)) (amt_le _ _) (fun q => ?_)
      rw [moC_G X p m i (by omega)]
      have := hI.2.2.2.2.2.2.2.2.2.2.1 0 i q
      omega
set_option maxHeartbeats 400000 in
theorem dyC_P (X : St) (p m : Nat) : (dyC X p m).1 0 0 = X.1 0 0 := by
  unfold dyC
  rw [eve_S _ (by omega) (by omega), moC_S _ _ _ _ (by omega)]
set_option maxHeartbeats 400000 in
theorem Iv_dyC (hI : Iv k X) (hk : k + 1 ≤ 1000) {p m : Nat} (hp : p < X.1 0 0) (hm : m ≤ X.1 4 p) : Iv (k + 1) (dyC X p m) := by
  have h1 := Iv_moC hI hk hp hm (X.1 0 0) (Nat.le_refl _)
  refine Iv_eve h1 ?_
  rw [moC_S X p m _ (by omega)]
  have := hI.2.2.1
  omega
set_option maxHeartbeats 400000 in
theorem amC_le (X : St) (p : Nat) {c : Nat} (hc : c ≤ 2) : amC X p c ≤ X.1 4 p := by
  unfold amC
  have : X.1 4 p * c ≤ X.1 4 p * 2 := Nat.mul_le_mul_left _ hc
  omega
set_option maxHeartbeats 400000 in
theorem p_dayOne {b : Nat} (hb : isV b) (hv : VR h b X) (hI : Iv k X) (hk : k + 1 ≤ 1000) {p m : Nat} (hp : p < X.1 0 0) (hm : m ≤ X.1 4 p) : ∃ h', sh_X3_passDayOfOne h b (nI p) (nI m) = some h' ∧ VR h' b (dyC X p m) ∧ VF b h h' := by
  have hP := hI.2.1
  unfold sh_X3_passDayOfOne
  refine exE (lp (fun n (s : Hp × Int32) => b_X3_passDayOfOne_2 n s.1 b (nI p) (nI m) s.2) (fun i s => s.2 = nI i ∧ VR s.1 b (moC X p m i) ∧ VF b h s.1) (fun r => VR r b (dyC X p m) ∧ VF b h r) (X.1 0 0) (fun n i s hi hs => Or.inl ?_) (fun n s hs => ?_) 1000 0 (h, nI 0) (by omega) ⟨rfl, hv, VF.rf b h⟩ (by omega)) (fun r h1 h2 => ⟨r, h2, h1⟩)
  · obtain ⟨g, x⟩ := s
    obtain ⟨e1, e2, e3⟩ := hs
    dsimp only at e1 e2 e3
    subst e1
    have hIi := Iv_moC hI hk hp hm i (by omega)
    have e0 : (moC X p m i).1 0 0 = X.1 0 0 := moC_S X p m i (by omega)
    have eS : moC X p m (i + 1) = if i = p then giv (moC X p m i) p (tq (moC X p m i) p) m else giv (moC X p m i) i (tgt (moC X p m i) i) (amt (moC X p m i) i) := rfl
    have h9 := (hIi.2.2.2.2.2.2.2.2.1 i (by omega)).2.2.1
    by_cases w : i = p
    · subst w
      have ht := tq_ok hIi (p := i) (by rw [e0]; exact hi)
      rw [e0] at ht
      have h4 : (moC X i m i).1 4 i = X.1 4 i := moC_S X i m i (by omega)
      obtain ⟨h', g1, g2, g3⟩ := p_handIf hb e2 (p := i) (q := tq (moC X i m i) i) (n := m) (by omega) (by omega) (by rw [h4]; exact hm) h9
      refine ⟨(h', nI (i + 1)), ⟨rfl, by rw [eS, if_pos rfl]; exact g2, e3.tr g3⟩, ?_⟩
      show f_X3_passDayOfOne_2 (b_X3_passDayOfOne_2 n) g b (nI i) (nI m) (nI i) = _
      unfold f_X3_passDayOfOne_2 b_X3_passDayOfOne_38 b_X3_passDayOfOne_60
      rw [e2.1, e0, if_neg (nI_ge hi (by omega)), if_pos rfl, ld_to hb e2 (by omega), Option.bind_some, Option.bind_some, L1, nI_add]
      unfold tq at g1
      have h3 := hIi.2.2.2.2.2.2.2.2.2.1 i (by rw [e0]; exact hi)
      by_cases z : (moC X i m i).1 3 i = i
      · rw [if_pos z] at g1
        rw [if_pos (show nI ((moC X i m i).1 3 i) = nI i from by rw [z]), L9, g1]
        rfl
      · rw [if_neg z] at g1
        rw [if_neg (show ¬ nI ((moC X i m i).1 3 i) = nI i from by rw [nI_eq (by omega) (by omega)]; exact z), g1]
        rfl
    · have ht := tgt_ok hIi (p := i) (by rw [e0]; exact hi)
      rw [e0] at ht
      obtain ⟨h', g1, g2, g3⟩ := p_handIf hb e2 (p := i) (q := tgt (moC X p m i) i) (n := amt (moC X p m i) i) (by omega) (by omega) (amt_le _ _) h9
      refine ⟨(h', nI (i + 1)), ⟨rfl, by rw [eS, if_neg w]; exact g2, e3.tr g3⟩, ?_⟩
      show f_X3_passDayOfOne_2 (b_X3_passDayOfOne_2 n) g b (nI p) (nI m) (nI i) = _
      unfold f_X3_passDayOfOne_2 b_X3_passDayOfOne_60
      rw [e2.1, e0, if_neg (nI_ge hi (by omega)), if_neg (show ¬ nI i = nI p from by rw [nI_eq (by omega) (by omega)]; exact w), p_taker hb e2 hIi (by omega), Option.bind_some, p_amount hb e2 hIi (by omega), Option.bind_some, g1, Option.bind_some, L1, nI_add]
  · obtain ⟨g, x⟩ := s
    obtain ⟨e1, e2, e3⟩ := hs
    dsimp only at e1 e2 e3
    subst e1
    have hIi := Iv_moC hI hk hp hm (X.1 0 0) (Nat.le_refl _)
    have e0 : (moC X p m (X.1 0 0)).1 0 0 = X.1 0 0 := moC_S X p m _ (by omega)
    obtain ⟨h', g1, g2, g3⟩ := p_endDay hb e2 hIi
    refine ⟨h', ⟨g2, e3.tr g3⟩, ?_⟩
    show f_X3_passDayOfOne_2 (b_X3_passDayOfOne_2 n) g b (nI p) (nI m) (nI (X.1 0 0)) = _
    unfold f_X3_passDayOfOne_2
    rw [e2.1, e0, if_pos (nI_le (Nat.le_refl _) (by omega)), g1]
    rfl
/-! what a search keeps: best + 1, its row, least + 1 -/
abbrev Ac : Type := Nat × Nat × Nat
def upA (need : Nat) (a : Ac) (v t r : Nat) : Ac := (if a.1 < v + 1 then v + 1 else a.1, if a.1 < v + 1 then r else a.2.1, if need ≤ v ∧ (a.2.2 = 0 ∨ t + 1 < a.2.2) then t + 1 else a.2.2)
def fD (need p : Nat) : Nat → St → Nat → Nat → Ac → Ac
  | 0, X, t, r, a => upA need a (X.1 4 p) t r
  | f + 1, X, t, r, a => fD need p f (dyC X p (amC X p 2)) (t + amC X p 2) (3 * r + 2) (fD need p f (dyC X p (amC X p 1)) (t + amC X p 1) (3 * r + 1) (fD need p f (dyC X p (amC X p 0)) (t + amC X p 0) (3 * r + 0) a))
def leA (a b : Ac) : Prop := a.1 ≤ b.1 ∧ (a.2.2 ≠ 0 → b.2.2 ≠ 0 ∧ b.2.2 ≤ a.2.2)
set_option maxHeartbeats 400000 in
theorem leA.rf (a : Ac) : leA a a := ⟨Nat.le_refl _, fun h => ⟨h, Nat.le_refl _⟩⟩
set_option maxHeartbeats 400000 in
theorem leA.tr {a b c : Ac} (h1 : leA a b) (h2 : leA b c) : leA a c := ⟨Nat.le_trans h1.1 h2.1, fun h => ⟨(h2.2 (h1.2 h).1).1, Nat.le_trans (h2.2 (h1.2 h).1).2 (h1.2 h).2⟩⟩
set_option maxHeartbeats 400000 in
theorem upA_le (need : Nat) (a : Ac) (v t r : Nat) : leA a (upA need a v t r) := by
  unfold leA upA
  dsimp only
  refine ⟨?_, fun h => ?_⟩
  · split <;> omega
  · split <;> omega
set_option maxHeartbeats 400000 in
theorem fD_le (need p : Nat) : ∀ (f : Nat) (X : St) (t r : Nat) (a : Ac), leA a (fD need p f X t r a)
  | 0, X, t, r, a => upA_le _ _ _ _ _
  | f + 1, X, t, r, a => ((fD_le need p f _ _ _ _).tr (fD_le need p f _ _ _ _)).tr (fD_le need p f _ _ _ _)
def Sat (need p : Nat) : Nat → St → Nat → Ac → Prop
  | 0, X, t, a => X.1 4 p + 1 ≤ a.1 ∧ (need ≤ X.1 4 p → a.2.2 ≠ 0 ∧ a.2.2 ≤ t + 1)
  | f + 1, X, t, a => Sat need p f (dyC X p (amC X p 0)) (t + amC X p 0) a ∧ Sat need p f (dyC X p (amC X p 1)) (t + amC X p 1) a ∧ Sat need p f (dyC X p (amC X p 2)) (t + amC X p 2) a
set_option maxHeartbeats 400000 in
theorem Sat.mono {need p : Nat} : ∀ {f : Nat} {X : St} {t : Nat} {a b : Ac}, Sat need p f X t a → leA a b → Sat need p f X t b
  | 0, X, t, a, b, s, l => ⟨Nat.le_trans s.1 l.1, fun h => ⟨(l.2 (s.2 h).1).1, Nat.le_trans (l.2 (s.2 h).1).2 (s.2 h).2⟩⟩
  | f + 1, X, t, a, b, s, l => ⟨s.1.mono l, s.2.1.mono l, s.2.2.mono l⟩
set_option maxHeartbeats 400000 in
theorem sat_fD (need p : Nat) : ∀ (f : Nat) (X : St) (t r : Nat) (a : Ac), Sat need p f X t (fD need p f X t r a)
  | 0, X, t, r, a => by
    show X.1 4 p + 1 ≤ (upA need a (X.1 4 p) t r).1 ∧ (need ≤ X.1 4 p → (upA need a (X.1 4 p) t r).2.2 ≠ 0 ∧ (upA need a (X.1 4 p) t r).2.2 ≤ t + 1)
    unfold upA
    dsimp only
    refine ⟨?_, fun h => ?_⟩
    · split <;> omega
    · split <;> omega
  | f + 1, X, t, r, a => ⟨(sat_fD need p f _ _ _ _).mono ((fD_le need p f _ _ _ _).tr (fD_le need p f _ _ _ _)), (sat_fD need p f _ _ _ _).mono (fD_le need p f _ _ _ _), sat_fD need p f _ _ _ _⟩
set_option maxHeartbeats 400000 in
theorem nop_fD (need p : Nat) : ∀ (f : Nat) (X : St) (t r : Nat) (a : Ac), Sat need p f X t a → fD need p f X t r a = a
  | 0, X, t, r, a, s => by
    show upA need a (X.1 4 p) t r = a
    unfold upA
    obtain ⟨s1, s2⟩ := s
    obtain ⟨a1, a2, a3⟩ := a
    dsimp only at s1 s2 ⊢
    rw [if_neg (by omega), if_neg (by omega), if_neg]
    rintro ⟨z1, z2⟩
    have := s2 z1
    omega
  | f + 1, X, t, r, a, s => by
    show fD need p f _ _ _ (fD need p f _ _ _ (fD need p f _ _ _ a)) = a
    rw [nop_fD need p f _ _ _ a s.1, nop_fD need p f _ _ _ a s.2.1, nop_fD need p f _ _ _ a s.2.2]
set_option maxHeartbeats 400000 in
theorem amC0 (X : St) (p : Nat) : amC X p 0 = 0 := by
  unfold amC
  rw [Nat.mul_zero]
-- a choice that gives nothing does no more than the first
set_option maxHeartbeats 400000 in
theorem dup_fD (need p f : Nat) (X : St) (t r c : Nat) (a : Ac) (hs : Sat need p f (dyC X p 0) t a) (hc : amC X p c = 0) : fD need p f (dyC X p (amC X p c)) (t + amC X p c) (3 * r + c) a = a := by
  rw [hc]
  exact nop_fD need p f _ _ _ a hs
/-! the class's own search -/
def bE (b : Nat) : Int32 := if b = 0 then -9 else nI (b - 1)
def EX (n p need d : Nat) (S : St) (r : Nat) (a : Ac) (h : Hp) : Prop := VR h (43 + 11 * d) S ∧ h.1 1 3 = nI p ∧ h.1 1 4 = nI n ∧ h.1 1 5 = nI need ∧ h.1 1 6 = bE a.1 ∧ h.1 1 7 = bE a.2.2 ∧ (∀ j, j < d → h.1 3 j = nI (r / 3 ^ (d - 1 - j) % 3)) ∧ (a.1 ≠ 0 → ∀ j, j < n → h.1 4 j = nI (a.2.1 / 3 ^ (n - 1 - j) % 3))
def EF (d : Nat) (h h' : Hp) : Prop := (∀ c j, ¬ (c = 1 ∧ (j = 6 ∨ j = 7)) → c ≠ 3 → c ≠ 4 → ¬ (43 + 11 * d + 11 ≤ c ∧ c < 120) → h'.1 c j = h.1 c j) ∧ (∀ c j, c < 43 + 11 * d + 11 → h'.2.1 c j = h.2.1 c j)
set_option maxHeartbeats 400000 in
theorem EF.rf (d : Nat) (h : Hp) : EF d h h := ⟨fun _ _ _ _ _ _ => rfl, fun _ _ _ => rfl⟩
set_option maxHeartbeats 400000 in
theorem EF.tr {d : Nat} (a : EF d h h1) (c : EF d h1 h2) : EF d h h2 := ⟨fun i j q1 q2 q3 q4 => (c.1 i j q1 q2 q3 q4).trans (a.1 i j q1 q2 q3 q4), fun i j q => (c.2 i j q).trans (a.2 i j q)⟩
set_option maxHeartbeats 400000 in
theorem bE_le {v b : Nat} (hv : v < 100000) (hb : b < 100000) : nI v ≤ bE b ↔ v + 1 ≤ b := by
  unfold bE
  by_cases w : b = 0
  · rw [if_pos w, Int32.le_iff_toInt_le, nI_toInt (by omega), show (-9 : Int32).toInt = -9 from by decide]
    omega
  · rw [if_neg w, nI_leI (by omega) (by omega)]
    omega
set_option maxHeartbeats 400000 in
theorem yf0 : rf 1 0 = 2 := rfl
set_option maxHeartbeats 400000 in
theorem yf1 : rf 1 1 = 3 := rfl
set_option maxHeartbeats 400000 in
theorem yf2 : rf 1 2 = 4 := rfl
set_option maxHeartbeats 400000 in
theorem lv_ok : ∀ d, d < 7 → rf 2 d = 43 + 11 * d := by decide
set_option maxHeartbeats 400000 in
theorem lvR {d : Nat} (hd : d < 7) : ldR 2 (nI d) = some (43 + 11 * d) := by
  unfold ldR
  rw [if_neg (show ¬ (nI d < 0 ∨ len 2 ≤ (nI d).toNatClampNeg) from nI_in (N := 7) hd (by decide)), nI_clamp (by omega), lv_ok d hd]
set_option maxHeartbeats 400000 in
theorem lvV {d : Nat} (hd : d < 7) : isV (43 + 11 * d) := ⟨d + 3, by omega, by omega⟩
set_option maxHeartbeats 400000 in
theorem c_look {n p need t r : Nat} {a : Ac} {S : St} (hn : n ≤ 6) (hp : p < 6) (hI : Iv k S) (hneed : need ≤ 9999) (ht : t ≤ 90000) (ha : a.1 ≤ 10000 ∧ a.2.2 ≤ 90001) (e : EX n p need n S r a h) : ∃ h', sh_X2_look h 1 (nI t) = some h' ∧ EX n p need n S r (upA need a (S.1 4 p) t r) h' ∧ EF n h h' := by
  obtain ⟨e1, e2, e3, e4, e5, e6, e7, e8⟩ := e
  have h9 := (hI.2.2.2.2.2.2.2.2.1 p hp).2.2.1
  have hV := lvV (d := n) (by omega)
  have st : sh_X2_look h 1 (nI t) = if nI (S.1 4 p) ≤ bE a.1 then b_X2_look_48 h 1 (nI t) (nI (S.1 4 p)) else Option.bind (acI (wI h 1 6 (nI (S.1 4 p))) 3 (nI 0) 4 (nI 0) (nI n)) fun h3 => b_X2_look_48 h3 1 (nI t) (nI (S.1 4 p)) := by
    have e4w : (wI h 1 6 (nI (S.1 4 p))).1 1 4 = nI n := by rw [rdI, if_neg (by omega), e3]
    unfold sh_X2_look
    rw [e3, yf0, lvR (by omega), Option.bind_some, e2, ld_has hV e1 hp, Option.bind_some, e5, e4w, yf1, yf2]
    rfl
  have l48 : ∀ h3, EX n p need n S r (if a.1 < S.1 4 p + 1 then S.1 4 p + 1 else a.1, if a.1 < S.1 4 p + 1 then r else a.2.1, a.2.2) h3 → ∃ h', b_X2_look_48 h3 1 (nI t) (nI (S.1 4 p)) = some h' ∧ EX n p need n S r (upA need a (S.1 4 p) t r) h' ∧ EF n h3 h' := by
    intro h3 q
    obtain ⟨q1, q2, q3, q4, q5, q6, q7, q8⟩ := q
    dsimp only at q5 q6 q8
    have wr : EX n p need n S r (if a.1 < S.1 4 p + 1 then S.1 4 p + 1 else a.1, if a.1 < S.1 4 p + 1 then r else a.2.1, t + 1) (wI h3 1 7 (nI t)) := by
      refine ⟨q1.same (fun c j z1 z2 => by rw [rdI, if_neg (by omega)]) (fun j => rfl), ?_, ?_, ?_, ?_, ?_, fun j hj => ?_, fun z j hj => ?_⟩
      · rw [rdI, if_neg (by omega), q2]
      · rw [rdI, if_neg (by omega), q3]
      · rw [rdI, if_neg (by omega), q4]
      · rw [rdI, if_neg (by omega), q5]
      · rw [rdI, if_pos ⟨rfl, rfl⟩]
        show _ = bE (t + 1)
        unfold bE
        rw [if_neg (by omega), Nat.add_sub_cancel]
      · rw [rdI, if_neg (by omega), q7 j hj]
      · rw [rdI, if_neg (by omega), q8 z j hj]
    have wf : EF n h3 (wI h3 1 7 (nI t)) := ⟨fun c j z1 z2 z3 z4 => by rw [rdI, if_neg (by omega)], fun _ _ _ => rfl⟩
    unfold b_X2_look_48 b_X2_look_73 b_X2_look_78 upA
    rw [q4, q6]
    by_cases w1 : S.1 4 p < need
    · rw [if_pos (nI_lt w1 (by omega)), if_neg (show ¬ (need ≤ S.1 4 p ∧ (a.2.2 = 0 ∨ t + 1 < a.2.2)) from by omega)]
      exact ⟨h3, rfl, ⟨q1, q2, q3, q4, q5, q6, q7, q8⟩, EF.rf _ _⟩
    · rw [if_neg (show ¬ nI (S.1 4 p) < nI need from nI_nlt (by omega) (by omega))]
      unfold bE
      by_cases w2 : a.2.2 = 0
      · rw [if_pos w2, if_pos rfl, if_pos (show need ≤ S.1 4 p ∧ (a.2.2 = 0 ∨ t + 1 < a.2.2) from by omega)]
        exact ⟨_, rfl, wr, wf⟩
      · rw [if_neg w2, if_neg (m9 (by omega))]
        by_cases w3 : t + 1 < a.2.2
        · rw [if_neg (show ¬ nI (a.2.2 - 1) ≤ nI t from nI_ge (by omega) (by omega)), if_pos (show need ≤ S.1 4 p ∧ (a.2.2 = 0 ∨ t + 1 < a.2.2) from by omega)]
          exact ⟨_, rfl, wr, wf⟩
        · rw [if_pos (show nI (a.2.2 - 1) ≤ nI t from nI_le (by omega) (by omega)), if_neg (show ¬ (need ≤ S.1 4 p ∧ (a.2.2 = 0 ∨ t + 1 < a.2.2)) from by omega)]
          exact ⟨h3, rfl, ⟨q1, q2, q3, q4, q5, q6, q7, q8⟩, EF.rf _ _⟩
  rw [st]
  by_cases w : S.1 4 p + 1 ≤ a.1
  · rw [if_pos ((bE_le (by omega) (by omega)).mpr w)]
    refine l48 h ?_
    rw [if_neg (by omega), if_neg (by omega)]
    exact ⟨e1, e2, e3, e4, e5, e6, e7, e8⟩
  · rw [if_neg (show ¬ nI (S.1 4 p) ≤ bE a.1 from fun z => w ((bE_le (by omega) (by omega)).mp z)), acI_n (a0 := 3) (a1 := 4) (sp := 0) (dp := 0) (n := n) (show 0 + n ≤ 6 from by omega) (show 0 + n ≤ 6 from by omega) (by omega), Option.bind_some]
    generalize hh : cpI (wI h 1 6 (nI (S.1 4 p))) 3 0 4 0 n = h3
    have e3' : ∀ c j, h3.1 c j = if c = 4 ∧ j < n then h.1 3 j else if c = 1 ∧ j = 6 then nI (S.1 4 p) else h.1 c j := fun c j => by
      rw [← hh, rdCI]
      by_cases z : c = 4 ∧ j < n
      · rw [if_pos (by omega), if_pos z, rdI, if_neg (by omega), Nat.zero_add, Nat.sub_zero]
      · rw [if_neg (by omega), if_neg z, rdI]
    have e32 : h3.2 = h.2 := by rw [← hh, cpI_2]; rfl
    obtain ⟨h', k1, k2, k3⟩ := l48 h3 (by
      rw [if_pos (by omega), if_pos (by omega)]
      refine ⟨e1.same (fun c j z1 z2 => by rw [e3', if_neg (by omega), if_neg (by omega)]) (fun j => by rw [e32]), ?_, ?_, ?_, ?_, ?_, fun j hj => ?_, fun z j hj => ?_⟩
      · rw [e3', if_neg (by omega), if_neg (by omega), e2]
      · rw [e3', if_neg (by omega), if_neg (by omega), e3]
      · rw [e3', if_neg (by omega), if_neg (by omega), e4]
      · rw [e3', if_neg (by omega), if_pos ⟨rfl, rfl⟩]
        show _ = bE (S.1 4 p + 1)
        unfold bE
        rw [if_neg (by omega), Nat.add_sub_cancel]
      · rw [e3', if_neg (by omega), if_neg (by omega), e6]
      · rw [e3', if_neg (by omega), if_neg (by omega), e7 j hj]
      · rw [e3', if_pos ⟨rfl, hj⟩]
        exact e7 j hj)
    refine ⟨h', k1, k2, EF.tr ⟨fun c j z1 z2 z3 z4 => by rw [e3', if_neg (by omega), if_neg (by omega)], fun c j _ => by rw [e32]⟩ k3⟩
set_option maxHeartbeats 400000 in
theorem dig3 (r e : Nat) {c : Nat} (hc : c < 3) : (3 * r + c) / 3 ^ (e + 1) % 3 = r / 3 ^ e % 3 := by
  rw [Nat.pow_succ', ← Nat.div_div_eq_div_mul, show (3 * r + c) / 3 = r from by omega]
def bdA (a : Ac) : Prop := a.1 ≤ 10000 ∧ a.2.2 ≤ 90001
set_option maxHeartbeats 400000 in
theorem bd_fD (need p : Nat) : ∀ (f : Nat) (S : St) (kk t r : Nat) (a : Ac), Iv kk S → kk + f ≤ 1000 → p < S.1 0 0 → t + 9999 * f ≤ 90000 → bdA a → bdA (fD need p f S t r a)
  | 0, S, kk, t, r, a, hI, hk, hp, ht, hb => by
    have hP := hI.2.1
    have h9 := (hI.2.2.2.2.2.2.2.2.1 p (by omega)).2.2.1
    show bdA (upA need a (S.1 4 p) t r)
    unfold bdA upA at *
    dsimp only
    refine ⟨?_, ?_⟩
    · split <;> omega
    · split <;> omega
  | f + 1, S, kk, t, r, a, hI, hk, hp, ht, hb => by
    have hP := hI.2.1
    have h9 := (hI.2.2.2.2.2.2.2.2.1 p (by omega)).2.2.1
    have st : ∀ c, c ≤ 2 → ∀ a r, bdA a → bdA (fD need p f (dyC S p (amC S p c)) (t + amC S p c) r a) := fun c hc a r hb =>
      bd_fD need p f _ (kk + 1) _ _ a (Iv_dyC hI (by omega) hp (amC_le S p hc)) (by omega) (by rw [dyC_P]; exact hp) (by have := amC_le S p hc; omega) hb
    exact st 2 (by omega) _ _ (st 1 (by omega) _ _ (st 0 (by omega) _ _ hb))
-- what exploring from a level does
def XP (n p need : Nat) (self : Hp → Nat → Int32 → Int32 → Option Hp) (f : Nat) : Prop := ∀ (d kk : Nat) (S : St) (t r : Nat) (a : Ac) (h : Hp), d + f = n → Iv kk S → kk + f ≤ 1000 → p < S.1 0 0 → t + 9999 * f ≤ 90000 → bdA a → EX n p need d S r a h → ∃ h', self h 1 (nI d) (nI t) = some h' ∧ EX n p need d S r (fD need p f S t r a) h' ∧ EF d h h'
set_option maxHeartbeats 400000 in
theorem c_branch {n p need f : Nat} {self : Hp → Nat → Int32 → Int32 → Option Hp} (hn : n ≤ 6) (xp : XP n p need self f) (K : Hp → Nat → Int32 → Int32 → Nat → Int32 → Int32 → Option Hp) {d kk t r c : Nat} {S : St} {a : Ac} {h : Hp} (hd : d + (f + 1) = n) (hI : Iv kk S) (hk : kk + (f + 1) ≤ 1000) (hp : p < S.1 0 0) (ht : t + 9999 * (f + 1) ≤ 90000) (hb : bdA a) (hc : c < 3) (e : EX n p need d S r a h) : ∃ h', b_X2_explore_63 self K h 1 (nI d) (nI t) (43 + 11 * d) (nI (S.1 4 p)) (nI c) (nI (amC S p c)) = K h' 1 (nI d) (nI t) (43 + 11 * d) (nI (S.1 4 p)) (nI (c + 1)) ∧ EX n p need d S r (fD need p f (dyC S p (amC S p c)) (t + amC S p c) (3 * r + c) a) h' ∧ EF d h h' := by
  have hP := hI.2.1
  have h9 := (hI.2.2.2.2.2.2.2.2.1 p (by omega)).2.2.1
  have hm := amC_le S p (c := c) (by omega)
  obtain ⟨e1, e2, e3, e4, e5, e6, e7, e8⟩ := e
  generalize hh1 : wI h 3 d (nI c) = h1
  have w1 : ∀ i j, h1.1 i j = if i = 3 ∧ j = d then nI c else h.1 i j := fun i j => by rw [← hh1, rdI]
  have w12 : h1.2 = h.2 := by rw [← hh1]; rfl
  have v1 : VR h1 (43 + 11 * d) S := e1.same (fun i j z1 z2 => by rw [w1, if_neg (by omega)]) (fun j => by rw [w12])
  obtain ⟨h3, b1, b2, b3⟩ := p_become (h := h1) (lvV (d := d + 1) (by omega)) (lvV (d := d) (by omega)) (by omega)
  have v3 := b3 S v1
  have e33 : h3.1 1 3 = nI p := by rw [b2.1 1 3 (by omega), w1, if_neg (by omega), e2]
  obtain ⟨h4, c1, c2, c3⟩ := p_dayOne (lvV (d := d + 1) (by omega)) v3 hI (by omega) hp hm
  have f14 : ∀ i j, i < 43 + 11 * (d + 1) → h4.1 i j = h1.1 i j := fun i j hi => by rw [c3.1 i j (by omega), b2.1 i j (by omega)]
  have E4 : EX n p need (d + 1) (dyC S p (amC S p c)) (3 * r + c) a h4 := by
    refine ⟨c2, ?_, ?_, ?_, ?_, ?_, fun j hj => ?_, fun z j hj => ?_⟩
    · rw [f14 _ _ (by omega), w1, if_neg (by omega), e2]
    · rw [f14 _ _ (by omega), w1, if_neg (by omega), e3]
    · rw [f14 _ _ (by omega), w1, if_neg (by omega), e4]
    · rw [f14 _ _ (by omega), w1, if_neg (by omega), e5]
    · rw [f14 _ _ (by omega), w1, if_neg (by omega), e6]
    · rw [f14 _ _ (by omega), w1]
      by_cases w : j = d
      · rw [if_pos ⟨rfl, w⟩, w, show d + 1 - 1 - d = 0 from by omega, Nat.pow_zero, Nat.div_one, show (3 * r + c) % 3 = c from by omega]
      · rw [if_neg (by omega), e7 j (by omega), show d + 1 - 1 - j = (d - 1 - j) + 1 from by omega, dig3 _ _ hc]
    · rw [f14 _ _ (by omega), w1, if_neg (by omega), e8 z j hj]
  obtain ⟨h5, k1, k2, k3⟩ := xp (d + 1) (kk + 1) (dyC S p (amC S p c)) (t + amC S p c) (3 * r + c) a h4 (by omega) (Iv_dyC hI (by omega) hp hm) (by omega) (by rw [dyC_P]; exact hp) (by omega) hb E4
  have ff : EF d h h5 := by
    refine ⟨fun i j z1 z2 z3 z4 => ?_, fun i j z => ?_⟩
    · rw [k3.1 i j z1 z2 z3 (by omega), c3.1 i j (by omega), b2.1 i j (by omega), w1, if_neg (by omega)]
    · rw [k3.2 i j (by omega), c3.2.1 i j (by omega), b2.2.1 i j (by omega), w12]
  obtain ⟨q1, q2, q3, q4, q5, q6, q7, q8⟩ := k2
  refine ⟨h5, ?_, ⟨e1.same (fun i j z1 z2 => ff.1 i j (by omega) (by omega) (by omega) (by omega)) (fun j => ff.2 _ j (by omega)), q2, q3, q4, q5, q6, fun j hj => ?_, q8⟩, ff⟩
  · unfold b_X2_explore_63 b_X2_explore_109
    rw [yf1, stI_n (a := 3) (show d < 6 from by omega) (by omega), hh1, Option.bind_some, L1, nI_add, yf0, lvR (by omega), Option.bind_some, b1, Option.bind_some, e33, c1, Option.bind_some, nI_add, k1, Option.bind_some, nI_add]
  · rw [q7 j (by omega), show d + 1 - 1 - j = (d - 1 - j) + 1 from by omega, dig3 _ _ hc]
set_option maxHeartbeats 400000 in
theorem am_eq (S : St) (p c : Nat) (h9 : S.1 4 p ≤ 9999) (hc : c < 3) : (nI (S.1 4 p) * nI c) / (2 : Int32) = nI (amC S p c) := by
  have : S.1 4 p * c ≤ S.1 4 p * 2 := Nat.mul_le_mul_left _ (by omega)
  rw [pk_mul, L2, pk_div (by omega) (by decide) (by decide)]
  rfl
set_option maxHeartbeats 400000 in
theorem xp_step {n p need f : Nat} {self : Hp → Nat → Int32 → Int32 → Option Hp} (hn : n ≤ 6) (xp : XP n p need self f) : XP n p need (g_X2_explore self) (f + 1) := by
  intro d kk S t r a h hd hI hk hp ht hb e
  have hP := hI.2.1
  have h9 := (hI.2.2.2.2.2.2.2.2.1 p (by omega)).2.2.1
  have e' := e
  obtain ⟨e1, e2, e3, e4, e5, e6, e7, e8⟩ := e
  have nx : ∀ c, c ≤ 2 → ∀ a r, bdA a → bdA (fD need p f (dyC S p (amC S p c)) (t + amC S p c) r a) := fun c hc a r hb =>
    bd_fD need p f _ (kk + 1) _ _ a (Iv_dyC hI (by omega) hp (amC_le S p hc)) (by omega) (by rw [dyC_P]; exact hp) (by have := amC_le S p hc; omega) hb
  obtain ⟨hA, p1, p2, p3⟩ := c_branch hn xp (b_X2_explore_35 self 999) (c := 0) hd hI hk hp ht hb (by omega) e'
  have b0 := nx 0 (by omega) a (3 * r + 0) hb
  have s0 : Sat need p f (dyC S p 0) t (fD need p f (dyC S p (amC S p 0)) (t + amC S p 0) (3 * r + 0) a) := by
    have := sat_fD need p f (dyC S p (amC S p 0)) (t + amC S p 0) (3 * r + 0) a
    rw [amC0, Nat.add_zero] at this ⊢
    exact this
  generalize ha0 : fD need p f (dyC S p (amC S p 0)) (t + amC S p 0) (3 * r + 0) a = a0 at *
  obtain ⟨hB, q1, q2, q3⟩ : ∃ h', f_X2_explore_35 self (b_X2_explore_35 self 998) hA 1 (nI d) (nI t) (43 + 11 * d) (nI (S.1 4 p)) (nI 1) = b_X2_explore_35 self 998 h' 1 (nI d) (nI t) (43 + 11 * d) (nI (S.1 4 p)) (nI 2) ∧ EX n p need d S r (fD need p f (dyC S p (amC S p 1)) (t + amC S p 1) (3 * r + 1) a0) h' ∧ EF d hA h' := by
    unfold f_X2_explore_35
    rw [if_neg (by decide), if_neg (by decide), am_eq S p 1 h9 (by omega)]
    by_cases w : amC S p 1 = 0
    · rw [dup_fD need p f S t r 1 a0 s0 w, w, if_pos (show nI 0 = 0 from rfl)]
      refine ⟨hA, ?_, p2, EF.rf _ _⟩
      unfold b_X2_explore_109
      rw [L1, nI_add]
    · have := amC_le S p (c := 1) (by omega)
      rw [if_neg (show ¬ nI (amC S p 1) = 0 from nI_ne0 (by omega) (by omega))]
      exact c_branch hn xp (b_X2_explore_35 self 998) (c := 1) hd hI hk hp ht b0 (by omega) p2
  have b1 := nx 1 (by omega) a0 (3 * r + 1) b0
  have s1 : Sat need p f (dyC S p 0) t (fD need p f (dyC S p (amC S p 1)) (t + amC S p 1) (3 * r + 1) a0) := s0.mono (fD_le need p f _ _ _ _)
  generalize ha1 : fD need p f (dyC S p (amC S p 1)) (t + amC S p 1) (3 * r + 1) a0 = a1 at *
  obtain ⟨hC, r1, r2, r3⟩ : ∃ h', f_X2_explore_35 self (b_X2_explore_35 self 997) hB 1 (nI d) (nI t) (43 + 11 * d) (nI (S.1 4 p)) (nI 2) = b_X2_explore_35 self 997 h' 1 (nI d) (nI t) (43 + 11 * d) (nI (S.1 4 p)) (nI 3) ∧ EX n p need d S r (fD need p f (dyC S p (amC S p 2)) (t + amC S p 2) (3 * r + 2) a1) h' ∧ EF d hB h' := by
    unfold f_X2_explore_35
    rw [if_neg (by decide), if_neg (by decide), am_eq S p 2 h9 (by omega)]
    by_cases w : amC S p 2 = 0
    · rw [dup_fD need p f S t r 2 a1 s1 w, w, if_pos (show nI 0 = 0 from rfl)]
      refine ⟨hB, ?_, q2, EF.rf _ _⟩
      unfold b_X2_explore_109
      rw [L1, nI_add]
    · have := amC_le S p (c := 2) (by omega)
      rw [if_neg (show ¬ nI (amC S p 2) = 0 from nI_ne0 (by omega) (by omega))]
      exact c_branch hn xp (b_X2_explore_35 self 997) (c := 2) hd hI hk hp ht b1 (by omega) q2
  refine ⟨hC, ?_, ?_, (p3.tr q3).tr r3⟩
  · unfold g_X2_explore
    rw [e3, if_pos (nI_lt (by omega) (by omega)), yf0, lvR (by omega), Option.bind_some, e2, ld_has (lvV (d := d) (by omega)) e1 (by omega), Option.bind_some]
    show f_X2_explore_35 self (b_X2_explore_35 self 999) h 1 (nI d) (nI t) (43 + 11 * d) (nI (S.1 4 p)) (nI 0) = _
    unfold f_X2_explore_35
    rw [if_neg (by decide), if_pos (by decide), am_eq S p 0 h9 (by omega), p1]
    show f_X2_explore_35 self (b_X2_explore_35 self 998) hA 1 (nI d) (nI t) (43 + 11 * d) (nI (S.1 4 p)) (nI 1) = _
    rw [q1]
    show f_X2_explore_35 self (b_X2_explore_35 self 997) hB 1 (nI d) (nI t) (43 + 11 * d) (nI (S.1 4 p)) (nI 2) = _
    rw [r1]
    show f_X2_explore_35 self (b_X2_explore_35 self 996) hC 1 (nI d) (nI t) (43 + 11 * d) (nI (S.1 4 p)) (nI 3) = _
    unfold f_X2_explore_35
    rw [if_pos (by decide)]
  · show EX n p need d S r (fD need p f (dyC S p (amC S p 2)) (t + amC S p 2) (3 * r + 2) (fD need p f (dyC S p (amC S p 1)) (t + amC S p 1) (3 * r + 1) (fD need p f (dyC S p (amC S p 0)) (t + amC S p 0) (3 * r + 0) a))) hC
    rw [ha0, ha1]
    exact r2
set_option maxHeartbeats 400000 in
theorem c_explore {n p need : Nat} (hn : n ≤ 6) (hneed : need ≤ 9999) : ∀ (f fuel : Nat), f < fuel → XP n p need (sh_X2_explore fuel) f
  | f, 0, hf => by omega
  | 0, fuel + 1, hf => by
    intro d kk S t r a h hd hI hk hp ht hb e
    have hP := hI.2.1
    have hd' : d = n := by omega
    subst hd'
    obtain ⟨h', k1, k2, k3⟩ := c_look (t := t) hn (by omega) hI hneed (by omega) hb e
    refine ⟨h', ?_, k2, k3⟩
    show g_X2_explore (sh_X2_explore fuel) h 1 (nI d) (nI t) = _
    unfold g_X2_explore
    rw [e.2.2.1, if_neg (nI_nlt (Nat.le_refl _) (by omega)), k1]
    rfl
  | f + 1, fuel + 1, hf => xp_step hn (c_explore hn hneed f fuel (by omega))
set_option maxHeartbeats 400000 in
theorem c_run (g : Gi k h X Y) (hk : k ≤ 900) {n p need : Nat} (hn : n ≤ 6) (hp : p < X.1 0 0) (hneed : need ≤ 9999) : ∃ h', sh_X2_run h 1 10 (nI p) (nI n) (nI need) = some h' ∧ Eq1 h h' ∧ h'.1 1 6 = bE (fD need p n X 0 0 (0, 0, 0)).1 ∧ h'.1 1 7 = bE (fD need p n X 0 0 (0, 0, 0)).2.2 ∧ ∀ j, j < n → h'.1 4 j = nI ((fD need p n X 0 0 (0, 0, 0)).2.1 / 3 ^ (n - 1 - j) % 3) := by
  generalize hh : wI (wI (wI (wI (wI h 1 3 (nI p)) 1 4 (nI n)) 1 5 (nI need)) 1 6 (-9 : Int32)) 1 7 (-9 : Int32) = h0
  have w0 : ∀ c j, h0.1 c j = if c = 1 ∧ j = 7 then -9 else if c = 1 ∧ j = 6 then -9 else if c = 1 ∧ j = 5 then nI need else if c = 1 ∧ j = 4 then nI n else if c = 1 ∧ j = 3 then nI p else h.1 c j := fun c j => by rw [← hh, rdI, rdI, rdI, rdI, rdI]
  have w02 : h0.2 = h.2 := by rw [← hh]; rfl
  have v0 : VR h0 10 X := g.2.1.same (fun c j z1 z2 => by rw [w0, if_neg (by omega), if_neg (by omega), if_neg (by omega), if_neg (by omega), if_neg (by omega)]) (fun j => by rw [w02])
  obtain ⟨h1, b1, b2, b3⟩ := p_become (h := h0) (lvV (d := 0) (by omega)) v10 (by omega)
  have v1 : VR h1 (43 + 11 * 0) X := b3 X v0
  have f1 : ∀ c j, c < 43 → h1.1 c j = h0.1 c j := fun c j hc => b2.1 c j (by omega)
  obtain ⟨h2, k1, k2, k3⟩ := c_explore (p := p) hn hneed n 8 (by omega) 0 k X 0 0 (0, 0, 0) h1 (by omega) g.1 (by omega) hp (by omega) ⟨by decide, by decide⟩ (by
    refine ⟨v1, ?_, ?_, ?_, ?_, ?_, fun j hj => by omega, fun z => absurd rfl z⟩
    · rw [f1 _ _ (by omega), w0, if_neg (by omega), if_neg (by omega), if_neg (by omega), if_neg (by omega), if_pos ⟨rfl, rfl⟩]
    · rw [f1 _ _ (by omega), w0, if_neg (by omega), if_neg (by omega), if_neg (by omega), if_pos ⟨rfl, rfl⟩]
    · rw [f1 _ _ (by omega), w0, if_neg (by omega), if_neg (by omega), if_pos ⟨rfl, rfl⟩]
    · rw [f1 _ _ (by omega), w0, if_neg (by omega), if_pos ⟨rfl, rfl⟩]
      rfl
    · rw [f1 _ _ (by omega), w0, if_pos ⟨rfl, rfl⟩]
      rfl)
  have s1 : (fD need p n X 0 0 (0, 0, 0)).1 ≠ 0 := by
    have key : ∀ (f : Nat) (X : St) (t : Nat) (a : Ac), Sat need p f X t a → a.1 ≠ 0 := by
      intro f
      induction f with
      | zero => intro X t a s; have := s.1; omega
      | succ f ih => intro X t a s; exact ih _ _ _ s.1
    exact key n X 0 _ (sat_fD need p n X 0 0 _)
  refine ⟨h2, ?_, ⟨fun c j q => ?_, fun c j q => ?_⟩, k2.2.2.2.2.1, k2.2.2.2.2.2.1, k2.2.2.2.2.2.2.2 s1⟩
  · unfold sh_X2_run
    rw [yf0, L0, lvR (d := 0) (by omega), Option.bind_some, L6, if_neg (show ¬ nI 6 < nI n from nI_nlt hn (by omega)), hh, b1, Option.bind_some, k1]
    rfl
  · unfold Jn at q
    rw [k3.1 c j (by omega) (by omega) (by omega) (by omega), b2.1 c j (by omega), w0, if_neg (by omega), if_neg (by omega), if_neg (by omega), if_neg (by omega), if_neg (by omega)]
  · rw [k3.2 c j (by omega), b2.2.1 c j (by omega), w02]
end SC
