/-! PURE: the reference's rows; most, choice, gap, feast -/
section CH
variable {h h' h1 h2 : Hp} {k : Nat} {X Y : St}
def stL (p : Nat) : Nat → St → Nat → St
  | 0, X, _ => X
  | f + 1, X, r => stL p f (dyC X p (amC X p (r / 3 ^ f % 3))) r
def ttL (p : Nat) : Nat → St → Nat → Nat
  | 0, _, _ => 0
  | f + 1, X, r => amC X p (r / 3 ^ f % 3) + ttL p f (dyC X p (amC X p (r / 3 ^ f % 3))) r
set_option maxHeartbeats 400000 in
theorem stL_congr (p : Nat) : ∀ (f : Nat) (X : St) (r s : Nat), (∀ g, g < f → r / 3 ^ g % 3 = s / 3 ^ g % 3) → stL p f X r = stL p f X s ∧ ttL p f X r = ttL p f X s
  | 0, X, r, s, _ => ⟨rfl, rfl⟩
  | f + 1, X, r, s, hd => by
    have e := hd f (Nat.lt_succ_self f)
    have ih := stL_congr p f (dyC X p (amC X p (s / 3 ^ f % 3))) r s (fun g hg => hd g (by omega))
    refine ⟨?_, ?_⟩
    · show stL p f (dyC X p (amC X p (r / 3 ^ f % 3))) r = stL p f (dyC X p (amC X p (s / 3 ^ f % 3))) s
      rw [e, ih.1]
    · show amC X p (r / 3 ^ f % 3) + ttL p f (dyC X p (amC X p (r / 3 ^ f % 3))) r = amC X p (s / 3 ^ f % 3) + ttL p f (dyC X p (amC X p (s / 3 ^ f % 3))) s
      rw [e, ih.2]
set_option maxHeartbeats 400000 in
theorem dig_lo {f g c i : Nat} (hg : g < f) : (c * 3 ^ f + i) / 3 ^ g % 3 = i / 3 ^ g % 3 := by
  have e : c * 3 ^ f = 3 ^ g * (3 * (c * 3 ^ (f - g - 1))) := by
    have : f = g + (1 + (f - g - 1)) := by omega
    rw [show 3 ^ f = 3 ^ g * (3 * 3 ^ (f - g - 1)) from by
      conv => lhs; rw [this]
      rw [Nat.pow_add, Nat.pow_add, Nat.pow_one]]
    rw [← Nat.mul_assoc, Nat.mul_comm c, Nat.mul_assoc, ← Nat.mul_assoc c, Nat.mul_comm c 3, Nat.mul_assoc]
  rw [e, Nat.mul_add_div (Nat.pow_pos (by decide))]
  omega
set_option maxHeartbeats 400000 in
theorem dig_hi {f c i : Nat} (hc : c < 3) (hi : i < 3 ^ f) : (c * 3 ^ f + i) / 3 ^ f % 3 = c := by
  rw [Nat.mul_comm, Nat.mul_add_div (Nat.pow_pos (by decide)), Nat.div_eq_of_lt hi]
  omega
def fo (u : Nat → Ac → Ac) : Nat → Ac → Ac
  | 0, a => a
  | m + 1, a => u m (fo u m a)
set_option maxHeartbeats 400000 in
theorem fo_add (u : Nat → Ac → Ac) (A : Nat) : ∀ (B : Nat) (a : Ac), fo u (A + B) a = fo (fun i => u (A + i)) B (fo u A a)
  | 0, a => rfl
  | B + 1, a => by
    show u (A + B) (fo u (A + B) a) = u (A + B) (fo (fun i => u (A + i)) B (fo u A a))
    rw [fo_add u A B a]
set_option maxHeartbeats 400000 in
theorem fo_congr {u w : Nat → Ac → Ac} : ∀ {m : Nat} (a : Ac), (∀ i, i < m → ∀ a, u i a = w i a) → fo u m a = fo w m a
  | 0, a, _ => rfl
  | m + 1, a, hd => by
    show u m (fo u m a) = w m (fo w m a)
    rw [hd m (Nat.lt_succ_self m), fo_congr a (fun i hi => hd i (by omega))]
def lf (need p f : Nat) (X : St) (t b i : Nat) (a : Ac) : Ac := upA need a ((stL p f X i).1 4 p) (t + ttL p f X i) (b + i)
set_option maxHeartbeats 400000 in
theorem fo_fD (need p : Nat) : ∀ (f : Nat) (X : St) (t r : Nat) (a : Ac), fo (lf need p f X t (r * 3 ^ f)) (3 ^ f) a = fD need p f X t r a
  | 0, X, t, r, a => by
    show upA need a (X.1 4 p) (t + 0) (r * 1 + 0) = upA need a (X.1 4 p) t r
    rw [Nat.mul_one, Nat.add_zero, Nat.add_zero]
  | f + 1, X, t, r, a => by
    have blk : ∀ c, c < 3 → ∀ a, fo (fun i => lf need p (f + 1) X t (r * 3 ^ (f + 1)) (c * 3 ^ f + i)) (3 ^ f) a = fD need p f (dyC X p (amC X p c)) (t + amC X p c) (3 * r + c) a := fun c hc a => by
      rw [← fo_fD need p f]
      refine fo_congr a (fun i hi b => ?_)
      unfold lf
      have e1 : stL p (f + 1) X (c * 3 ^ f + i) = stL p f (dyC X p (amC X p c)) i := by
        show stL p f (dyC X p (amC X p ((c * 3 ^ f + i) / 3 ^ f % 3))) (c * 3 ^ f + i) = _
        rw [dig_hi hc hi, (stL_congr p f _ (c * 3 ^ f + i) i (fun g hg => dig_lo hg)).1]
      have e2 : ttL p (f + 1) X (c * 3 ^ f + i) = amC X p c + ttL p f (dyC X p (amC X p c)) i := by
        show amC X p ((c * 3 ^ f + i) / 3 ^ f % 3) + ttL p f (dyC X p (amC X p ((c * 3 ^ f + i) / 3 ^ f % 3))) (c * 3 ^ f + i) = _
        rw [dig_hi hc hi, (stL_congr p f _ (c * 3 ^ f + i) i (fun g hg => dig_lo hg)).2]
      have e3 : r * 3 ^ (f + 1) + (c * 3 ^ f + i) = (3 * r + c) * 3 ^ f + i := by
        rw [Nat.pow_succ', Nat.add_mul, ← Nat.mul_assoc, Nat.mul_comm r 3, Nat.add_assoc]
      rw [e1, e2, e3, Nat.add_assoc]
    have e : 3 ^ (f + 1) = 3 ^ f + 3 ^ f + 3 ^ f := by rw [Nat.pow_succ]; omega
    rw [e, fo_add, fo_add]
    show fo _ (3 ^ f) (fo _ (3 ^ f) (fo (lf need p (f + 1) X t (r * (3 ^ f + 3 ^ f + 3 ^ f))) (3 ^ f) a)) = fD need p f (dyC X p (amC X p 2)) (t + amC X p 2) (3 * r + 2) (fD need p f (dyC X p (amC X p 1)) (t + amC X p 1) (3 * r + 1) (fD need p f (dyC X p (amC X p 0)) (t + amC X p 0) (3 * r + 0) a))
    rw [← e, ← blk 0 (by omega), ← blk 1 (by omega), ← blk 2 (by omega)]
    have g0 : (fun i => lf need p (f + 1) X t (r * 3 ^ (f + 1)) (0 * 3 ^ f + i)) = lf need p (f + 1) X t (r * 3 ^ (f + 1)) := by
      funext i
      rw [Nat.zero_mul, Nat.zero_add]
    have g1 : (fun i => lf need p (f + 1) X t (r * 3 ^ (f + 1)) (1 * 3 ^ f + i)) = fun i => lf need p (f + 1) X t (r * 3 ^ (f + 1)) (3 ^ f + i) := by
      funext i
      rw [Nat.one_mul]
    have g2 : (fun i => lf need p (f + 1) X t (r * 3 ^ (f + 1)) (2 * 3 ^ f + i)) = fun i => lf need p (f + 1) X t (r * 3 ^ (f + 1)) (3 ^ f + 3 ^ f + i) := by
      funext i
      rw [Nat.two_mul]
    rw [g0, g1, g2]
-- the cells that last over what is done in mind
set_option maxHeartbeats 400000 in
theorem m_mind2 (hm : MR h X) : ∃ h1, sh_X5_open h 120 = some h1 ∧ MR h1 X ∧ (∀ j, 30 ≤ j → j ≤ 32 → h1.1 120 j = h.1 120 j) ∧ ∀ h2, MF h1 h2 → ∃ h3, sh_X5_close h2 120 = some h3 ∧ Eq1 h h3 ∧ ∀ j, 30 ≤ j → j ≤ 32 → h3.1 120 j = h2.1 120 j := by
  obtain ⟨h1, e1, e2, e3⟩ := m_open hm
  refine ⟨h1, e1, e3, fun j a b => by rw [e2.1, if_neg (by omega), if_neg (by omega), if_neg (by omega)], fun h2 f => ?_⟩
  obtain ⟨h3, c1, c2⟩ := m_close e2 f
  refine ⟨h3, c1, c2, fun j a b => ?_⟩
  obtain ⟨h4, d1, g⟩ := m_put h2 (c := 129) (Or.inl rfl)
  have d2 : sh_X5_close h2 120 = some h4 := by
    unfold sh_X5_close
    rw [mf16, L0, d1]
    rfl
  rw [c1] at d2
  rw [Option.some.inj d2, g.1, if_neg, if_neg (by omega), if_neg (by omega)]
  unfold ivP
  rw [if_neg (by omega), if_neg (by omega), if_neg (by omega), if_neg (by omega), if_neg (by omega), if_neg (by omega)]
  omega
set_option maxHeartbeats 400000 in
theorem m_choose (hm : MR h X) (hI : Iv k X) {p c t : Nat} (hp : p < X.1 0 0) (hc : c < 3) (h30 : h.1 120 30 = nI t) : ∃ h', sh_X5_choose h 120 (nI p) (nI c) = some h' ∧ MR h' (giv X p (tq X p) (amC X p c)) ∧ MF h h' ∧ h'.1 120 30 = nI (t + amC X p c) := by
  have hP := hI.2.1
  have h9 := (hI.2.2.2.2.2.2.2.2.1 p (by omega)).2.2.1
  have hle := amC_le X p (c := c) (by omega)
  have st : sh_X5_choose h 120 (nI p) (nI c) = b_X5_choose_30 h 120 (nI p) (nI (amC X p c)) := by
    unfold sh_X5_choose
    rw [md_has hm (by omega), Option.bind_some, Option.bind_some]
    rcases (by omega : c = 0 ∨ c = 1 ∨ c = 2) with rfl | rfl | rfl
    · rw [if_pos (show nI 0 = 0 from rfl), amC0]
      rfl
    · rw [if_neg (show ¬ nI 1 = 0 from by decide), if_pos (show nI 1 = (1 : Int32) from rfl), L2, pk_div (by omega) (by decide) (by decide)]
      unfold amC
      rw [Nat.mul_one]
    · rw [if_neg (show ¬ nI 2 = 0 from by decide), if_neg (show ¬ nI 2 = (1 : Int32) from by decide)]
      unfold amC
      rw [Nat.mul_div_cancel _ (by decide)]
  have hq := tq_ok hI hp
  have hqn := tq_ne hI hp
  have h3 := hI.2.2.2.2.2.2.2.2.2.1 p hp
  rw [st]
  unfold giv
  by_cases w : amC X p c = 0
  · rw [w, if_pos (Or.inr rfl)]
    exact ⟨h, rfl, hm, MF.rf h, h30⟩
  · rw [if_neg (show ¬ (tq X p = p ∨ amC X p c = 0) from by omega)]
    obtain ⟨h', g1, g2, g3, _⟩ := m_addGift hm hI (p := p) (q := col (tq X p)) (n := amC X p c) (by omega) (by unfold col; split <;> omega) hle
    refine ⟨wI h' 120 30 (nI (t + amC X p c)), ?_, g2.of (fun j hj => by rw [rdI, if_neg (by omega)]) (fun i j z1 z2 => by rw [rdI, if_neg (by omega)]), g3.mf.tr (MF.wI h' 30 _ (by unfold MJ; omega)), by rw [rdI, if_pos ⟨rfl, rfl⟩]⟩
    have e30 : h'.1 120 30 = nI t := by rw [g3.1 120 30 (by unfold DJ; omega), h30]
    have key : b_X5_choose_69 h 120 (nI (amC X p c)) 120 (nI p) (nI (col (tq X p))) = some (wI h' 120 30 (nI (t + amC X p c))) := by
      unfold b_X5_choose_69 b_X5_choose_83
      rw [g1, Option.bind_some, e30, nI_add]
    unfold b_X5_choose_30 b_X5_choose_58
    rw [if_neg (show ¬ nI (amC X p c) ≤ 0 from by rw [L0]; exact nI_ge (by omega) (by omega)), md_to hm (by omega), Option.bind_some, Option.bind_some, Option.bind_some]
    unfold tq col at key
    by_cases z : X.1 3 p = p
    · rw [if_pos z, if_pos rfl] at key
      rw [if_pos (show nI (X.1 3 p) = nI p from by rw [z])]
      exact key
    · rw [if_neg z] at key
      rw [if_neg (show ¬ nI (X.1 3 p) = nI p from by rw [nI_eq (by omega) (by omega)]; exact z)]
      by_cases y : X.1 3 p = 9
      · rw [if_pos y] at key
        rw [if_pos (show nI (X.1 3 p) = (9 : Int32) from by rw [y]; rfl)]
        exact key
      · rw [if_neg y] at key
        rw [if_neg (show ¬ nI (X.1 3 p) = (9 : Int32) from by rw [L9, nI_eq (by omega) (by omega)]; exact y)]
        exact key
set_option maxHeartbeats 400000 in
theorem m_rowDay {K : Hp → Nat → Int32 → Int32 → Int32 → Int32 → Int32 → Option (Int32 × Hp)} (hm : MR h X) (hI : Iv k X) (hk : k + 1 ≤ 1000) {p n r w d t : Nat} (hp : p < X.1 0 0) (hr : r < 1000) (hw : 0 < w) (hw2 : w < 1000) (h30 : h.1 120 30 = nI t) : ∃ h', b_X5_byRow_33 K 1000 h 120 (nI p) (nI n) (nI r) (nI w) (nI d) (0 : Int32) = K h' 120 (nI p) (nI n) (nI r) (nI w) (nI (d + 1)) ∧ MR h' (dyC X p (amC X p (r / w % 3))) ∧ MF h h' ∧ h'.1 120 30 = nI (t + amC X p (r / w % 3)) := by
  have hP := hI.2.1
  have hc : r / w % 3 < 3 := Nat.mod_lt _ (by decide)
  have hrw : r / w ≤ r := Nat.div_le_self _ _
  generalize hcd : r / w % 3 = c at *
  have hle := amC_le X p (c := c) (by omega)
  have key : ∀ (f i fuel : Nat) (g : Hp), f + i = X.1 0 0 → f < fuel → MR g (moC X p (amC X p c) i) → MF h g → g.1 120 30 = nI (if p < i then t + amC X p c else t) → ∃ h', b_X5_byRow_33 K fuel g 120 (nI p) (nI n) (nI r) (nI w) (nI d) (nI i) = K h' 120 (nI p) (nI n) (nI r) (nI w) (nI (d + 1)) ∧ MR h' (dyC X p (amC X p c)) ∧ MF h h' ∧ h'.1 120 30 = nI (t + amC X p c) := by
    intro f
    induction f with
    | zero =>
      intro i fuel g e hf m mf q
      obtain ⟨fuel, rfl⟩ : ∃ z, fuel = z + 1 := ⟨fuel - 1, by omega⟩
      have hi : i = X.1 0 0 := by omega
      subst hi
      have hIi := Iv_moC hI hk hp hle (X.1 0 0) (Nat.le_refl _)
      obtain ⟨h', g1, g2, g3, _⟩ := m_endDay m hIi
      refine ⟨h', ?_, g2, mf.tr g3.mf, ?_⟩
      · show f_X5_byRow_33 K (b_X5_byRow_33 K fuel) g 120 (nI p) (nI n) (nI r) (nI w) (nI d) (nI (X.1 0 0)) = _
        unfold f_X5_byRow_33
        rw [m.1 0 (by decide), moC_S X p _ _ (by omega), if_pos (nI_le (Nat.le_refl _) (by omega)), g1, Option.bind_some, L1, nI_add]
      · rw [g3.1 120 30 (by unfold DJ; omega), q, if_pos hp]
    | succ f ih =>
      intro i fuel g e hf m mf q
      obtain ⟨fuel, rfl⟩ : ∃ z, fuel = z + 1 := ⟨fuel - 1, by omega⟩
      have hIi := Iv_moC hI hk hp hle i (by omega)
      have e0 : (moC X p (amC X p c) i).1 0 0 = X.1 0 0 := moC_S X p _ i (by omega)
      have eS : moC X p (amC X p c) (i + 1) = if i = p then giv (moC X p (amC X p c) i) p (tq (moC X p (amC X p c) i) p) (amC X p c) else giv (moC X p (amC X p c) i) i (tgt (moC X p (amC X p c) i) i) (amt (moC X p (amC X p c) i) i) := rfl
      by_cases z : i = p
      · subst z
        have h4 : amC (moC X i (amC X i c) i) i c = amC X i c := by
          unfold amC
          rw [moC_S X i _ i (by omega)]
        rw [if_neg (by omega)] at q
        obtain ⟨g', c1, c2, c3, c4⟩ := m_choose m hIi (p := i) (c := c) (by rw [e0]; exact hp) hc q
        rw [h4] at c2 c4
        obtain ⟨h', k1, k2, k3, k4⟩ := ih (i + 1) fuel g' (by omega) (by omega) (by rw [eS, if_pos rfl]; exact c2) (mf.tr c3) (by rw [if_pos (by omega)]; exact c4)
        refine ⟨h', ?_, k2, k3, k4⟩
        show f_X5_byRow_33 K (b_X5_byRow_33 K fuel) g 120 (nI i) (nI n) (nI r) (nI w) (nI d) (nI i) = _
        unfold f_X5_byRow_33 b_X5_byRow_68 dvI
        rw [m.1 0 (by decide), e0, if_neg (nI_ge (by omega) (by omega)), if_pos rfl, if_neg (nI_ne0 hw (by omega)), Option.bind_some, pk_div (by omega) hw (by omega), L3, pk_rem (by omega) (by decide) (by decide), hcd, c1, Option.bind_some, L1, nI_add]
        exact k1
      · obtain ⟨g', c1, c2, c3, _⟩ := m_give m hIi (p := i) (by rw [e0]; omega)
        obtain ⟨h', k1, k2, k3, k4⟩ := ih (i + 1) fuel g' (by omega) (by omega) (by rw [eS, if_neg z]; exact c2) (mf.tr c3.mf) (by
          rw [c3.1 120 30 (by unfold DJ; omega), q]
          congr 1
          by_cases y : p < i
          · rw [if_pos y, if_pos (by omega)]
          · rw [if_neg y, if_neg (by omega)])
        refine ⟨h', ?_, k2, k3, k4⟩
        show f_X5_byRow_33 K (b_X5_byRow_33 K fuel) g 120 (nI p) (nI n) (nI r) (nI w) (nI d) (nI i) = _
        unfold f_X5_byRow_33 b_X5_byRow_68
        rw [m.1 0 (by decide), e0, if_neg (nI_ge (by omega) (by omega)), if_neg (show ¬ nI i = nI p from by rw [nI_eq (by omega) (by omega)]; exact z), c1, Option.bind_some, L1, nI_add]
        exact k1
  exact key (X.1 0 0) 0 1000 h rfl (by omega) hm (MF.rf h) (by rw [if_neg (by omega)]; exact h30)
set_option maxHeartbeats 400000 in
theorem m_power (h : Hp) {n : Nat} (hn : n ≤ 6) : sh_X5_power h (nI n) = some (nI (3 ^ n)) := by
  refine lpE (fun m (s : Int32 × Int32) => b_X5_power_4 m h (nI n) s.1 s.2) (fun i => (nI (3 ^ i), nI i)) _ n (fun m i hi => ?_) (fun m => ?_) 1000 0 (by omega) (by omega)
  · show f_X5_power_4 (b_X5_power_4 m) h (nI n) (nI (3 ^ i)) (nI i) = b_X5_power_4 m h (nI n) (nI (3 ^ (i + 1))) (nI (i + 1))
    unfold f_X5_power_4
    rw [if_neg (nI_ge hi (by omega)), L3, pk_mul, L1, nI_add, Nat.pow_succ]
  · show f_X5_power_4 (b_X5_power_4 m) h (nI n) (nI (3 ^ n)) (nI n) = _
    unfold f_X5_power_4
    rw [if_pos (nI_le (Nat.le_refl _) (by omega))]
set_option maxHeartbeats 400000 in
theorem p3 {n : Nat} (hn : n ≤ 6) : 0 < 3 ^ n ∧ 3 ^ n ≤ 729 := ⟨Nat.pow_pos (by decide), by
  have : 3 ^ n ≤ 3 ^ 6 := Nat.pow_le_pow_right (by decide) hn
  omega⟩
set_option maxHeartbeats 400000 in
theorem m_row18 {p n r : Nat} (hn : n ≤ 6) (hr : r < 1000) (h0 : Hp) {g0 : Hp} (hc : ∀ h2, MF h0 h2 → ∃ h3, sh_X5_close h2 120 = some h3 ∧ Eq1 g0 h3 ∧ ∀ j, 30 ≤ j → j ≤ 32 → h3.1 120 j = h2.1 120 j) : ∀ (f d fuel kk t : Nat) (S : St) (h : Hp), f + d = n → f < fuel → Iv kk S → kk + f ≤ 1000 → p < S.1 0 0 → MR h S → MF h0 h → h.1 120 30 = nI t → ∃ h', b_X5_byRow_18 fuel h 120 (nI p) (nI n) (nI r) (nI (3 ^ f)) (nI d) = some (nI ((stL p f S r).1 4 p), h') ∧ Eq1 g0 h' ∧ h'.1 120 30 = nI (t + ttL p f S r) ∧ ∀ j, 31 ≤ j → j ≤ 32 → h'.1 120 j = h0.1 120 j
  | f, d, 0, kk, t, S, h, e, hf, hI, hk, hp, hm, mf, h30 => by omega
  | 0, d, fuel + 1, kk, t, S, h, e, hf, hI, hk, hp, hm, mf, h30 => by
    have hP := hI.2.1
    obtain ⟨h3, c1, c2, c3⟩ := hc h mf
    refine ⟨h3, ?_, c2, by rw [c3 30 (by omega) (by omega), h30]; rfl, fun j a b => by rw [c3 j (by omega) b, mf.1 120 j (by unfold MJ; omega)]⟩
    show f_X5_byRow_18 (b_X5_byRow_18 fuel) h 120 (nI p) (nI n) (nI r) (nI (3 ^ 0)) (nI d) = _
    unfold f_X5_byRow_18
    rw [if_pos (nI_le (by omega) (by omega)), md_has hm (by omega), Option.bind_some, c1]
    rfl
  | f + 1, d, fuel + 1, kk, t, S, h, e, hf, hI, hk, hp, hm, mf, h30 => by
    have hP := hI.2.1
    have hp3 := p3 (n := f) (by omega)
    have hp4 := p3 (n := f + 1) (by omega)
    have hc2 : r / 3 ^ f % 3 < 3 := Nat.mod_lt _ (by decide)
    obtain ⟨h1, a1, a2, a3, a4⟩ := m_rowDay (K := b_X5_byRow_18 fuel) hm hI (by omega) (n := n) (r := r) (w := 3 ^ f) (d := d) hp hr hp3.1 (by omega) h30
    obtain ⟨h2, b1, b2, b3, b4⟩ := m_row18 hn hr h0 hc f (d + 1) fuel (kk + 1) (t + amC S p (r / 3 ^ f % 3)) _ h1 (by omega) (by omega) (Iv_dyC hI (by omega) hp (amC_le S p (by omega))) (by omega) (by rw [dyC_P]; exact hp) a2 (mf.tr a3) a4
    refine ⟨h2, ?_, b2, ?_, b4⟩
    · show f_X5_byRow_18 (b_X5_byRow_18 fuel) h 120 (nI p) (nI n) (nI r) (nI (3 ^ (f + 1))) (nI d) = _
      unfold f_X5_byRow_18
      rw [if_neg (nI_ge (by omega) (by omega)), L3, pk_div (by omega) (by decide) (by decide), show 3 ^ (f + 1) / 3 = 3 ^ f from by rw [Nat.pow_succ]; exact Nat.mul_div_cancel _ (by decide), a1]
      exact b1
    · rw [b3, Nat.add_assoc]
      rfl
set_option maxHeartbeats 400000 in
theorem m_byRow (hm : MR h X) (hI : Iv k X) (hk : k ≤ 900) {p n r : Nat} (hn : n ≤ 6) (hp : p < X.1 0 0) (hr : r < 1000) : ∃ h', sh_X5_byRow h 120 (nI p) (nI n) (nI r) = some (nI ((stL p n X r).1 4 p), h') ∧ Eq1 h h' ∧ h'.1 120 30 = nI (ttL p n X r) ∧ ∀ j, 31 ≤ j → j ≤ 32 → h'.1 120 j = h.1 120 j := by
  obtain ⟨h1, o1, o2, o3, o4⟩ := m_mind2 hm
  have m1 : MR (wI h1 120 30 (nI 0)) X := o2.of (fun j hj => by rw [rdI, if_neg (by omega)]) (fun i j z1 z2 => by rw [rdI, if_neg (by omega)])
  obtain ⟨h2, b1, b2, b3, b4⟩ := m_row18 hn hr h1 o4 n 0 1000 k 0 X (wI h1 120 30 (nI 0)) (by omega) (by omega) hI (by omega) hp m1 (MF.wI h1 30 _ (by unfold MJ; omega)) (by rw [rdI, if_pos ⟨rfl, rfl⟩])
  refine ⟨h2, ?_, b2, by rw [b3, Nat.zero_add], fun j a b => by rw [b4 j a b, o3 j (by omega) b]⟩
  unfold sh_X5_byRow
  rw [o1, Option.bind_some, L0, m_power _ hn, Option.bind_some]
  exact b1
end CH
