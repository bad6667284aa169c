/-! PURE: seeds, told -/
section SD
variable {h h' h1 h2 : Hp} {k : Nat} {X Y : St}
def nxs (s : Int32) : Int32 := (s * (1103515245 : Int32)) + (12345 : Int32)
def drw (s : Int32) (n : Nat) : Nat := (s.toBitVec.toNat % 2 ^ 31) / 65536 % n
set_option maxHeartbeats 400000 in
theorem drw_lt (s : Int32) {n : Nat} (hn : 0 < n) : drw s n < n := Nat.mod_lt _ hn
set_option maxHeartbeats 400000 in
theorem rm_draw (s : Int32) {n : Nat} (hn : 0 < n) (h6 : n < 1000) : rmI ((s &&& (2147483647 : Int32)) / (65536 : Int32)) (nI n) = some (nI (drw s n)) := by
  have e : s &&& (2147483647 : Int32) = nI (s.toBitVec.toNat % 2 ^ 31) := pk_and s 31 (by decide)
  have hlt : s.toBitVec.toNat % 2 ^ 31 < 2 ^ 31 := Nat.mod_lt _ (by decide)
  unfold rmI
  rw [e, L65536, pk_div hlt (by decide) (by decide), if_neg (nI_ne0 hn (by omega)), pk_rem (by
    have : s.toBitVec.toNat % 2 ^ 31 / 65536 ≤ s.toBitVec.toNat % 2 ^ 31 := Nat.div_le_self _ _
    omega) hn (by omega)]
  rfl
set_option maxHeartbeats 400000 in
theorem c_draw (h : Hp) (s : Int32) {n : Nat} (hn : 0 < n) (h6 : n < 1000) : sh_X4_draw h s (nI n) = some (nI (drw s n)) := by
  unfold sh_X4_draw b_X4_draw_20
  rw [L1, if_pos (nI_le (by omega) (by omega)), rm_draw s hn h6]
  rfl
set_option maxHeartbeats 400000 in
theorem m_draw {s : Int32} (e : h.1 120 35 = s) {n : Nat} (hn : 0 < n) (h6 : n < 1000) : sh_X5_draw h 120 (nI n) = some (nI (drw (nxs s) n), wI h 120 35 (nxs s)) := by
  unfold sh_X5_draw
  show Option.bind (rmI (((wI h 120 35 (nxs (h.1 120 35))).1 120 35 &&& (2147483647 : Int32)) / (65536 : Int32)) (nI n)) _ = _
  rw [rdI, if_pos ⟨rfl, rfl⟩, rm_draw _ hn h6, e]
  rfl
-- p finds v more
def fnd (X : St) (p v : Nat) : St := (up1 X.1 4 p (min 9999 (X.1 4 p + v)), X.2)
set_option maxHeartbeats 400000 in
theorem Iv_fnd (hI : Iv k X) {p v : Nat} (hp : p < X.1 0 0) : Iv k (fnd X p v) := Iv_fld hI hp (Or.inl ⟨rfl, by omega⟩)
def sdN (X : St) (s : Int32) : St := dyS (fnd X (drw (nxs s) (X.1 0 0)) (drw (nxs (nxs s)) 10))
def sdI (X : St) (s : Int32) : Nat → St
  | 0 => X
  | n + 1 => sdI (sdN X s) (nxs (nxs s)) n
set_option maxHeartbeats 400000 in
theorem sdN_P (X : St) (s : Int32) : (sdN X s).1 0 0 = X.1 0 0 := by
  unfold sdN
  rw [dyS_0 _ (by decide)]
  unfold fnd up1
  dsimp only
  rw [if_neg (by omega)]
set_option maxHeartbeats 400000 in
theorem Iv_sdN (hI : Iv k X) (hk : k + 1 ≤ 1000) (hP : 0 < X.1 0 0) (s : Int32) : Iv (k + 1) (sdN X s) := Iv_day (Iv_fnd hI (drw_lt _ hP)) hk
set_option maxHeartbeats 400000 in
theorem c_find (hv : VR h 32 X) (hI : Iv k X) {p v : Nat} (hp : p < X.1 0 0) (hv1 : v < 10) : ∃ h', sh_X3_find h 32 (nI p) (nI v) = some h' ∧ VR h' 32 (fnd X p v) ∧ VF 32 h h' := by
  have hP := hI.2.1
  have h9 := (hI.2.2.2.2.2.2.2.2.1 p (by omega)).2.2.1
  refine ⟨wI h (32 + 4) p (nI (min 9999 (X.1 4 p + v))), ?_, hv.fld (by decide) (by decide), VF.wI h p _ (by omega) (by omega)⟩
  unfold sh_X3_find b_X3_find_28
  rcases p_exists hv hP (nI p) with ⟨q, _, _, e⟩ | ⟨z, _⟩
  · rw [e, Option.bind_some, if_neg (by decide), ld_has v32 hv (by omega), Option.bind_some, nI_add, rf3 v32, stI_n (a := 32 + 4) (show p < 6 from by omega) (by omega), Option.bind_some]
    congr 2
    by_cases w : X.1 4 p + v < 9999
    · rw [L9999, if_pos (nI_lt w (by omega)), Nat.min_eq_right (by omega)]
    · rw [L9999, if_neg (nI_nlt (by omega) (by omega)), Nat.min_eq_left (by omega)]
  · exact absurd rfl (z p hp)
set_option maxHeartbeats 400000 in
theorem c_seeds52 {n : Nat} (hn : n ≤ 20) : ∀ (f i fuel k : Nat) (X : St) (s : Int32) (h : Hp), f + i = n → f < fuel → Iv k X → k + f ≤ 1000 → 0 < X.1 0 0 → VR h 32 X → ∃ h', b_X4_seeds_52 fuel h 0 (nI n) s (nI i) = some (nI (sumH (sdI X s f)), h') ∧ VF 32 h h'
  | f, i, 0, k, X, s, h, e, hf, hI, hk, h0, hv => by omega
  | 0, i, fuel + 1, k, X, s, h, e, hf, hI, hk, h0, hv => by
    refine ⟨h, ?_, VF.rf _ _⟩
    show f_X4_seeds_52 (b_X4_seeds_52 fuel) h 0 (nI n) s (nI i) = _
    unfold f_X4_seeds_52
    rw [if_pos (nI_le (by omega) (by omega)), xf2, p_sumHas v32 hv hI.2.1]
    rfl
  | f + 1, i, fuel + 1, k, X, s, h, e, hf, hI, hk, h0, hv => by
    have hP := hI.2.1
    obtain ⟨h1, a1, a2, a3⟩ := c_find hv hI (p := drw (nxs s) (X.1 0 0)) (v := drw (nxs (nxs s)) 10) (drw_lt _ h0) (drw_lt _ (by decide))
    obtain ⟨h2, b1, b2, b3⟩ := p_passDay v32 a2 (Iv_fnd hI (drw_lt _ h0)) (by omega)
    obtain ⟨h3, c1, c2⟩ := c_seeds52 hn f (i + 1) fuel (k + 1) (sdN X s) (nxs (nxs s)) h2 (by omega) (by omega) (Iv_sdN hI (by omega) h0 s) (by omega) (by rw [sdN_P]; exact h0) b2
    refine ⟨h3, ?_, (a3.tr b3).tr c2⟩
    show f_X4_seeds_52 (b_X4_seeds_52 fuel) h 0 (nI n) s (nI i) = _
    unfold f_X4_seeds_52
    rw [if_neg (nI_ge (by omega) (by omega))]
    show Option.bind (some (nxs s)) _ = _
    rw [Option.bind_some, xf2, hv.1, c_draw h _ h0 (by omega), Option.bind_some]
    show Option.bind (some (nxs (nxs s))) _ = _
    rw [Option.bind_some, L10, c_draw h _ (by decide) (by decide), Option.bind_some, a1, Option.bind_some, b1, Option.bind_some, L1, nI_add]
    exact c1
set_option maxHeartbeats 400000 in
theorem m_seeds53 {n : Nat} (hn : n ≤ 20) (h0 : Hp) {g0 : Hp} (hc : ∀ h2, MF h0 h2 → ∃ h3, sh_X5_close h2 120 = some h3 ∧ Eq1 g0 h3) : ∀ (f i fuel k : Nat) (X : St) (s : Int32) (h : Hp), f + i = n → f < fuel → Iv k X → k + f ≤ 1000 → 0 < X.1 0 0 → MR h X → MF h0 h → h.1 120 35 = s → ∃ h', b_X5_seeds_53 fuel h 120 (nI n) (nI i) = some (nI (sumH (sdI X s f)), h') ∧ Eq1 g0 h'
  | f, i, 0, k, X, s, h, e, hf, hI, hk, hp0, hm, mf, hs => by omega
  | 0, i, fuel + 1, k, X, s, h, e, hf, hI, hk, hp0, hm, mf, hs => by
    obtain ⟨h3, c1, c2⟩ := hc h mf
    refine ⟨h3, ?_, c2⟩
    show f_X5_seeds_53 (b_X5_seeds_53 fuel) h 120 (nI n) (nI i) = _
    unfold f_X5_seeds_53
    rw [if_pos (nI_le (by omega) (by omega)), m_all hm hI.2.1, Option.bind_some, c1]
    rfl
  | f + 1, i, fuel + 1, k, X, s, h, e, hf, hI, hk, hp0, hm, mf, hs => by
    have hP := hI.2.1
    have hp : drw (nxs s) (X.1 0 0) < X.1 0 0 := drw_lt _ hp0
    have hv10 : drw (nxs (nxs s)) 10 < 10 := drw_lt _ (by decide)
    generalize hpd : drw (nxs s) (X.1 0 0) = p at *
    generalize hvd : drw (nxs (nxs s)) 10 = v at *
    have h9 := (hI.2.2.2.2.2.2.2.2.1 p (by omega)).2.2.1
    have d1 : sh_X5_draw h 120 (nI (X.1 0 0)) = some (nI p, wI h 120 35 (nxs s)) := by rw [m_draw hs hp0 (by omega), hpd]
    generalize hh1 : wI h 120 35 (nxs s) = h1 at *
    have e1 : ∀ c j, h1.1 c j = if c = 120 ∧ j = 35 then nxs s else h.1 c j := fun c j => by rw [← hh1, rdI]
    have d2 : sh_X5_draw h1 120 (nI 10) = some (nI v, wI h1 120 35 (nxs (nxs s))) := by rw [m_draw (s := nxs s) (by rw [e1, if_pos ⟨rfl, rfl⟩]) (by decide) (by decide), hvd]
    have mf1 : MF h h1 := by rw [← hh1]; exact MF.wI h 35 _ (by unfold MJ; omega)
    have m1 : MR h1 X := hm.of (fun j hj => by rw [e1, if_neg (by omega)]) (fun c j z1 z2 => by rw [e1, if_neg (by omega)])
    generalize hh2 : wI h1 120 35 (nxs (nxs s)) = h2 at *
    have e2 : ∀ c j, h2.1 c j = if c = 120 ∧ j = 35 then nxs (nxs s) else h1.1 c j := fun c j => by rw [← hh2, rdI]
    have mf2 : MF h1 h2 := by rw [← hh2]; exact MF.wI h1 35 _ (by unfold MJ; omega)
    have m2 : MR h2 X := m1.of (fun j hj => by rw [e2, if_neg (by omega)]) (fun c j z1 z2 => by rw [e2, if_neg (by omega)])
    have m3 : MR (wI h2 125 p (nI (min 9999 (X.1 4 p + v)))) (fnd X p v) := m2.fld (Or.inl ⟨rfl, rfl⟩)
    have mf3 : MF h2 (wI h2 125 p (nI (min 9999 (X.1 4 p + v)))) := MF.wI h2 p _ (by unfold MJ; omega)
    obtain ⟨h4, b1, b2, b3, _⟩ := m_dayOn m3 (Iv_fnd hI hp) (by omega)
    have eN : sdN X s = dyS (fnd X p v) := by unfold sdN; rw [hpd, hvd]
    obtain ⟨h5, c1, c2⟩ := m_seeds53 hn h0 hc f (i + 1) fuel (k + 1) (sdN X s) (nxs (nxs s)) h4 (by omega) (by omega) (Iv_sdN hI (by omega) hp0 s) (by omega) (by rw [sdN_P]; exact hp0) (by rw [eN]; exact b2) ((((mf.tr mf1).tr mf2).tr mf3).tr b3.mf) (by rw [b3.1 120 35 (by unfold DJ; omega), rdI, if_neg (by omega), e2, if_pos ⟨rfl, rfl⟩])
    refine ⟨h5, ?_, c2⟩
    show f_X5_seeds_53 (b_X5_seeds_53 fuel) h 120 (nI n) (nI i) = _
    unfold f_X5_seeds_53
    rw [if_neg (nI_ge (by omega) (by omega)), hm.1 0 (by decide), d1, Option.bind_some, md_has m1 (by omega), Option.bind_some, L10, d2, Option.bind_some, nI_add, L9999, m_lesser (by omega) (by omega), Option.bind_some, mf10, stI_n (a := 125) (show p < 6 from by omega) (by omega), Option.bind_some, b1, Option.bind_some, L1, nI_add]
    exact c1
set_option maxHeartbeats 400000 in
theorem a_seeds (x1 x2 : Int32) : Same k (fun h => sh_X4_seeds h 0 x1 x2) (fun h => sh_X5_seeds h 120 x1 x2) := by
  intro h X Y g hk
  have hP := g.P
  have c25 : ∀ r, isR r → b_X4_seeds_25 h 0 x1 x2 r = Option.bind (sh_X4_refuse h 0 r) fun q => some (q.1, q.2) := fun r hr => by
    unfold b_X4_seeds_25
    rw [if_neg (isR_neg hr).1]
  have m30 : ∀ h1 r, isR r → b_X5_seeds_30 (th h1) 120 x1 x2 r = Option.bind (sh_X5_refuse (th h1) 120 r) fun q => some (q.1, q.2) := fun h1 r hr => by
    unfold b_X5_seeds_30
    rw [if_neg (isR_neg hr).2.1]
  rcases range1 h x1 (lo := 1) (hi := 20) (by decide) (by decide) with ⟨r, hr, e1, e2⟩ | ⟨n, hn1, hn, rfl, e1, e2⟩
  · refine s_ref g hk hr ?_ (fun h1 _ _ m => ?_)
    · show Option.bind (sh_X4_outside h x1 (nI 1) (nI 20)) _ = _
      rw [e1, Option.bind_some, if_neg (isR_neg hr).1]
      exact c25 r hr
    · show Option.bind (sh_X5_wrongDays (th h1) x1 (nI 1) (nI 20)) _ = _
      rw [e2, Option.bind_some, if_neg (isR_neg hr).1]
      exact m30 h1 r hr
  · by_cases z : X.1 0 0 = 0
    · refine s_ref g hk (r := -3) (by unfold isR; simp) ?_ (fun h1 _ _ m => ?_)
      · show Option.bind (sh_X4_outside h (nI n) (nI 1) (nI 20)) _ = _
        rw [e1, Option.bind_some, if_pos rfl, xf0, g.2.1.1, z, if_pos (show nI 0 = 0 from rfl)]
        exact c25 _ (by unfold isR; simp)
      · show Option.bind (sh_X5_wrongDays (th h1) (nI n) (nI 1) (nI 20)) _ = _
        rw [e2, Option.bind_some, if_pos rfl]
        show (if (th h1).1 120 0 = 0 then _ else _) = _
        rw [m.1 0 (by decide), z, if_pos (show nI 0 = 0 from rfl)]
        exact m30 h1 _ (by unfold isR; simp)
    · obtain ⟨h0, a1, a2, a3⟩ := c_mind g
      obtain ⟨h1, f1, f2⟩ := c_seeds52 hn n 0 1000 k X x2 h0 rfl (by omega) g.1 (by omega) (by omega) a2
      have f3 : Eq1 h h1 := a3.tr (Eq1.vf f2 (by decide) (by decide))
      have g1 := (g.eq f3).th
      obtain ⟨h2, o1, o2, o3⟩ := m_mind g1.2.2.1
      have m2 : MR (wI h2 120 35 x2) X := o2.of (fun j hj => by rw [rdI, if_neg (by omega)]) (fun c j z1 z2 => by rw [rdI, if_neg (by omega)])
      obtain ⟨h4, c1, c2⟩ := m_seeds53 hn h2 o3 n 0 1000 k X x2 (wI h2 120 35 x2) rfl (by omega) g.1 (by omega) (by omega) m2 (MF.wI h2 35 _ (by unfold MJ; omega)) (by rw [rdI, if_pos ⟨rfl, rfl⟩])
      refine s_ok g hk (r := nI (sumH (sdI X x2 n))) (h1 := h1) (h2 := h4) ?_ f3 ?_ c2
      · show Option.bind (sh_X4_outside h (nI n) (nI 1) (nI 20)) _ = _
        rw [e1, Option.bind_some, if_pos rfl, xf0, g.2.1.1, if_neg (show ¬ nI (X.1 0 0) = 0 from nI_ne0 (by omega) (by omega))]
        unfold b_X4_seeds_25
        rw [if_pos rfl, xf2, xf0, a1, Option.bind_some]
        exact f1
      · show Option.bind (sh_X5_wrongDays (th h1) (nI n) (nI 1) (nI 20)) _ = _
        rw [e2, Option.bind_some, if_pos rfl]
        show (if (th h1).1 120 0 = 0 then _ else b_X5_seeds_30 (th h1) 120 (nI n) x2 0) = _
        rw [g1.2.2.1.1 0 (by decide), if_neg (show ¬ nI (X.1 0 0) = 0 from nI_ne0 (by omega) (by omega))]
        unfold b_X5_seeds_30
        rw [if_pos (by decide), o1, Option.bind_some]
        exact c1
-- told
set_option maxHeartbeats 400000 in
theorem told2 {v : Nat → Nat} {R : Nat} (hR : R ≤ 12) (hv9 : ∀ j, j < R → v j ≤ 9999) : ∀ (f i fuel k : Nat) (X : St) (h : Hp), 3 * f + i ≤ R → R ≤ 3 * f + i + 2 → i % 3 = 0 → f + 1 < fuel → Iv k X → k + f ≤ 1000 → VR h 32 X → h.1 0 8 = nI R → (∀ j, j < R → h.1 8 j = nI (v j)) →
    ∃ r h', b_X4_firstImpossibleGift_13 fuel h 0 (nI i) = some (r, h') ∧ VF 32 h h' ∧ ∀ (h0 g0 : Hp), (∀ h2, MF h0 h2 → ∃ h3, sh_X5_close h2 120 = some h3 ∧ Eq1 g0 h3) → ∀ h2, MR h2 X → MF h0 h2 → (∀ j, j < R → h2.1 135 j = nI (v j)) → ∃ h3, b_X5_told_24 fuel h2 120 (nI R) (-9 : Int32) (nI i) = some (r, h3) ∧ Eq1 g0 h3
  | f, i, 0, k, X, h, e1, e2, e3, hf, hI, hk, hv, h8, hr => by omega
  | f, i, 1, k, X, h, e1, e2, e3, hf, hI, hk, hv, h8, hr => by omega
  | 0, i, fuel + 2, k, X, h, e1, e2, e3, hf, hI, hk, hv, h8, hr => by
    refine ⟨if i = R then -9 else nI R, h, ?_, VF.rf _ _, fun h0 g0 hc h2 m mf rr => ?_⟩
    · show f_X4_firstImpossibleGift_13 (b_X4_firstImpossibleGift_13 (fuel + 1)) h 0 (nI i) = _
      unfold f_X4_firstImpossibleGift_13 b_X4_firstImpossibleGift_99
      rw [h8, L2, nI_add, if_pos (nI_le (by omega) (by omega))]
      by_cases w : i = R
      · rw [if_pos (show nI i = nI R from by rw [w]), if_pos w]
      · rw [if_neg (show ¬ nI i = nI R from by rw [nI_eq (by omega) (by omega)]; exact w), if_neg w]
    · obtain ⟨h3, c1, c2⟩ := hc h2 mf
      refine ⟨h3, ?_, c2⟩
      show f_X5_told_24 (b_X5_told_24 (fuel + 1)) h2 120 (nI R) (-9 : Int32) (nI i) = _
      unfold f_X5_told_24 b_X5_told_119 b_X5_told_133 b_X5_told_138
      rw [L2, nI_add, if_pos (nI_le (by omega) (by omega)), c1, Option.bind_some, if_neg (show ¬ (0 : Int32) ≤ -9 from by decide), L3, pk_rem (by omega) (by decide) (by decide)]
      by_cases w : i = R
      · rw [if_pos (show nI (R % 3) = 0 from by rw [show R % 3 = 0 from by omega]; rfl), if_pos w]
      · rw [if_neg (show ¬ nI (R % 3) = 0 from nI_ne0 (by omega) (by omega)), if_neg w]
  | f + 1, i, fuel + 2, k, X, h, e1, e2, e3, hf, hI, hk, hv, h8, hr => by
    have v1 := hv9 i (by omega)
    have v2 := hv9 (i + 1) (by omega)
    have v3 := hv9 (i + 2) (by omega)
    have hP := hI.2.1
    have lc : ∀ j, j < R → ldI h 8 (nI j) = some (nI (v j)) := fun j hj => by rw [ldI_n (a := 8) (show j < 12 from by omega) (by omega), hr j hj]
    have lm : ∀ h2 : Hp, (∀ j, j < R → h2.1 135 j = nI (v j)) → ∀ j, j < R → ldI h2 (rf 120 33) (nI j) = some (nI (v j)) := fun h2 rr j hj => by rw [mf33, ldI_n (a := 135) (show j < 12 from by omega) (by omega), rr j hj]
    have stc : b_X4_firstImpossibleGift_13 (fuel + 2) h 0 (nI i) = Option.bind (sh_X3_giftRefusal h 32 (nI (v i)) (nI (v (i + 1))) (nI (v (i + 2)))) fun v4 => if v4 = 0 then Option.bind (sh_X3_hand h 32 (nI (v i)) (nI (v (i + 1))) (nI (v (i + 2)))) fun h5 => b_X4_firstImpossibleGift_13 (fuel + 1) h5 0 (nI (i + 3)) else some (nI i, h) := by
      show f_X4_firstImpossibleGift_13 (b_X4_firstImpossibleGift_13 (fuel + 1)) h 0 (nI i) = _
      unfold f_X4_firstImpossibleGift_13
      rw [h8, L2, nI_add, if_neg (nI_ge (by omega) (by omega)), xf6, lc i (by omega), Option.bind_some, L1, nI_add, lc (i + 1) (by omega), Option.bind_some, lc (i + 2) (by omega), Option.bind_some, xf2, L3, nI_add]
    have stm : ∀ h2 : Hp, (∀ j, j < R → h2.1 135 j = nI (v j)) → b_X5_told_24 (fuel + 2) h2 120 (nI R) (-9 : Int32) (nI i) = Option.bind (sh_X5_wrongGift h2 120 (nI (v i)) (nI (v (i + 1))) (nI (v (i + 2)))) fun v4 => if 0 ≤ v4 then (if nI (v (i + 1)) = (9 : Int32) then b_X5_told_102 (b_X5_told_24 (fuel + 1)) h2 120 (nI R) (-9 : Int32) (nI i) 120 (nI (v i)) (6 : Int32) else b_X5_told_102 (b_X5_told_24 (fuel + 1)) h2 120 (nI R) (-9 : Int32) (nI i) 120 (nI (v i)) (nI (v (i + 1)))) else b_X5_told_113 (b_X5_told_24 (fuel + 1)) h2 120 (nI R) (nI i) (nI i) := fun h2 rr => by
      show f_X5_told_24 (b_X5_told_24 (fuel + 1)) h2 120 (nI R) (-9 : Int32) (nI i) = _
      unfold f_X5_told_24
      rw [L2, nI_add, if_neg (nI_ge (by omega) (by omega)), if_neg (show ¬ (0 : Int32) ≤ -9 from by decide), lm h2 rr i (by omega), Option.bind_some, L1, nI_add, lm h2 rr (i + 1) (by omega), Option.bind_some, lm h2 rr (i + 2) (by omega), Option.bind_some, Option.bind_some, Option.bind_some, Option.bind_some]
    rw [stc]
    rcases gift_range v32 hv hI (nI (v i)) (nI (v (i + 1))) (nI (v (i + 2))) with ⟨r, hrr, q1, q2⟩ | ⟨p, q, n, ho, t1, t2, t3, q1, q2⟩
    · rw [q1, Option.bind_some, if_neg (isR_neg hrr).1]
      refine ⟨nI i, h, rfl, VF.rf _ _, fun h0 g0 hc h2 m mf rr => ?_⟩
      obtain ⟨h3, c1, c2⟩ := hc h2 mf
      refine ⟨h3, ?_, c2⟩
      rw [stm h2 rr, q2 h2 m, Option.bind_some, if_neg (isR_neg hrr).2.1]
      show f_X5_told_24 (b_X5_told_24 fuel) h2 120 (nI R) (nI i) (nI i + (3 : Int32)) = _
      unfold f_X5_told_24 b_X5_told_119 b_X5_told_133 b_X5_told_138
      rw [if_pos (show (0 : Int32) ≤ nI i from nI_pos' (by omega)), ite_self, c1, Option.bind_some, if_pos (show (0 : Int32) ≤ nI i from nI_pos' (by omega))]
    · have ho' := ho
      obtain ⟨hp, hq, hne, hn1, hn2⟩ := ho
      have hn9 := (hI.2.2.2.2.2.2.2.2.1 p (by omega)).2.2.1
      have t1' : v i = p := (nI_eq (by omega) (by omega)).mp t1
      have t2' : v (i + 1) = q := (nI_eq (by omega) (by omega)).mp t2
      have t3' : v (i + 2) = n := (nI_eq (by omega) (by omega)).mp t3
      rw [q1, Option.bind_some, if_pos rfl, t1', t2', t3']
      obtain ⟨h1, f1, f2, f3⟩ := p_hand v32 hv (p := p) (q := q) (n := n) (by omega) (by omega) (by omega) hn2
      rw [f1, Option.bind_some]
      obtain ⟨r, h', k1, k2, k3⟩ := told2 hR hv9 f (i + 3) (fuel + 1) (k + 1) (adG X p (col q) n) h1 (by omega) (by omega) (by omega) (by omega) (Iv_gok hI (by omega) ho') (by omega) f2 (by rw [f3.1 0 8 (by omega), h8]) (fun j hj => by rw [f3.1 8 j (by omega), hr j hj])
      refine ⟨r, h', k1, f3.tr k2, fun h0 g0 hc h2 m mf rr => ?_⟩
      obtain ⟨h3, d1, d2, d3, _⟩ := m_addGift m hI (p := p) (q := col q) (n := n) (by omega) (by unfold col; split <;> omega) hn2
      obtain ⟨h4, s1, s2⟩ := k3 h0 g0 hc h3 d2 (mf.tr d3.mf) (fun j hj => by rw [d3.1 135 j (by unfold DJ; omega), rr j hj])
      refine ⟨h4, ?_, s2⟩
      have key : b_X5_told_102 (b_X5_told_24 (fuel + 1)) h2 120 (nI R) (-9 : Int32) (nI i) 120 (nI p) (nI (col q)) = some (r, h4) := by
        unfold b_X5_told_102 b_X5_told_113
        rw [L2, nI_add, lm h2 rr (i + 2) (by omega), Option.bind_some, t3', d1, Option.bind_some, L3, nI_add]
        exact s1
      rw [stm h2 rr, q2 h2 m, Option.bind_some, if_pos (by decide), t1', t2']
      by_cases w : q = 9
      · subst w
        rw [if_pos (show nI 9 = (9 : Int32) from rfl)]
        exact key
      · rw [if_neg (show ¬ nI q = (9 : Int32) from by rw [L9, nI_eq (by omega) (by omega)]; exact w)]
        unfold col at key
        rw [if_neg w] at key
        exact key
set_option maxHeartbeats 400000 in
theorem a_told : Same k (fun h => sh_X4_told h 0) (fun h => sh_X5_told h 120) := by
  intro h X Y g hk
  obtain ⟨R, r1, r2, r3, r4⟩ := g.2.2.2.2.2.1
  obtain ⟨L, l1, l2, l3, l4⟩ := g.2.2.2.2.1
  have hv : ∃ v : Nat → Nat, ∀ j, j < R → v j ≤ 9999 ∧ h.1 8 j = nI (v j) ∧ h.1 135 j = nI (v j) :=
    ⟨fun j => (h.1 8 j).toInt.toNat, fun j hj => by
      obtain ⟨v, v1, v2, v3⟩ := r4 j hj
      have : (h.1 8 j).toInt.toNat = v := by rw [v2, nI_toInt (by omega)]; omega
      show (h.1 8 j).toInt.toNat ≤ 9999 ∧ _ = nI (h.1 8 j).toInt.toNat ∧ _ = nI (h.1 8 j).toInt.toNat
      rw [this]
      exact ⟨v1, v2, v3⟩⟩
  obtain ⟨v, hv⟩ := hv
  obtain ⟨h0, a1, a2, a3⟩ := c_mind g
  have q8 : h0.1 0 8 = nI R := by rw [a3.1 0 8 (by unfold Jn; omega), r2]
  have q8' : ∀ j, j < R → h0.1 8 j = nI (v j) := fun j hj => by rw [a3.1 8 j (by unfold Jn; omega), (hv j hj).2.1]
  obtain ⟨r, hA, f1, f2, f4⟩ := told2 r1 (fun j hj => (hv j hj).1) (R / 3) 0 1000 k X h0 (by omega) (by omega) (by omega) (by omega) g.1 (by omega) a2 q8 q8'
  have f3 : Eq1 h hA := a3.tr (Eq1.vf f2 (by decide) (by decide))
  have gA := g.eq f3
  generalize hB : wI hA 0 8 (nI 0) = h1
  have eB : ∀ c j, h1.1 c j = if c = 0 ∧ j = 8 then nI 0 else hA.1 c j := fun c j => by rw [← hB, rdI]
  generalize hC : wI (th h1) 120 34 (nI 0) = hc
  have eC : ∀ c j, hc.1 c j = if c = 120 ∧ j = 34 then nI 0 else if c = 120 ∧ j = 13 then 0 else if c = 0 ∧ j = 8 then nI 0 else hA.1 c j := fun c j => by
    rw [← hC, rdI]
    unfold th
    rw [rdI, eB]
  have mC : MR hc X := gA.2.2.1.of (fun j hj => by rw [eC, if_neg (by omega), if_neg (by omega), if_neg (by omega)]) (fun c j z1 z2 => by rw [eC, if_neg (by omega), if_neg (by omega), if_neg (by omega)])
  obtain ⟨h2, o1, t, o2⟩ := m_open mC
  have o3 : ∀ h3, MF h2 h3 → ∃ h4, sh_X5_close h3 120 = some h4 ∧ Eq1 hc h4 := fun h3 f => m_close t f
  have q9 : ∀ j, j < R → h2.1 135 j = nI (v j) := fun j hj => by
    rw [t.1, if_neg (by omega), if_neg (by omega), if_neg (by omega), eC, if_neg (by omega), if_neg (by omega), if_neg (by omega), f3.1 135 j (by unfold Jn; omega), (hv j hj).2.2]
  obtain ⟨h4, c1, c2⟩ := f4 h2 hc o3 h2 o2 (MF.rf h2) q9
  refine ⟨r, h1, h4, ?_, ?_, X, Y, (((gA.rl (h' := hc) ?_ ?_ (fun c j z1 z2 => ?_) (fun c j _ => by rw [← hC, ← hB]; rfl)).eq c2).mono (by omega) (by omega))⟩
  · show sh_X4_told h 0 = _
    unfold sh_X4_told sh_X4_firstImpossibleGift
    rw [xf2, xf0, a1, Option.bind_some, L0, f1, Option.bind_some, hB]
  · show sh_X5_told h1 120 = _
    unfold sh_X5_told
    have e34 : (th h1).1 120 34 = nI R := by rw [th_ne (by omega), eB, if_neg (by omega), f3.1 120 34 (by unfold Jn; omega), r3]
    show Option.bind (sh_X5_open (wI (th h1) 120 34 (nI 0)) 120) (fun h1' => b_X5_told_24 1000 h1' 120 ((th h1).1 120 34) (-9 : Int32) (0 : Int32)) = _
    rw [hC, o1, Option.bind_some, e34]
    exact c1
  · refine ⟨L, l1, ?_, ?_, fun j hj => ?_⟩
    · rw [eC, if_neg (by omega), if_neg (by omega), if_neg (by omega), f3.1 5 1 (by unfold Jn; omega), l2]
    · rw [eC, if_neg (by omega), if_neg (by omega), if_neg (by omega), f3.1 120 21 (by unfold Jn; omega), l3]
    · rw [eC, if_neg (by omega), if_neg (by omega), if_neg (by omega), eC, if_neg (by omega), if_neg (by omega), if_neg (by omega), f3.1 6 j (by unfold Jn; omega), f3.1 130 j (by unfold Jn; omega)]
      exact l4 j hj
  · refine ⟨0, by omega, ?_, ?_, fun j hj => by omega⟩
    · rw [eC, if_neg (by omega), if_neg (by omega), if_pos ⟨rfl, rfl⟩]
    · rw [eC, if_pos ⟨rfl, rfl⟩]
  · unfold Jn at z1
    unfold RLJ at z2
    rw [eC, if_neg (by omega), if_neg (by omega), if_neg (by omega)]
end SD
