/-! PURE: by other laws -/
section BL
variable {h h' h1 h2 : Hp} {k : Nat} {X Y : St}
set_option maxHeartbeats 400000 in
theorem c_hasBy (g : Gi k h X Y) (hk : k ≤ 900) {j v p n : Nat} (hj : j = 0 ∨ j = 2) (hv : v ≤ 5) (hp : p < 6) (hn : n ≤ 60) : ∃ h1 h2 h3 q, sh_X3_become h 32 10 = some h1 ∧ sh_X3_changeSetting h1 32 (nI j) (nI v) = some (q, h2) ∧ sh_X3_passDays h2 32 (nI n) = some h3 ∧ ldI h3 (rf 32 3) (nI p) = some (nI ((itD (up1 X.1 0 (2 + j) v, X.2) n).1 4 p)) ∧ Eq1 h h3 := by
  have hI : Iv k (up1 X.1 0 (2 + j) v, X.2) := Iv_set g.1 (by omega) (by unfold slo; rw [if_neg (by omega)]; omega) (by unfold shi; rw [if_neg (by omega)]; omega)
  have hs : X.1 0 (2 + j) ≤ 99 := by
    obtain ⟨a1, a2, a3, a4, a5, a6, a7, a8, a9⟩ := g.1
    rcases hj with rfl | rfl
    · show X.1 0 2 ≤ 99
      omega
    · show X.1 0 4 ≤ 99
      omega
  obtain ⟨h1, e1, e2, e3⟩ := c_mind g
  obtain ⟨h2, f1, f2, f3⟩ := p_change v32 e2 (j := j) (v := v) (by omega) (fun _ => hv) (by omega) hs
  obtain ⟨h3, d1, d2, d3⟩ := p_passDays v32 f2 hI hn (by omega)
  exact ⟨h1, h2, h3, _, e1, f1, d1, ld_has v32 d2 hp, e3.tr ((Eq1.vf f3 (by decide) (by decide)).tr (Eq1.vf d3 (by decide) (by decide)))⟩
set_option maxHeartbeats 400000 in
theorem m_hasBy (hm : MR h X) (hI : Iv k X) (hk : k ≤ 900) {j v p n : Nat} (hj : j = 0 ∨ j = 2) (hv : v ≤ 5) (hp : p < 6) (hn : n ≤ 60) : ∃ h', sh_X5_hasBy h 120 (nI p) (nI n) (if j = 0 then nI v else h.1 120 2) (if j = 0 then h.1 120 4 else nI v) = some (nI ((itD (up1 X.1 0 (2 + j) v, X.2) n).1 4 p), h') ∧ Eq1 h h' := by
  have hI' : Iv k (up1 X.1 0 (2 + j) v, X.2) := Iv_set hI (by omega) (by unfold slo; rw [if_neg (by omega)]; omega) (by unfold shi; rw [if_neg (by omega)]; omega)
  obtain ⟨h1, o1, o2, o3⟩ := m_mind hm
  have e2 : h.1 120 2 = h1.1 120 2 := by rw [hm.1 2 (by decide), o2.1 2 (by decide)]
  have e4 : h.1 120 4 = h1.1 120 4 := by rw [hm.1 4 (by decide), o2.1 4 (by decide)]
  have ew : wI (wI h1 120 2 (if j = 0 then nI v else h.1 120 2)) 120 4 (if j = 0 then h.1 120 4 else nI v) = wI h1 120 (2 + j) (nI v) := by
    rcases hj with rfl | rfl
    · rw [if_pos rfl, if_pos rfl, e4]
      have : h1.1 120 4 = (wI h1 120 2 (nI v)).1 120 4 := by rw [rdI, if_neg (by omega)]
      rw [this, wI_self]
    · rw [if_neg (by decide), if_neg (by decide), e2, wI_self]
  have m1 := o2.set (j := j) (v := v) (by omega)
  obtain ⟨h3, r1, r2, r3, _⟩ := m_run m1 hI' hn (by omega)
  obtain ⟨h4, c1, c2⟩ := o3 h3 ((MF.wI h1 (2 + j) (nI v) (by unfold MJ; omega)).tr r3.mf)
  refine ⟨h4, ?_, c2⟩
  unfold sh_X5_hasBy
  rw [o1, Option.bind_some, ew, r1, Option.bind_some, md_has r2 hp, Option.bind_some, c1]
  rfl
set_option maxHeartbeats 400000 in
theorem c_hasByLaw (g : Gi k h X Y) (hk : k ≤ 900) {v p n : Nat} (hv : v ≤ 5) (hp : p < 6) (hn : n ≤ 60) : ∃ h', sh_X4_hasByLaw h 0 (nI v) (nI p) (nI n) = some (nI ((itD (up1 X.1 0 2 v, X.2) n).1 4 p), h') ∧ Eq1 h h' := by
  obtain ⟨h1, h2, h3, q, e1, e2, e3, e4, e5⟩ := c_hasBy g hk (j := 0) (Or.inl rfl) hv hp hn
  refine ⟨h3, ?_, e5⟩
  unfold sh_X4_hasByLaw
  rw [xf2, xf0, e1, Option.bind_some, L0, e2, Option.bind_some, e3, Option.bind_some, e4]
  rfl
set_option maxHeartbeats 400000 in
theorem a_byLaw (x1 x2 x3 : Int32) : Same k (fun h => sh_X4_byLaw h 0 x1 x2 x3) (fun h => sh_X5_byLaw h 120 x1 x2 x3) := by
  intro h X Y g hk
  have hP := g.P
  rcases m_in0 x1 (n := 6) (hi := 5) (by decide) (by decide) with ⟨w, hw, rfl, e0⟩ | ⟨w, e0⟩
  · have cl : sh_X4_byLaw h 0 (nI w) x2 x3 = Option.bind (sh_X4_ofOneRefusal h 0 x2 x3 (nI 0) (nI 60)) fun v1 => if v1 = 0 then Option.bind (sh_X4_hasByLaw h 0 (nI w) x2 x3) fun q2 => some (q2.1, q2.2) else Option.bind (sh_X4_refuse h 0 v1) fun q3 => some (q3.1, q3.2) := by
      unfold sh_X4_byLaw
      rw [if_neg (nI_pos (by omega)), L5, if_pos (nI_le (by omega) (by omega))]
      rfl
    have mo : ∀ h1, sh_X5_byLaw h1 120 (nI w) x2 x3 = Option.bind (sh_X5_wrongOne (th h1) 120 x2 x3 (nI 0) (nI 60)) fun v2 => b_X5_byLaw_31 (th h1) 120 (nI w) x2 x3 v2 := fun h1 => by
      show Option.bind (sh_X5_in (th h1) (nI w).toInt64 (0 : Int64) (5 : Int64)) _ = _
      rw [e0, Option.bind_some, if_neg (by decide)]
      rfl
    rcases one_range g x2 x3 (lo := 0) (hi := 60) (by decide) (by decide) with ⟨r, hr, e1, e2⟩ | ⟨p, n, hp, rfl, _, hn, rfl, e1, e2⟩
    · refine s_ref g hk hr ?_ (fun h1 _ _ m => ?_)
      · show sh_X4_byLaw h 0 (nI w) x2 x3 = _
        rw [cl, e1, Option.bind_some, if_neg (isR_neg hr).1]
      · show sh_X5_byLaw h1 120 (nI w) x2 x3 = _
        rw [mo, e2 _ m, Option.bind_some]
        unfold b_X5_byLaw_31
        rw [if_neg (isR_neg hr).2.1]
        rfl
    · obtain ⟨h1, f1, f3⟩ := c_hasByLaw g hk (v := w) (p := p) (n := n) (by omega) (by omega) hn
      have g1 := (g.eq f3).th
      obtain ⟨h4, c1, c2⟩ := m_hasBy g1.2.2.1 g1.1 hk (j := 0) (v := w) (p := p) (n := n) (Or.inl rfl) (by omega) (by omega) hn
      refine s_ok g hk (r := nI ((itD (up1 X.1 0 2 w, X.2) n).1 4 p)) (h1 := h1) (h2 := h4) ?_ f3 ?_ c2
      · show sh_X4_byLaw h 0 (nI w) (nI p) (nI n) = _
        rw [cl, e1, Option.bind_some, if_pos rfl, f1]
        rfl
      · show sh_X5_byLaw h1 120 (nI w) (nI p) (nI n) = _
        rw [mo, e2 _ g1.2.2.1, Option.bind_some]
        unfold b_X5_byLaw_31
        rw [if_pos (by decide)]
        rw [if_pos rfl, if_pos rfl] at c1
        rw [c1]
        rfl
  · refine s_ref g hk (r := -2) (Or.inr (Or.inl rfl)) ?_ (fun h1 _ _ m => ?_)
    · show sh_X4_byLaw h 0 x1 x2 x3 = _
      unfold sh_X4_byLaw
      by_cases z : x1 < 0
      · rw [if_pos z]
        rfl
      · rw [if_neg z, if_neg (show ¬ x1 ≤ (5 : Int32) from fun y => by
          rcases w with w | w
          · exact z w
          · rw [Int32.le_iff_toInt_le, nI_toInt (by decide)] at w
            rw [L5, Int32.le_iff_toInt_le, nI_toInt (by decide)] at y
            omega)]
        rfl
    · show Option.bind (sh_X5_in (th h1) x1.toInt64 (0 : Int64) (5 : Int64)) _ = _
      rw [e0, Option.bind_some, if_pos (by decide)]
      rfl
-- two numbers within
def ov (lo hi x : Int32) : Int32 := if lo ≤ x then (if x ≤ hi then 0 else -6) else -4
set_option maxHeartbeats 400000 in
theorem out_val (h : Hp) (x lo hi : Int32) : sh_X4_outside h x lo hi = some (ov lo hi x) := by
  unfold sh_X4_outside b_X4_outside_21 ov
  by_cases w1 : lo ≤ x
  · by_cases w2 : x ≤ hi
    · rw [if_pos w1, if_pos w2, if_pos w1, if_pos w2]
    · rw [if_pos w1, if_neg w2, if_pos w1, if_neg w2]
  · rw [if_neg w1, if_neg w1]
set_option maxHeartbeats 400000 in
theorem i_nle {x y : Int32} : ¬ x ≤ y ↔ y < x := by
  rw [Int32.le_iff_toInt_le, Int32.lt_iff_toInt_lt]
  omega
set_option maxHeartbeats 400000 in
theorem i_nlt {x y : Int32} : ¬ x < y ↔ y ≤ x := by
  rw [Int32.le_iff_toInt_le, Int32.lt_iff_toInt_lt]
  omega
def tw (v1 v2 : Int32) : Int32 := if v1 = -4 then -4 else if v2 = -4 then -4 else if v1 = 0 then v2 else v1
set_option maxHeartbeats 400000 in
theorem c_twice (g : Gi k h X Y) {p : Nat} (hp : p < X.1 0 0) (v1 v2 : Int32) : sh_X4_ofOneTwiceRefusal h 0 (nI p) v1 v2 = some (tw v1 v2) := by
  unfold sh_X4_ofOneTwiceRefusal tw b_X4_ofOneTwiceRefusal_25 b_X4_ofOneTwiceRefusal_37
  rcases p_exists g.2.1 g.P (nI p) with ⟨q, _, _, e⟩ | ⟨z, _⟩
  · rw [xf0, e, Option.bind_some, if_neg (by decide)]
    repeat' split
    all_goals rfl
  · exact absurd rfl (z p hp)
set_option maxHeartbeats 400000 in
theorem c_twiceN (g : Gi k h X Y) {x : Int32} (hx : ∀ p, p < X.1 0 0 → x ≠ nI p) (v1 v2 : Int32) : sh_X4_ofOneTwiceRefusal h 0 x v1 v2 = some (-1) := by
  unfold sh_X4_ofOneTwiceRefusal
  rcases p_exists g.2.1 g.P x with ⟨q, z1, z2, e⟩ | ⟨_, e⟩
  · exact absurd z2 (hx q z1)
  · rw [xf0, e, Option.bind_some, if_pos (by decide)]
set_option maxHeartbeats 400000 in
theorem nat_of {lo hi : Nat} {x : Int32} (hlo : lo < 2 ^ 31) (hhi : hi < 2 ^ 31) (h1 : nI lo ≤ x) (h2 : x ≤ nI hi) : ∃ n, lo ≤ n ∧ n ≤ hi ∧ x = nI n := by
  have h0 : ¬ x < 0 := fun z => by
    rw [Int32.le_iff_toInt_le, nI_toInt hlo] at h1
    rw [Int32.lt_iff_toInt_lt, show (0 : Int32).toInt = 0 from by decide] at z
    omega
  obtain ⟨j, hj, rfl⟩ := nI_of h0
  exact ⟨j, (nI_leI hlo hj).mp h1, (nI_leI hj hhi).mp h2, rfl⟩
set_option maxHeartbeats 400000 in
theorem a_byBack (x1 x2 x3 : Int32) : Same k (fun h => sh_X4_byBack h 0 x1 x2 x3) (fun h => sh_X5_byBack h 120 x1 x2 x3) := by
  intro h X Y g hk
  have hP := g.P
  have cl : ∀ r, sh_X4_ofOneTwiceRefusal h 0 x2 (ov 0 5 x1) (ov 0 60 x3) = some r → isR r → sh_X4_byBack h 0 x1 x2 x3 = Option.bind (sh_X4_refuse h 0 r) fun q => some (q.1, q.2) := fun r e hr => by
    unfold sh_X4_byBack
    rw [out_val, out_val, Option.bind_some, Option.bind_some, e, Option.bind_some, if_neg (isR_neg hr).1]
  have m47 : ∀ h1 r, isR r → b_X5_byBack_47 (th h1) 120 x1 x2 x3 r = Option.bind (sh_X5_refuse (th h1) 120 r) fun q => some (q.1, q.2) := fun h1 r hr => by
    unfold b_X5_byBack_47
    rw [if_neg (isR_neg hr).2.1]
    rfl
  rcases p_exists g.2.1 g.P x2 with ⟨p, hp, rfl, e1⟩ | ⟨hn, e1⟩
  · have mo : ∀ h1, MR (th h1) X → sh_X5_byBack h1 120 x1 (nI p) x3 = if x1 < 0 then b_X5_byBack_47 (th h1) 120 x1 (nI p) x3 (-4 : Int32) else if (0 : Int32) ≤ x3 then (if (5 : Int32) < x1 then b_X5_byBack_47 (th h1) 120 x1 (nI p) x3 (-6 : Int32) else if x3 ≤ (60 : Int32) then b_X5_byBack_47 (th h1) 120 x1 (nI p) x3 (0 : Int32) else b_X5_byBack_47 (th h1) 120 x1 (nI p) x3 (-6 : Int32)) else b_X5_byBack_47 (th h1) 120 x1 (nI p) x3 (-4 : Int32) := fun h1 m => by
      show Option.bind (sh_X5_isOne (th h1) 120 (nI p)) _ = _
      rw [one_p hP hp m, Option.bind_some, if_neg (by decide)]
      rfl
    by_cases a : (0 : Int32) ≤ x1
    · by_cases b : (0 : Int32) ≤ x3
      · by_cases c : x1 ≤ (5 : Int32)
        · by_cases d : x3 ≤ (60 : Int32)
          · obtain ⟨v, _, hv, rfl⟩ := nat_of (lo := 0) (hi := 5) (by decide) (by decide) a c
            obtain ⟨n, _, hn, rfl⟩ := nat_of (lo := 0) (hi := 60) (by decide) (by decide) b d
            have e0 : sh_X4_ofOneTwiceRefusal h 0 (nI p) (ov 0 5 (nI v)) (ov 0 60 (nI n)) = some 0 := by
              rw [c_twice g hp]
              unfold ov
              rw [if_pos a, if_pos b, if_pos c, if_pos d]
              rfl
            obtain ⟨ha, hb, h1, q, b1, b2, b3, b4, b5⟩ := c_hasBy g hk (j := 2) (v := v) (p := p) (n := n) (Or.inr rfl) hv (by omega) hn
            have g1 := (g.eq b5).th
            obtain ⟨h4, c1, c2⟩ := m_hasBy g1.2.2.1 g1.1 hk (j := 2) (v := v) (p := p) (n := n) (Or.inr rfl) hv (by omega) hn
            rw [if_neg (by decide), if_neg (by decide)] at c1
            refine s_ok g hk (r := nI ((itD (up1 X.1 0 (2 + 2) v, X.2) n).1 4 p)) (h1 := h1) (h2 := h4) ?_ b5 ?_ c2
            · show sh_X4_byBack h 0 (nI v) (nI p) (nI n) = _
              unfold sh_X4_byBack
              rw [out_val, out_val, Option.bind_some, Option.bind_some, e0, Option.bind_some, if_pos rfl, xf2, xf0, b1, Option.bind_some, L2, b2, Option.bind_some, b3, Option.bind_some, b4]
              rfl
            · show sh_X5_byBack h1 120 (nI v) (nI p) (nI n) = _
              rw [mo h1 g1.2.2.1, if_neg (i_nlt.mpr a), if_pos b, if_neg (i_nlt.mpr c), if_pos d]
              unfold b_X5_byBack_47
              rw [if_pos (by decide), c1]
              rfl
          · refine s_ref g hk (r := -6) (by unfold isR; simp) (cl (-6) ?_ (by unfold isR; simp)) (fun h1 _ _ m => ?_)
            · rw [c_twice g hp]
              unfold ov
              rw [if_pos a, if_pos b, if_pos c, if_neg d]
              rfl
            · show sh_X5_byBack h1 120 x1 (nI p) x3 = _
              rw [mo h1 m, if_neg (i_nlt.mpr a), if_pos b, if_neg (i_nlt.mpr c), if_neg d, m47 h1 _ (by unfold isR; simp)]
        · refine s_ref g hk (r := -6) (by unfold isR; simp) (cl (-6) ?_ (by unfold isR; simp)) (fun h1 _ _ m => ?_)
          · rw [c_twice g hp]
            unfold ov
            rw [if_pos a, if_pos b, if_neg c]
            by_cases d : x3 ≤ (60 : Int32)
            · rw [if_pos d]; rfl
            · rw [if_neg d]; rfl
          · show sh_X5_byBack h1 120 x1 (nI p) x3 = _
            rw [mo h1 m, if_neg (i_nlt.mpr a), if_pos b, if_pos (i_nle.mp c), m47 h1 _ (by unfold isR; simp)]
      · refine s_ref g hk (r := -4) (by unfold isR; simp) (cl (-4) ?_ (by unfold isR; simp)) (fun h1 _ _ m => ?_)
        · rw [c_twice g hp]
          unfold ov
          rw [if_pos a, if_neg b]
          by_cases c : x1 ≤ (5 : Int32)
          · rw [if_pos c]; rfl
          · rw [if_neg c]; rfl
        · show sh_X5_byBack h1 120 x1 (nI p) x3 = _
          rw [mo h1 m, if_neg (i_nlt.mpr a), if_neg b, m47 h1 _ (by unfold isR; simp)]
    · refine s_ref g hk (r := -4) (by unfold isR; simp) (cl (-4) ?_ (by unfold isR; simp)) (fun h1 _ _ m => ?_)
      · rw [c_twice g hp]
        unfold ov
        rw [if_neg a]
        rfl
      · show sh_X5_byBack h1 120 x1 (nI p) x3 = _
        rw [mo h1 m, if_pos (i_nle.mp a), m47 h1 _ (by unfold isR; simp)]
  · refine s_ref g hk (r := -1) (Or.inl rfl) (cl (-1) (c_twiceN g hn _ _) (Or.inl rfl)) (fun h1 _ _ m => ?_)
    show Option.bind (sh_X5_isOne (th h1) 120 x2) _ = _
    rw [one_n hP hn m, Option.bind_some, if_pos (by decide)]
    exact m47 h1 _ (Or.inl rfl)
-- the law that leaves least
def hl (X : St) (p n w : Nat) : Nat := (itD (up1 X.1 0 2 w, X.2) n).1 4 p
def ll (X : St) (p n : Nat) : Nat → Nat → Nat → Nat → Nat
  | 0, _, b, _ => b
  | f + 1, w, b, v => if v ≤ hl X p n w then ll X p n f (w + 1) b v else ll X p n f (w + 1) w (hl X p n w)
set_option maxHeartbeats 400000 in
theorem hl_le (hI : Iv k X) (hk : k ≤ 900) {p n w : Nat} (hp : p < 6) (hn : n ≤ 60) (hw : w ≤ 5) : hl X p n w ≤ 9999 := by
  have hI' : Iv k (up1 X.1 0 (2 + 0) w, X.2) := Iv_set hI (by omega) (by unfold slo; rw [if_neg (by omega)]; omega) (by unfold shi; rw [if_neg (by omega)]; omega)
  exact ((Iv_itD hI' n (by omega)).2.2.2.2.2.2.2.2.1 p hp).2.2.1
set_option maxHeartbeats 400000 in
theorem c_ll35 (hk : k ≤ 900) {p n : Nat} (hp : p < 6) (hn : n ≤ 60) : ∀ (f w b v fuel : Nat) (h : Hp), Gi k h X Y → f + w = 6 → f < fuel → v ≤ 9999 → ∃ h', b_X4_leastLaw_35 fuel h 0 (nI p) (nI n) (nI b) (nI v) (nI w) = some (nI (ll X p n f w b v), h') ∧ Eq1 h h'
  | f, w, b, v, 0, h, g, e, hf, hv => by omega
  | 0, w, b, v, fuel + 1, h, g, e, hf, hv => by
    refine ⟨h, ?_, Eq1.rf _⟩
    show f_X4_leastLaw_35 (b_X4_leastLaw_35 fuel) h 0 (nI p) (nI n) (nI b) (nI v) (nI w) = _
    unfold f_X4_leastLaw_35
    rw [L5, if_pos (nI_lt (by omega) (by omega))]
    rfl
  | f + 1, w, b, v, fuel + 1, h, g, e, hf, hv => by
    obtain ⟨h1, f1, f3⟩ := c_hasByLaw g hk (v := w) (p := p) (n := n) (by omega) hp hn
    have f1' : sh_X4_hasByLaw h 0 (nI w) (nI p) (nI n) = some (nI (hl X p n w), h1) := f1
    have hle := hl_le (w := w) g.1 hk hp hn (by omega)
    have st : b_X4_leastLaw_35 (fuel + 1) h 0 (nI p) (nI n) (nI b) (nI v) (nI w) = if nI v ≤ nI (hl X p n w) then b_X4_leastLaw_35 fuel h1 0 (nI p) (nI n) (nI b) (nI v) (nI (w + 1)) else b_X4_leastLaw_35 fuel h1 0 (nI p) (nI n) (nI w) (nI (hl X p n w)) (nI (w + 1)) := by
      show f_X4_leastLaw_35 (b_X4_leastLaw_35 fuel) h 0 (nI p) (nI n) (nI b) (nI v) (nI w) = _
      unfold f_X4_leastLaw_35 b_X4_leastLaw_66
      rw [L5, if_neg (nI_nlt (by omega) (by omega)), f1', Option.bind_some, L1, nI_add]
    rw [st]
    unfold ll
    by_cases z : v ≤ hl X p n w
    · rw [if_pos (nI_le z (by omega)), if_pos z]
      obtain ⟨h2, k1, k2⟩ := c_ll35 hk hp hn f (w + 1) b v fuel h1 (g.eq f3) (by omega) (by omega) hv
      exact ⟨h2, k1, f3.tr k2⟩
    · rw [if_neg (show ¬ nI v ≤ nI (hl X p n w) from nI_ge (by omega) (by omega)), if_neg z]
      obtain ⟨h2, k1, k2⟩ := c_ll35 hk hp hn f (w + 1) w (hl X p n w) fuel h1 (g.eq f3) (by omega) (by omega) hle
      exact ⟨h2, k1, f3.tr k2⟩
set_option maxHeartbeats 400000 in
theorem m_hasL (hm : MR h X) (hI : Iv k X) (hk : k ≤ 900) {w p n : Nat} (hw : w ≤ 5) (hp : p < 6) (hn : n ≤ 60) : ∃ h', sh_X5_hasBy h 120 (nI p) (nI n) (nI w) (h.1 120 4) = some (nI (hl X p n w), h') ∧ Eq1 h h' := by
  obtain ⟨h4, c1, c2⟩ := m_hasBy hm hI hk (j := 0) (v := w) (p := p) (n := n) (Or.inl rfl) hw hp hn
  rw [if_pos rfl, if_pos rfl] at c1
  exact ⟨h4, c1, c2⟩
set_option maxHeartbeats 400000 in
theorem m_ll44 (hk : k ≤ 900) {p n : Nat} (hp : p < 6) (hn : n ≤ 60) : ∀ (f w b v fuel : Nat) (h : Hp), Gi k h X Y → f + w = 6 → f < fuel → v ≤ 9999 → ∃ h', b_X5_leastLaw_44 fuel h 120 (nI p) (nI n) (nI b) (nI v) (nI w) = some (nI (ll X p n f w b v), h') ∧ Eq1 h h'
  | f, w, b, v, 0, h, g, e, hf, hv => by omega
  | 0, w, b, v, fuel + 1, h, g, e, hf, hv => by
    refine ⟨h, ?_, Eq1.rf _⟩
    show f_X5_leastLaw_44 (b_X5_leastLaw_44 fuel) h 120 (nI p) (nI n) (nI b) (nI v) (nI w) = _
    unfold f_X5_leastLaw_44
    rw [L6, if_pos (nI_le (by omega) (by omega))]
    rfl
  | f + 1, w, b, v, fuel + 1, h, g, e, hf, hv => by
    obtain ⟨h1, f1, f3⟩ := m_hasL g.2.2.1 g.1 hk (w := w) (p := p) (n := n) (by omega) hp hn
    have hle := hl_le (w := w) g.1 hk hp hn (by omega)
    have st : b_X5_leastLaw_44 (fuel + 1) h 120 (nI p) (nI n) (nI b) (nI v) (nI w) = if nI v ≤ nI (hl X p n w) then b_X5_leastLaw_44 fuel h1 120 (nI p) (nI n) (nI b) (nI v) (nI (w + 1)) else b_X5_leastLaw_44 fuel h1 120 (nI p) (nI n) (nI w) (nI (hl X p n w)) (nI (w + 1)) := by
      show f_X5_leastLaw_44 (b_X5_leastLaw_44 fuel) h 120 (nI p) (nI n) (nI b) (nI v) (nI w) = _
      unfold f_X5_leastLaw_44 b_X5_leastLaw_79 b_X5_leastLaw_95
      rw [L6, if_neg (nI_ge (by omega) (by omega)), f1, Option.bind_some, L1, nI_add]
      by_cases z : nI v ≤ nI (hl X p n w)
      · rw [if_pos z, if_pos z, if_pos z]
      · rw [if_neg z, if_neg z, if_neg z]
    rw [st]
    unfold ll
    by_cases z : v ≤ hl X p n w
    · rw [if_pos (nI_le z (by omega)), if_pos z]
      obtain ⟨h2, k1, k2⟩ := m_ll44 hk hp hn f (w + 1) b v fuel h1 (g.eq f3) (by omega) (by omega) hv
      exact ⟨h2, k1, f3.tr k2⟩
    · rw [if_neg (show ¬ nI v ≤ nI (hl X p n w) from nI_ge (by omega) (by omega)), if_neg z]
      obtain ⟨h2, k1, k2⟩ := m_ll44 hk hp hn f (w + 1) w (hl X p n w) fuel h1 (g.eq f3) (by omega) (by omega) hle
      exact ⟨h2, k1, f3.tr k2⟩
set_option maxHeartbeats 400000 in
theorem a_leastLaw (x1 x2 : Int32) : Same k (fun h => sh_X4_leastLaw h 0 x1 x2) (fun h => sh_X5_leastLaw h 120 x1 x2) := by
  intro h X Y g hk
  rcases one_range g x1 x2 (lo := 0) (hi := 60) (by decide) (by decide) with ⟨r, hr, e1, e2⟩ | ⟨p, n, hp, rfl, _, hn, rfl, e1, e2⟩
  · refine s_ref g hk hr ?_ (fun h1 _ _ m => ?_)
    · show Option.bind (sh_X4_ofOneRefusal h 0 x1 x2 (nI 0) (nI 60)) _ = _
      rw [e1, Option.bind_some, if_neg (isR_neg hr).1]
    · show Option.bind (sh_X5_wrongOne (th h1) 120 x1 x2 (nI 0) (nI 60)) _ = _
      rw [e2 _ m, Option.bind_some, if_neg (isR_neg hr).2.1]
      rfl
  · have hP := g.P
    obtain ⟨h0, f1, f3⟩ := c_hasByLaw g hk (v := 0) (p := p) (n := n) (by omega) (by omega) hn
    have f1' : sh_X4_hasByLaw h 0 (nI 0) (nI p) (nI n) = some (nI (hl X p n 0), h0) := f1
    have hle := hl_le (w := 0) (p := p) (n := n) g.1 hk (by omega) hn (by omega)
    obtain ⟨h1, k1, k2⟩ := c_ll35 (X := X) (Y := Y) hk (p := p) (n := n) (by omega) hn 5 1 0 (hl X p n 0) 1000 h0 (g.eq f3) rfl (by omega) hle
    have f4 := f3.tr k2
    have g1 := (g.eq f4).th
    obtain ⟨h2, m1, m2⟩ := m_hasL g1.2.2.1 g1.1 hk (w := 0) (p := p) (n := n) (by omega) (by omega) hn
    obtain ⟨h4, q1, q2⟩ := m_ll44 (X := X) (Y := Y) hk (p := p) (n := n) (by omega) hn 5 1 0 (hl X p n 0) 1000 h2 (g1.eq m2) rfl (by omega) hle
    refine s_ok g hk (r := nI (ll X p n 5 1 0 (hl X p n 0))) (h1 := h1) (h2 := h4) ?_ f4 ?_ (m2.tr q2)
    · show Option.bind (sh_X4_ofOneRefusal h 0 (nI p) (nI n) (nI 0) (nI 60)) _ = _
      rw [e1, Option.bind_some, if_pos rfl, L0, f1', Option.bind_some]
      exact k1
    · show Option.bind (sh_X5_wrongOne (th h1) 120 (nI p) (nI n) (nI 0) (nI 60)) _ = _
      rw [e2 _ g1.2.2.1, Option.bind_some, if_pos (by decide)]
      show Option.bind (sh_X5_hasBy (th h1) 120 (nI p) (nI n) (nI 0) ((th h1).1 120 4)) _ = _
      rw [m1, Option.bind_some]
      exact q1
end BL
