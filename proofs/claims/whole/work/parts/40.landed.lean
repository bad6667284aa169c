/-! PURE: land, by both -/
section LZ
variable {h h' h1 h2 : Hp} {k : Nat} {X Y : St} {L : Nat} {c : Nat → Int32}
set_option maxHeartbeats 400000 in
theorem H0_ty (t : TY L c h) : TY L c (H0 h) := ⟨by unfold H0; rw [rdI, if_neg (by omega), th_ne (by omega)]; exact t.1, fun j hj => by unfold H0; rw [rdI, if_neg (by omega), th_ne (by omega)]; exact t.2 j hj⟩
set_option maxHeartbeats 400000 in
theorem H0_ln (h : Hp) : LN (th h) (H0 h) := ⟨fun a j _ _ _ q => by unfold H0; rw [rdI, if_neg (by omega)], rfl⟩
set_option maxHeartbeats 400000 in
theorem H0_24 (h : Hp) : (H0 h).1 120 24 = nI 0 := by unfold H0; rw [rdI, if_pos ⟨rfl, rfl⟩]
set_option maxHeartbeats 400000 in
theorem y_bad (hc : Ch L c) (t : TY L c h) {n : Nat} (b : Bad L c n) : ∃ g, sh_X5_land h 120 = some ((-1000 : Int32) - nI (ps c (sk c n)).2, wI (WW g (ps c (sk c n)).2 1) 120 21 (nI 0)) ∧ LN (th h) g := by
  obtain ⟨b1, b2, b3, b4⟩ := b
  have hL := hc.1
  obtain ⟨g1, q1, q2, q3, q4, _⟩ := y20 hc b1 b2 n 0 (1000 - n) (H0 h) (by omega) (H0_ty t) (H0_24 h) (fun x hx => absurd hx (Nat.not_lt_zero _))
  have hs : sk c n ≤ 64 := by
    rcases b3 with z | z
    · rw [z]
      show 0 ≤ 64
      omega
    · omega
  obtain ⟨g2, k1, k2, k3, _⟩ := m_stmt hc q3 (i := sk c n) (k := n) (by omega) (by omega) q2
  rw [b4] at k1
  refine ⟨g2, ?_, ((H0_ln h).tr q4).tr k3.ln⟩
  rw [land_start (c := c), show (1000 : Nat) = 1000 - n + n from by omega, q1, show 1000 - n = (998 - n) + 1 + 1 from by omega, y_step g1 _ q3.1 q2 hL (by omega) b3, k1, Option.bind_some]
  show f_X5_land_20 (b_X5_land_20 (998 - n)) (WW g2 (ps c (sk c n)).2 1) 120 = _
  unfold f_X5_land_20 b_X5_land_52
  rw [WW_23, if_neg (show ¬ nI 1 = 0 from by decide), L0, rdI, if_neg (show ¬ (120 = 120 ∧ 23 = 21) from by omega), WW_23, if_neg (show ¬ nI 1 = nI 0 from by decide), rdI, if_neg (show ¬ (120 = 120 ∧ 22 = 21) from by omega), WW_22]
set_option maxHeartbeats 400000 in
theorem y_fit (hc : Ch L c) (t : TY L c h) {n : Nat} (b : Fit L c n) : ∃ g, sh_X5_land h 120 = b_X5_land_83 1000 (wI (wI (WW g (sk c n) 0) 120 21 (nI 0)) 120 28 (g.1 120 0)) 120 (nI 0) ∧ LN (th h) g ∧ g.1 120 24 = nI n ∧ ∀ x, x < n → VL c (sk c x) x g := by
  obtain ⟨b0, b1, b2, b3⟩ := b
  have hL := hc.1
  have hbd := sk_bd hc n (fun j hj => (b2 j hj).1)
  obtain ⟨g1, q1, q2, q3, q4, q5⟩ := y20 hc b1 b2 n 0 (1000 - n) (H0 h) (by omega) (H0_ty t) (H0_24 h) (fun x hx => absurd hx (Nat.not_lt_zero _))
  refine ⟨g1, ?_, (H0_ln h).tr q4, q2, q5⟩
  rw [land_start (c := c), show (1000 : Nat) = 1000 - n + n from by omega, q1, show 1000 - n = (999 - n) + 1 from by omega]
  show f_X5_land_20 (b_X5_land_20 (999 - n)) (WW g1 (sk c n) 0) 120 = _
  unfold f_X5_land_20 b_X5_land_52
  rw [WW_23, if_pos (show nI 0 = 0 from rfl), WW_22, show (WW g1 (sk c n) 0).1 120 24 = nI n from by rw [WW_rd, if_neg (by omega), if_neg (by omega), q2], show (WW g1 (sk c n) 0).1 120 21 = nI L from by rw [WW_rd, if_neg (by omega), if_neg (by omega), q3.1], if_neg (show ¬ nI n = 0 from nI_ne0 (by omega) (by omega)), if_pos (nI_le b3 (by omega)), L0, rdI, if_neg (show ¬ (120 = 120 ∧ 23 = 21) from by omega), WW_23, if_pos rfl, rdI, if_neg (show ¬ (120 = 120 ∧ 0 = 21) from by omega), WW_rd, if_neg (by omega), if_neg (by omega), show 999 - n + 1 + n = 1000 from by omega]
def OF (h h' : Hp) : Prop := (∀ a j, ¬ (a = 120 ∧ j = 28) → h'.1 a j = h.1 a j) ∧ h'.2 = h.2
set_option maxHeartbeats 400000 in
theorem OF.rf (h : Hp) : OF h h := ⟨fun _ _ _ => rfl, rfl⟩
set_option maxHeartbeats 400000 in
theorem OF.tr (a : OF h h1) (b : OF h1 h2) : OF h h2 := ⟨fun i j q => (b.1 i j q).trans (a.1 i j q), b.2.trans a.2⟩
set_option maxHeartbeats 400000 in
theorem VL.same {i x : Nat} (v : VL c i x h) (e : ∀ a j, 131 ≤ a → a ≤ 133 → h1.1 a j = h.1 a j) : VL c i x h1 := by
  obtain ⟨v1, v2, v3, v4⟩ := v
  refine ⟨?_, ?_, fun y hy => ?_, fun w => ⟨?_, ?_⟩⟩
  · rw [e _ _ (by omega) (by omega)]; exact v1
  · rw [e _ _ (by omega) (by omega)]; exact v2
  · rw [e _ _ (by omega) (by omega)]; exact v3 y hy
  · rw [e _ _ (by omega) (by omega)]; exact (v4 w).1
  · rw [e _ _ (by omega) (by omega)]; exact (v4 w).2
set_option maxHeartbeats 400000 in
theorem m_good2 (hI : Iv k X) {n : Nat} (hn : n ≤ 12) (ho : ∀ j, j < n → okS c j ∧ sk c j < L) {j : Nat} (hj : j < n) (hg : ∀ x, x < j → gS X c x = true) {H : Hp} (vl : VL c (sk c j) j H) (h28 : H.1 120 28 = nI ((lS X c j).1 0 0)) (hD : H.1 120 1 = nI (X.1 0 1)) : sh_X5_isGood H 120 (nI j) = some (nI (if gS X c j then 1 else 0), if c (sk c j) = 108 then H else wI H 120 28 (nI ((lS X c j).1 0 0 + 1))) := by
  obtain ⟨d1, d2, d3⟩ := FS_d (ps_ok (ho j hj).1)
  have hIj := Iv_lS hI j (fun x hx => (ho x (by omega)).1) hg
  have := m_good vl (by omega) h28 hD hIj.2.1 (Nat.le_trans hI.2.2.1 hI.1) d1 d2 d3
  rw [this]
  unfold gS
  rw [lS_D]
set_option maxHeartbeats 400000 in
theorem y83 (hI : Iv k X) {n : Nat} (hn : n ≤ 12) (ho : ∀ j, j < n → okS c j ∧ sk c j < L) {m : Nat} (hm : m ≤ n) (hg : ∀ x, x < m → gS X c x = true) : ∀ (f j fuel : Nat) (H : Hp), f + j = m → H.1 120 24 = nI n → (∀ x, x < n → VL c (sk c x) x H) → H.1 120 28 = nI ((lS X c j).1 0 0) → H.1 120 1 = nI (X.1 0 1) → ∃ H', b_X5_land_83 (fuel + f) H 120 (nI j) = b_X5_land_83 fuel H' 120 (nI m) ∧ H'.1 120 28 = nI ((lS X c m).1 0 0) ∧ OF H H'
  | 0, j, fuel, H, e, h24, vl, h28, hD => by
    rw [show j = m from by omega] at *
    exact ⟨H, rfl, h28, OF.rf _⟩
  | f + 1, j, fuel, H, e, h24, vl, h28, hD => by
    have k1 := m_good2 hI hn ho (j := j) (by omega) (fun x hx => hg x (by omega)) (vl j (by omega)) h28 hD
    rw [hg j (by omega), if_pos (show true = true from rfl)] at k1
    generalize hH1 : (if c (sk c j) = 108 then H else wI H 120 28 (nI ((lS X c j).1 0 0 + 1))) = H1 at *
    have o1 : OF H H1 := by
      rw [← hH1]
      split
      · exact OF.rf _
      · exact ⟨fun a j q => by rw [rdI, if_neg q], rfl⟩
    have e28 : H1.1 120 28 = nI ((lS X c (j + 1)).1 0 0) := by
      show _ = nI ((nxS (lS X c j) c (sk c j)).1 0 0)
      rw [(nx_0 _ _ _).2, ← hH1]
      by_cases w : c (sk c j) = 108
      · rw [if_pos w, if_pos w]
        exact h28
      · rw [if_neg w, if_neg w, rdI, if_pos ⟨rfl, rfl⟩]
    obtain ⟨H2, q1, q2, q3⟩ := y83 hI hn ho hm hg f (j + 1) fuel H1 (by omega) (by rw [o1.1 _ _ (by omega)]; exact h24) (fun x hx => (vl x hx).same (fun a i z1 z2 => o1.1 a i (by omega))) e28 (by rw [o1.1 _ _ (by omega)]; exact hD)
    refine ⟨H2, ?_, q2, o1.tr q3⟩
    rw [← q1]
    show f_X5_land_83 (b_X5_land_83 (fuel + f)) H 120 (nI j) = _
    unfold f_X5_land_83
    rw [h24, if_neg (nI_ge (by omega) (by omega)), k1, Option.bind_some, if_neg (show ¬ nI 1 = 0 from by decide), L1, nI_add]
set_option maxHeartbeats 400000 in
theorem y118 {n : Nat} (hn : n ≤ 12) (ho : ∀ j, j < n → okS c j ∧ sk c j < L) (hg : ∀ x, x < n → gS X c x = true) : ∀ (f j fuel : Nat) (H : Hp), f + j = n → f < fuel → H.1 120 24 = nI n → (∀ x, x < n → VL c (sk c x) x H) → MR H (lS X c j) → ∃ H', b_X5_land_118 fuel H 120 (nI j) = some (nI n, H') ∧ MR H' (lS X c n) ∧ CF H H'
  | f, j, 0, H, e, hf, h24, vl, hm => by omega
  | 0, j, fuel + 1, H, e, hf, h24, vl, hm => by
    have : j = n := by omega
    subst this
    refine ⟨H, ?_, hm, CF.rf _⟩
    show f_X5_land_118 (b_X5_land_118 fuel) H 120 (nI j) = _
    unfold f_X5_land_118
    rw [h24, if_pos (nI_le (Nat.le_refl _) (by omega))]
  | f + 1, j, fuel + 1, H, e, hf, h24, vl, hm => by
    have hgj := hg j (by omega)
    unfold gS at hgj
    obtain ⟨H1, k1, k2, k3⟩ := m_comes hm (vl j (by omega)) (by omega) (ps_ok (ho j (by omega)).1) (fun w => gd_P hgj w)
    obtain ⟨H2, q1, q2, q3⟩ := y118 hn ho hg f (j + 1) fuel H1 (by omega) (by omega) (by rw [k3.1 _ _ (by omega) (by omega)]; exact h24) (fun x hx => (vl x hx).same (fun a i z1 z2 => k3.1 a i (by omega) (by omega))) k2
    refine ⟨H2, ?_, q2, k3.tr q3⟩
    show f_X5_land_118 (b_X5_land_118 fuel) H 120 (nI j) = _
    unfold f_X5_land_118
    rw [h24, if_neg (nI_ge (by omega) (by omega)), k1, Option.bind_some, L1, nI_add]
    exact q1
set_option maxHeartbeats 400000 in
theorem fin_land (g : Gi k h X Y) (e51 : h'.1 5 1 = nI 0) (e21 : h'.1 120 21 = nI 0) (e : ∀ a j, ¬ Jn a j → ¬ (a = 5 ∧ j = 1) → ¬ (a = 120 ∧ j = 21) → h'.1 a j = h.1 a j) (e2 : ∀ a j, a ≤ 31 → h'.2.1 a j = h.2.1 a j) : Gi k h' X Y := by
  refine g.rl ⟨0, by omega, e51, e21, fun j hj => absurd hj (Nat.not_lt_zero _)⟩ ?_ (fun a j q1 q2 => e a j q1 (by unfold RLJ at q2; omega) (by unfold RLJ at q2; omega)) e2
  obtain ⟨R, r1, r2, r3, r4⟩ := g.2.2.2.2.2.1
  refine ⟨R, r1, by rw [e 0 8 (by unfold Jn; omega) (by omega) (by omega)]; exact r2, by rw [e 120 34 (by unfold Jn; omega) (by omega) (by omega)]; exact r3, fun j hj => ?_⟩
  rw [e 8 j (by unfold Jn; omega) (by omega) (by omega), e 135 j (by unfold Jn; omega) (by omega) (by omega)]
  exact r4 j hj
set_option maxHeartbeats 400000 in
theorem a_land : Same k (fun h => sh_X4_land h 0) (fun h => sh_X5_land h 120) := by
  intro h X Y g hk
  obtain ⟨L, l1, l2, l3, l4⟩ := g.2.2.2.2.1
  obtain ⟨c, hcd⟩ : ∃ c : Nat → Int32, c = fun j => if j < L then h.1 6 j else -1 := ⟨_, rfl⟩
  have c1 : ∀ j, j < L → c j = h.1 6 j := fun j hj => by rw [hcd]; exact if_pos hj
  have hc : Ch L c := ⟨l1, fun j hj => by rw [hcd]; exact if_neg (by omega)⟩
  have t : TX L c h := ⟨l2, fun j hj => (c1 j hj).symm⟩
  have ty : ∀ h1 : Hp, h1.1 120 21 = h.1 120 21 → (∀ j, h1.1 130 j = h.1 130 j) → TY L c h1 := fun h1 e1 e2 => ⟨by rw [e1, l3], fun j hj => by rw [e2, ← l4 j hj, c1 j hj]⟩
  have cl : ∀ r hA, sh_X4_readLand h 0 = some (r, hA) → sh_X4_land h 0 = some (r, wI hA 5 1 (nI 0)) := fun r hA e => by
    unfold sh_X4_land sh_X1_forget
    rw [e, Option.bind_some, xf4]
    rfl
  -- faults: nothing but the letters is gone
  have fault : ∀ (r : Int32) (hA h2 g2 : Hp) (p b : Nat), sh_X4_readLand h 0 = some (r, hA) → Eq1 h hA → sh_X5_land (wI hA 5 1 (nI 0)) 120 = some (r, h2) → (∀ a j, ¬ (a = 120 ∧ j = 28) → h2.1 a j = (wI (WW g2 p b) 120 21 (nI 0)).1 a j) → h2.2 = g2.2 → LN (th (wI hA 5 1 (nI 0))) g2 → Res k h (fun h => sh_X4_land h 0) (fun h => sh_X5_land h 120) := by
    intro r hA h2 g2 p b e1 e2 e3 e4 e5 e6
    have rd : ∀ a j, ¬ Jn a j → ¬ (a = 120 ∧ j = 21) → h2.1 a j = (wI hA 5 1 (nI 0)).1 a j := fun a j q1 q2 => by
      unfold Jn at q1
      rw [e4 a j (by omega), rdI, if_neg q2, WW_rd, if_neg (by omega), if_neg (by omega), e6.1 a j (by omega) (by omega) (by omega) (by omega), th_ne (by omega)]
    refine ⟨r, wI hA 5 1 (nI 0), h2, cl r hA e1, e3, X, Y, (fin_land (g.eq e2) ?_ ?_ (fun a j q1 q2 q3 => ?_) (fun a j q => ?_)).mono (by omega) (by omega)⟩
    · rw [rd 5 1 (by unfold Jn; omega) (by omega), rdI, if_pos ⟨rfl, rfl⟩]
    · rw [e4 120 21 (by omega), rdI, if_pos ⟨rfl, rfl⟩]
    · rw [rd a j q1 q3, rdI, if_neg q2]
    · rw [e5, e6.2]
      rfl
  rcases land_cases hc with ⟨n, b⟩ | ⟨n, b⟩
  · have hp := ps_hi c (sk c n)
    have hsk : sk c n ≤ 64 := by
      rcases b.2.2.1 with z | z
      · rw [z]
        show 0 ≤ 64
        omega
      · omega
    have e1 : sh_X4_readLand h 0 = some ((-1000 : Int32) - nI (ps c (sk c n)).2, wI h 5 2 (nI (ps c (sk c n)).2)) := by
      unfold sh_X4_readLand
      rw [xf4, x_bad hc t b, Option.bind_some, if_neg (nI_pos (by omega))]
    obtain ⟨g2, k1, k2⟩ := y_bad hc (ty (wI (wI h 5 2 (nI (ps c (sk c n)).2)) 5 1 (nI 0)) (by rw [rdI, if_neg (by omega), rdI, if_neg (by omega)]) (fun j => by rw [rdI, if_neg (by omega), rdI, if_neg (by omega)])) b
    exact fault _ _ _ g2 _ 1 e1 (Eq1.wI h 2 _ (by unfold Jn; omega)) k1 (fun _ _ _ => rfl) rfl k2
  · have b' := b
    obtain ⟨b0, b1, b2, b3⟩ := b
    have hbd := sk_bd hc n (fun j hj => (b2 j hj).1)
    generalize hhA : wI h 5 2 (nI (sk c n)) = hA
    have eA : Eq1 h hA := by
      rw [← hhA]
      exact Eq1.wI h 2 _ (by unfold Jn; omega)
    have gA := g.eq eA
    have tA : TX L c hA := by
      rw [← hhA]
      exact t.pos _
    obtain ⟨hB, m1, m2, m3⟩ := p_become (h := hA) v32 v10 (by decide)
    have vB := m3 X gA.2.1
    have tB : TX L c hB := ⟨by rw [m2.1 5 1 (by omega)]; exact tA.1, fun j hj => by rw [m2.1 6 j (by omega)]; exact tA.2 j hj⟩
    have rl : sh_X4_readLand h 0 = b_X4_readLand_36 1000 hB 0 (nI 0) (nI (sk c 0)) (nI 0) := by
      unfold sh_X4_readLand
      rw [xf4, x_fit hc t b', Option.bind_some, if_pos (show (-1 : Int32) < 0 from by decide), hhA, xf2, xf0, m1, Option.bind_some]
      rfl
    rcases g_cases (gS X c) n with ⟨m, hm, hg, hb⟩ | hg
    · obtain ⟨hC, q1, q2, q3⟩ := c_land36 hc b1 b2 (m := m) (by omega) g.1 hg m 0 (1000 - m) hB (by omega) tB vB
      have tC : TX L c hC := ⟨by rw [q3.1 5 1 (by omega)]; exact tB.1, fun j hj => by rw [q3.1 6 j (by omega)]; exact tB.2 j hj⟩
      have hom := b2 m hm
      have fs := ps_ok hom.1
      have hIm := Iv_lS g.1 m (fun x hx => (b2 x (by omega)).1) hg
      have kC : sh_X4_comesInMind hC 0 (nI (sk c m)) = some (nI 0, hC) := by
        rcases c_comes hc tC q2 hIm fs (by omega) with ⟨z, _⟩ | ⟨_, z⟩
        · unfold gS at hb
          rw [z] at hb
          exact absurd hb.symm Bool.false_ne_true
        · exact z
      have e1 : sh_X4_readLand h 0 = some ((-2000 : Int32) - nI (sk c m), hC) := by
        rw [rl, show (1000 : Nat) = 1000 - m + m from by omega, q1, show 1000 - m = (999 - m) + 1 from by omega]
        show f_X4_readLand_36 (b_X4_readLand_36 (999 - m)) hC 0 (nI m) (nI (sk c m)) (nI m) = _
        unfold f_X4_readLand_36
        rw [L64, if_neg (nI_ge (by omega) (by omega)), xf4, tC.1, if_neg (nI_ge hom.2 (by omega)), kC, Option.bind_some, if_pos (show nI 0 = 0 from rfl)]
      have eC : Eq1 h hC := eA.tr ((Eq1.vf m2 (by decide) (by decide)).tr (Eq1.vf q3 (by decide) (by decide)))
      have gC := g.eq eC
      obtain ⟨g2, y1, y2, y3, y4⟩ := y_fit hc (ty (wI hC 5 1 (nI 0)) (by rw [rdI, if_neg (by omega), eC.1 120 21 (by unfold Jn; omega)]) (fun j => by rw [rdI, if_neg (by omega), eC.1 130 j (by unfold Jn; omega)])) b'
      have rg : ∀ a j, a ≠ 131 → a ≠ 132 → a ≠ 133 → ¬ (a = 120 ∧ (j = 13 ∨ (22 ≤ j ∧ j ≤ 24))) → g2.1 a j = (wI hC 5 1 (nI 0)).1 a j := fun a j z1 z2 z3 z4 => by rw [y2.1 a j z1 z2 z3 (by omega), th_ne (by omega)]
      have g20 : g2.1 120 0 = nI (X.1 0 0) := by rw [rg 120 0 (by omega) (by omega) (by omega) (by omega), rdI, if_neg (by omega), gC.2.2.1.1 0 (by decide)]
      generalize hH : wI (wI (WW g2 (sk c n) 0) 120 21 (nI 0)) 120 28 (g2.1 120 0) = H at *
      have rH : ∀ a j, H.1 a j = if a = 120 ∧ j = 28 then nI (X.1 0 0) else (wI (WW g2 (sk c n) 0) 120 21 (nI 0)).1 a j := fun a j => by rw [← hH, rdI, g20]
      have r2 : ∀ a j, ¬ (a = 120 ∧ (j = 28 ∨ j = 21 ∨ j = 22 ∨ j = 23)) → H.1 a j = g2.1 a j := fun a j z => by rw [rH, if_neg (by omega), rdI, if_neg (by omega), WW_rd, if_neg (by omega), if_neg (by omega)]
      have H24 : H.1 120 24 = nI n := by rw [r2 _ _ (by omega), y3]
      have HD : H.1 120 1 = nI (X.1 0 1) := by rw [r2 _ _ (by omega), rg _ _ (by omega) (by omega) (by omega) (by omega), rdI, if_neg (by omega), gC.2.2.1.1 1 (by decide)]
      have Hv : ∀ x, x < n → VL c (sk c x) x H := fun x hx => (y4 x hx).same (fun a i z1 z2 => r2 a i (by omega))
      obtain ⟨H1, u1, u2, u3⟩ := y83 g.1 b1 b2 (m := m) (by omega) hg m 0 (1000 - m) H (by omega) H24 Hv (by rw [rH, if_pos ⟨rfl, rfl⟩]; rfl) HD
      have k1 := m_good2 g.1 b1 b2 hm hg (H := H1) ((Hv m hm).same (fun a i z1 z2 => u3.1 a i (by omega))) u2 (by rw [u3.1 _ _ (by omega), HD])
      rw [hb] at k1
      generalize hH2 : (if c (sk c m) = 108 then H1 else wI H1 120 28 (nI ((lS X c m).1 0 0 + 1))) = H2 at *
      have o2 : OF H1 H2 := by
        rw [← hH2]
        split
        · exact OF.rf _
        · exact ⟨fun a j q => by rw [rdI, if_neg q], rfl⟩
      have e3 : sh_X5_land (wI hC 5 1 (nI 0)) 120 = some ((-2000 : Int32) - nI (sk c m), H2) := by
        rw [y1, show (1000 : Nat) = 1000 - m + m from by omega, u1, show 1000 - m = (999 - m) + 1 from by omega]
        show f_X5_land_83 (b_X5_land_83 (999 - m)) H1 120 (nI m) = _
        unfold f_X5_land_83
        rw [u3.1 120 24 (by omega), H24, if_neg (nI_ge hm (by omega)), k1, Option.bind_some, if_pos (by rfl), mf25, ldI_n (a := 131) (show m < 33 from by omega) (by omega), Option.bind_some, o2.1 131 m (by omega), u3.1 131 m (by omega), (Hv m hm).1]
      exact fault _ hC H2 g2 (sk c n) 0 e1 eC e3 (fun a j q => by rw [o2.1 a j q, u3.1 a j q, rH, if_neg q]) (by rw [o2.2, u3.2, ← hH]; rfl) y2
    · obtain ⟨hC, q1, q2, q3⟩ := c_land36 hc b1 b2 (m := n) (by omega) g.1 hg n 0 (1000 - n) hB (by omega) tB vB
      have tC : TX L c hC := ⟨by rw [q3.1 5 1 (by omega)]; exact tB.1, fun j hj => by rw [q3.1 6 j (by omega)]; exact tB.2 j hj⟩
      have hIn := Iv_lS g.1 n (fun x hx => (b2 x (by omega)).1) hg
      obtain ⟨hN, n1, n2, n3⟩ := p_become (h := hC) v10 v32 (by decide)
      have vN := n3 _ q2
      have e1 : sh_X4_readLand h 0 = some (nI n, hN) := by
        rw [rl, show (1000 : Nat) = 1000 - n + n from by omega, q1, show 1000 - n = (999 - n) + 1 from by omega]
        show f_X4_readLand_36 (b_X4_readLand_36 (999 - n)) hC 0 (nI n) (nI (sk c n)) (nI n) = _
        unfold f_X4_readLand_36 b_X4_readLand_90
        rw [L64, if_neg (nI_ge (by omega) (by omega)), xf4, tC.1, if_pos (nI_le b3 (by omega)), xf2, xf0, n1]
        rfl
      have eC : Eq1 h hC := eA.tr ((Eq1.vf m2 (by decide) (by decide)).tr (Eq1.vf q3 (by decide) (by decide)))
      have gC := g.eq eC
      obtain ⟨g2, y1, y2, y3, y4⟩ := y_fit hc (ty (wI hN 5 1 (nI 0)) (by rw [rdI, if_neg (by omega), n2.1 _ _ (by omega), eC.1 120 21 (by unfold Jn; omega)]) (fun j => by rw [rdI, if_neg (by omega), n2.1 _ _ (by omega), eC.1 130 j (by unfold Jn; omega)])) b'
      have rg : ∀ a j, a ≠ 131 → a ≠ 132 → a ≠ 133 → ¬ (a = 120 ∧ (j = 13 ∨ (22 ≤ j ∧ j ≤ 24))) → g2.1 a j = (wI hN 5 1 (nI 0)).1 a j := fun a j z1 z2 z3 z4 => by rw [y2.1 a j z1 z2 z3 (by omega), th_ne (by omega)]
      have g20 : g2.1 120 0 = nI (X.1 0 0) := by rw [rg 120 0 (by omega) (by omega) (by omega) (by omega), rdI, if_neg (by omega), n2.1 _ _ (by omega), gC.2.2.1.1 0 (by decide)]
      generalize hH : wI (wI (WW g2 (sk c n) 0) 120 21 (nI 0)) 120 28 (g2.1 120 0) = H at *
      have rH : ∀ a j, H.1 a j = if a = 120 ∧ j = 28 then nI (X.1 0 0) else (wI (WW g2 (sk c n) 0) 120 21 (nI 0)).1 a j := fun a j => by rw [← hH, rdI, g20]
      have r2 : ∀ a j, ¬ (a = 120 ∧ (j = 28 ∨ j = 21 ∨ j = 22 ∨ j = 23)) → H.1 a j = g2.1 a j := fun a j z => by rw [rH, if_neg (by omega), rdI, if_neg (by omega), WW_rd, if_neg (by omega), if_neg (by omega)]
      have H24 : H.1 120 24 = nI n := by rw [r2 _ _ (by omega), y3]
      have HM : MR H X := gC.2.2.1.of (fun j hj => by rw [r2 _ _ (by omega), rg _ _ (by omega) (by omega) (by omega) (by omega), rdI, if_neg (by omega), n2.1 _ _ (by omega)]) (fun a j z1 z2 => by rw [r2 _ _ (by omega), rg _ _ (by omega) (by omega) (by omega) (by omega), rdI, if_neg (by omega), n2.1 _ _ (by omega)])
      have Hv : ∀ x, x < n → VL c (sk c x) x H := fun x hx => (y4 x hx).same (fun a i z1 z2 => r2 a i (by omega))
      obtain ⟨H1, u1, u2, u3⟩ := y83 g.1 b1 b2 (m := n) (by omega) hg n 0 (1000 - n) H (by omega) H24 Hv (by rw [rH, if_pos ⟨rfl, rfl⟩]; rfl) (HM.1 1 (by decide))
      obtain ⟨H2, w1, w2, w3⟩ := y118 b1 b2 hg n 0 1000 H1 (by omega) (by omega) (by rw [u3.1 _ _ (by omega), H24]) (fun x hx => (Hv x hx).same (fun a i z1 z2 => u3.1 a i (by omega))) (HM.of (fun j hj => u3.1 _ _ (by omega)) (fun a j z1 z2 => u3.1 _ _ (by omega)))
      have e3 : sh_X5_land (wI hN 5 1 (nI 0)) 120 = some (nI n, H2) := by
        rw [y1, show (1000 : Nat) = 1000 - n + n from by omega, u1, show 1000 - n = (999 - n) + 1 from by omega]
        show f_X5_land_83 (b_X5_land_83 (999 - n)) H1 120 (nI n) = _
        unfold f_X5_land_83
        rw [u3.1 120 24 (by omega), H24, if_pos (nI_le (Nat.le_refl _) (by omega))]
        exact w1
      have rd : ∀ a j, ¬ Jn a j → ¬ (a = 120 ∧ j = 21) → ¬ (a = 120 ∧ j < 6) → ¬ (121 ≤ a ∧ a ≤ 125) → H2.1 a j = (wI hN 5 1 (nI 0)).1 a j := fun a j z1 z2 z3 z4 => by
        unfold Jn at z1
        rw [w3.1 a j z3 z4, u3.1 a j (by omega), r2 a j (by omega), rg a j (by omega) (by omega) (by omega) (by omega)]
      have l2' : H2.2 = hN.2 := by
        rw [w3.2, u3.2, ← hH]
        show g2.2 = _
        rw [y2.2]
        rfl
      generalize hW : wI (wI hC 5 1 (nI 0)) 120 21 (nI 0) = W
      have rW : ∀ a j, W.1 a j = if a = 120 ∧ j = 21 then nI 0 else if a = 5 ∧ j = 1 then nI 0 else hC.1 a j := fun a j => by rw [← hW, rdI, rdI]
      have gW : Gi k W X Y := fin_land gC (by rw [rW, if_neg (by omega), if_pos ⟨rfl, rfl⟩]) (by rw [rW, if_pos ⟨rfl, rfl⟩]) (fun a j z1 z2 z3 => by rw [rW, if_neg z3, if_neg z2]) (fun a j _ => by rw [← hW]; rfl)
      refine ⟨nI n, wI hN 5 1 (nI 0), H2, cl _ _ e1, e3, lS X c n, Y, gW.upd (by omega) (hIn.mono (by omega) (by omega)) ?_ w2 (fun a j z1 z2 z3 z4 => ?_) (fun a j z1 z2 => ?_)⟩
      · refine vN.same (fun a j z1 z2 => ?_) (fun j => by rw [l2'])
        rw [rd a j (by unfold Jn; omega) (by omega) (by omega) (by omega), rdI, if_neg (by omega)]
      · rw [rW]
        by_cases y : a = 120 ∧ j = 21
        · rw [if_pos y, y.1, y.2, w3.1 120 21 (by omega) (by omega), u3.1 120 21 (by omega), rH, if_neg (by omega), rdI, if_pos ⟨rfl, rfl⟩]
        · rw [if_neg y, rd a j z1 y z3 (by omega), rdI]
          by_cases y2 : a = 5 ∧ j = 1
          · rw [if_pos y2, if_pos y2]
          · rw [if_neg y2, if_neg y2, n2.1 a j (by omega)]
      · rw [l2', n2.2.1 a j (by omega), ← hW]
        rfl
end LZ
