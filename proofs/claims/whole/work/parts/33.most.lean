/-! PURE: most, choice, gap, feast -/
section MO
variable {h h' h1 h2 : Hp} {k : Nat} {X Y : St}
def cE (b : Nat) : Int32 := if b = 0 then -1 else nI (b - 1)
set_option maxHeartbeats 400000 in
theorem cE_le {v b : Nat} (hv : v < 100000) (hb : b < 100000) : nI v ≤ cE b ↔ v + 1 ≤ b := by
  unfold cE
  by_cases w : b = 0
  · rw [if_pos w, Int32.le_iff_toInt_le, nI_toInt (by omega), show (-1 : Int32).toInt = -1 from by decide]
    omega
  · rw [if_neg w, nI_leI (by omega) (by omega)]
    omega
set_option maxHeartbeats 400000 in
theorem Iv_stL (p : Nat) : ∀ (f : Nat) (S : St) (kk r : Nat), Iv kk S → kk + f ≤ 1000 → p < S.1 0 0 → Iv (kk + f) (stL p f S r) ∧ ttL p f S r ≤ 9999 * f
  | 0, S, kk, r, hI, _, _ => ⟨hI, by show 0 ≤ 9999 * 0; omega⟩
  | f + 1, S, kk, r, hI, hk, hp => by
    have hP := hI.2.1
    have h9 := (hI.2.2.2.2.2.2.2.2.1 p (by omega)).2.2.1
    have hc : r / 3 ^ f % 3 < 3 := Nat.mod_lt _ (by decide)
    have hle := amC_le S p (c := r / 3 ^ f % 3) (by omega)
    obtain ⟨a, b⟩ := Iv_stL p f (dyC S p (amC S p (r / 3 ^ f % 3))) (kk + 1) r (Iv_dyC hI (by omega) hp hle) (by omega) (by rw [dyC_P]; exact hp)
    refine ⟨?_, ?_⟩
    · show Iv (kk + (f + 1)) (stL p f (dyC S p (amC S p (r / 3 ^ f % 3))) r)
      rw [show kk + (f + 1) = kk + 1 + f from by omega]
      exact a
    · show amC S p (r / 3 ^ f % 3) + ttL p f (dyC S p (amC S p (r / 3 ^ f % 3))) r ≤ 9999 * (f + 1)
      omega
-- what the rows up to i gave
def ro (need p n : Nat) (X : St) (i : Nat) : Ac := fo (lf need p n X 0 0) i (0, 0, 0)
set_option maxHeartbeats 400000 in
theorem ro_end (need p n : Nat) (X : St) : ro need p n X (3 ^ n) = fD need p n X 0 0 (0, 0, 0) := by
  rw [← fo_fD]
  unfold ro
  rw [Nat.zero_mul]
set_option maxHeartbeats 400000 in
theorem ro_bd (hI : Iv k X) (hk : k ≤ 900) {need p n : Nat} (hn : n ≤ 6) (hp : p < X.1 0 0) : ∀ i, bdA (ro need p n X i) ∧ (ro need p n X i).2.1 ≤ i
  | 0 => ⟨⟨Nat.zero_le _, Nat.zero_le _⟩, Nat.le_refl _⟩
  | i + 1 => by
    have hP := hI.2.1
    obtain ⟨⟨a, b⟩, c⟩ := ro_bd hI hk (need := need) hn hp i
    obtain ⟨s1, s2⟩ := Iv_stL p n X k i hI (by omega) hp
    have h9 := (s1.2.2.2.2.2.2.2.2.1 p (by omega)).2.2.1
    show bdA (upA need (ro need p n X i) ((stL p n X i).1 4 p) (0 + ttL p n X i) (0 + i)) ∧ (upA need (ro need p n X i) ((stL p n X i).1 4 p) (0 + ttL p n X i) (0 + i)).2.1 ≤ i + 1
    unfold upA bdA
    dsimp only
    refine ⟨⟨?_, ?_⟩, ?_⟩
    · split <;> omega
    · split <;> omega
    · split <;> omega
set_option maxHeartbeats 400000 in
theorem m_fm12 (hI : Iv k X) (hk : k ≤ 900) (need : Nat) {p n : Nat} (hn : n ≤ 6) (hp : p < X.1 0 0) : ∀ (f i fuel : Nat) (h : Hp), f + i = 3 ^ n → f < fuel → MR h X → h.1 120 31 = nI (ro need p n X i).2.1 → h.1 120 32 = cE (ro need p n X i).1 → ∃ h', b_X5_findMost_12 fuel h 120 (nI p) (nI n) (nI i) = some h' ∧ Eq1 h h' ∧ h'.1 120 31 = nI (ro need p n X (3 ^ n)).2.1 ∧ h'.1 120 32 = cE (ro need p n X (3 ^ n)).1
  | f, i, 0, h, e, hf, hm, q1, q2 => by omega
  | 0, i, fuel + 1, h, e, hf, hm, q1, q2 => by
    have hp3 := p3 hn
    have hi : i = 3 ^ n := by omega
    refine ⟨h, ?_, Eq1.rf h, by rw [q1, hi], by rw [q2, hi]⟩
    show f_X5_findMost_12 (b_X5_findMost_12 fuel) h 120 (nI p) (nI n) (nI i) = _
    unfold f_X5_findMost_12
    rw [m_power h hn, Option.bind_some, if_pos (nI_le (by omega) (by omega))]
  | f + 1, i, fuel + 1, h, e, hf, hm, q1, q2 => by
    have hP := hI.2.1
    have hp3 := p3 hn
    obtain ⟨h1, b1, b2, b3, b4⟩ := m_byRow hm hI hk (r := i) hn hp (by omega)
    obtain ⟨⟨c1, c2⟩, c3⟩ := ro_bd hI hk (need := need) hn hp i
    have h9 := ((Iv_stL p n X k i hI (by omega) hp).1.2.2.2.2.2.2.2.2.1 p (by omega)).2.2.1
    have m1 : MR h1 X := hm.of2 (fun j hj => b2.1 120 j (by unfold Jn; omega)) (fun c j z1 z2 z3 => b2.1 c j (by unfold Jn; omega)) (fun j hj => b2.1 126 j (by unfold Jn; omega))
    have e31 : h1.1 120 31 = nI (ro need p n X i).2.1 := by rw [b4 31 (by omega) (by omega), q1]
    have e32 : h1.1 120 32 = cE (ro need p n X i).1 := by rw [b4 32 (by omega) (by omega), q2]
    have eR : ro need p n X (i + 1) = upA need (ro need p n X i) ((stL p n X i).1 4 p) (0 + ttL p n X i) (0 + i) := rfl
    have st : b_X5_findMost_12 (fuel + 1) h 120 (nI p) (nI n) (nI i) = b_X5_findMost_12 fuel (wI (wI h1 120 31 (nI (ro need p n X (i + 1)).2.1)) 120 32 (cE (ro need p n X (i + 1)).1)) 120 (nI p) (nI n) (nI (i + 1)) := by
      show f_X5_findMost_12 (b_X5_findMost_12 fuel) h 120 (nI p) (nI n) (nI i) = _
      unfold f_X5_findMost_12 b_X5_findMost_47 b_X5_findMost_69
      rw [m_power h hn, Option.bind_some, if_neg (nI_ge (by omega) (by omega)), b1, Option.bind_some, L1, nI_add]
      have r32 : ∀ x, (wI h1 120 31 x).1 120 32 = cE (ro need p n X i).1 := fun x => by rw [rdI, if_neg (by omega), e32]
      have z31 : h1.1 120 31 = nI (ro need p n X i).2.1 := e31
      rw [e32, r32, r32]
      by_cases w : (stL p n X i).1 4 p + 1 ≤ (ro need p n X i).1
      · have w' := (cE_le (v := (stL p n X i).1 4 p) (b := (ro need p n X i).1) (by omega) (by omega)).mpr w
        rw [if_pos w', if_pos w', eR]
        unfold upA
        dsimp only
        rw [if_neg (by omega), if_neg (by omega), e31]
      · have w' : ¬ nI ((stL p n X i).1 4 p) ≤ cE (ro need p n X i).1 := fun z => w ((cE_le (by omega) (by omega)).mp z)
        rw [if_neg w', if_neg w', eR]
        unfold upA
        dsimp only
        rw [if_pos (by omega), if_pos (by omega), Nat.zero_add]
        rfl
    obtain ⟨h2, k1, k2, k3, k4⟩ := m_fm12 hI hk need hn hp f (i + 1) fuel (wI (wI h1 120 31 (nI (ro need p n X (i + 1)).2.1)) 120 32 (cE (ro need p n X (i + 1)).1)) (by omega) (by omega) (m1.of (fun j hj => by rw [rdI, if_neg (by omega), rdI, if_neg (by omega)]) (fun c j z1 z2 => by rw [rdI, if_neg (by omega), rdI, if_neg (by omega)])) (by rw [rdI, if_neg (by omega), rdI, if_pos ⟨rfl, rfl⟩]) (by rw [rdI, if_pos ⟨rfl, rfl⟩])
    refine ⟨h2, ?_, (b2.tr ((Eq1.wI h1 31 _ (by unfold Jn; omega)).tr (Eq1.wI _ 32 _ (by unfold Jn; omega)))).tr k2, k3, k4⟩
    rw [st]
    exact k1
set_option maxHeartbeats 400000 in
theorem m_findMost (hm : MR h X) (hI : Iv k X) (hk : k ≤ 900) (need : Nat) {p n : Nat} (hn : n ≤ 6) (hp : p < X.1 0 0) : ∃ h', sh_X5_findMost h 120 (nI p) (nI n) = some h' ∧ Eq1 h h' ∧ h'.1 120 31 = nI (fD need p n X 0 0 (0, 0, 0)).2.1 ∧ h'.1 120 32 = cE (fD need p n X 0 0 (0, 0, 0)).1 := by
  have hp3 := p3 hn
  obtain ⟨h2, k1, k2, k3, k4⟩ := m_fm12 hI hk need hn hp (3 ^ n) 0 1000 (wI (wI h 120 31 (nI 0)) 120 32 (-1 : Int32)) (by omega) (by omega) (hm.of (fun j hj => by rw [rdI, if_neg (by omega), rdI, if_neg (by omega)]) (fun c j z1 z2 => by rw [rdI, if_neg (by omega), rdI, if_neg (by omega)])) (by rw [rdI, if_neg (by omega), rdI, if_pos ⟨rfl, rfl⟩]; rfl) (by rw [rdI, if_pos ⟨rfl, rfl⟩]; rfl)
  rw [ro_end] at k3 k4
  exact ⟨h2, k1, ((Eq1.wI h 31 _ (by unfold Jn; omega)).tr (Eq1.wI _ 32 _ (by unfold Jn; omega))).tr k2, k3, k4⟩
set_option maxHeartbeats 400000 in
theorem fD_pos (need p n : Nat) (X : St) : (fD need p n X 0 0 (0, 0, 0)).1 ≠ 0 := by
  have key : ∀ (f : Nat) (X : St) (t : Nat) (a : Ac), Sat need p f X t a → a.1 ≠ 0 := by
    intro f
    induction f with
    | zero => intro X t a s; have := s.1; omega
    | succ f ih => intro X t a s; exact ih _ _ _ s.1
  exact key n X 0 _ (sat_fD need p n X 0 0 _)
set_option maxHeartbeats 400000 in
theorem cE_bE {b : Nat} (h : b ≠ 0) : cE b = bE b := by
  unfold cE bE
  rw [if_neg h, if_neg h]
set_option maxHeartbeats 400000 in
theorem a_most (x1 x2 : Int32) : Same k (fun h => sh_X4_most h 0 x1 x2) (fun h => sh_X5_most h 120 x1 x2) := by
  intro h X Y g hk
  rcases one_range g x1 x2 (lo := 1) (hi := 6) (by decide) (by decide) with ⟨r, hr, e1, e2⟩ | ⟨p, n, hp, rfl, _, hn, rfl, e1, e2⟩
  · refine s_ref g hk hr ?_ (fun h1 _ _ m => ?_)
    · show Option.bind (sh_X4_ofOneRefusal h 0 x1 x2 (nI 1) (nI 6)) _ = _
      rw [e1, Option.bind_some, if_neg (isR_neg hr).1]
    · show Option.bind (sh_X5_wrongOne (th h1) 120 x1 x2 (nI 1) (nI 6)) _ = _
      rw [e2 _ m, Option.bind_some, if_neg (isR_neg hr).2.1]
      rfl
  · obtain ⟨h1, f1, f2, f3, _, _⟩ := c_run g hk (need := 0) hn hp (by omega)
    have g1 := (g.eq f2).th
    obtain ⟨h2, m1, m2, _, m4⟩ := m_findMost g1.2.2.1 g1.1 hk 0 hn hp
    refine s_ok g hk (r := bE (fD 0 p n X 0 0 (0, 0, 0)).1) (h1 := h1) (h2 := h2) ?_ f2 ?_ m2
    · show Option.bind (sh_X4_ofOneRefusal h 0 (nI p) (nI n) (nI 1) (nI 6)) _ = _
      rw [e1, Option.bind_some, if_pos rfl, xf0, xf3, L0, f1, Option.bind_some, f3]
    · show Option.bind (sh_X5_wrongOne (th h1) 120 (nI p) (nI n) (nI 1) (nI 6)) _ = _
      rw [e2 _ g1.2.2.1, Option.bind_some, if_pos (by decide)]
      show Option.bind (sh_X5_findMost (th h1) 120 (nI p) (nI n)) _ = _
      rw [m1, Option.bind_some, m4, cE_bE (fD_pos _ _ _ _)]
set_option maxHeartbeats 400000 in
theorem s_refF {CL MO : Hp → Option (Int32 × Hp)} (F : Int32 → Int32) (g : Gi k h X Y) (hk : k ≤ 900) {r : Int32} (hr : isR r) (hc : CL h = Option.bind (sh_X4_refuse h 0 r) fun q => some (F q.1, q.2)) (hm : ∀ h1, (∀ c j, c ≠ 9 → h1.1 c j = h.1 c j) → h1.2 = h.2 → MR (th h1) X → MO h1 = Option.bind (sh_X5_refuse (th h1) 120 r) fun q => some (F q.1, q.2)) : Res k h CL MO := by
  obtain ⟨j, hj, e1, e2⟩ := c_refuse hr h
  have hd : ∀ c i, c ≠ 9 → (wI h 9 j (h.1 9 j + 1)).1 c i = h.1 c i := fun c i hc => by rw [rdI, if_neg (by omega)]
  have hM : MR (th (wI h 9 j (h.1 9 j + 1))) X := by
    refine g.2.2.1.of (fun i hi => ?_) (fun c i h1 h2 => ?_)
    · rw [th_ne (by omega), hd _ _ (by decide)]
    · rw [th_ne (by omega), hd _ _ (by omega)]
  refine ⟨F r, wI h 9 j (h.1 9 j + 1), wI (th (wI h 9 j (h.1 9 j + 1))) 127 j ((th (wI h 9 j (h.1 9 j + 1))).1 127 j + 1), ?_, ?_, (g.ref (th_eq _) hj).fin hk⟩
  · rw [hc, e1]
    rfl
  · rw [hm _ hd rfl hM, e2]
    rfl
set_option maxHeartbeats 400000 in
theorem c_think2 (v : VR h 10 X) (hI : Iv k X) {n : Nat} (hn : n ≤ 60) (hk : k + n ≤ 1000) : ∃ h1, sh_X4_think h 0 (nI n) = some h1 ∧ VR h1 32 (itD X n) ∧ VF 32 h h1 := by
  obtain ⟨h1, e1, e2, e3⟩ := p_become (h := h) v32 v10 (by decide)
  obtain ⟨h2, f1, f2, f3⟩ := p_passDays v32 (e3 X v) hI hn hk
  refine ⟨h2, ?_, f2, e2.tr f3⟩
  unfold sh_X4_think
  rw [xf0, xf2, e1, Option.bind_some, f1]
  rfl
set_option maxHeartbeats 400000 in
theorem a_gap (x1 x2 : Int32) : Same k (fun h => sh_X4_gap h 0 x1 x2) (fun h => sh_X5_gap h 120 x1 x2) := by
  intro h X Y g hk
  rcases one_range g x1 x2 (lo := 1) (hi := 6) (by decide) (by decide) with ⟨r, hr, e1, e2⟩ | ⟨p, n, hp, rfl, _, hn, rfl, e1, e2⟩
  · refine s_refF (fun x => (1000000000 : Int32) - x) g hk hr ?_ (fun h1 _ _ m => ?_)
    · show Option.bind (sh_X4_ofOneRefusal h 0 x1 x2 (nI 1) (nI 6)) _ = _
      rw [e1, Option.bind_some, if_neg (isR_neg hr).1]
    · show Option.bind (sh_X5_wrongOne (th h1) 120 x1 x2 (nI 1) (nI 6)) _ = _
      rw [e2 _ m, Option.bind_some, if_neg (isR_neg hr).2.1]
      rfl
  · have hP := g.P
    obtain ⟨h0, f1, f2, f3, _, _⟩ := c_run g hk (need := 0) hn hp (by omega)
    have g0 := g.eq f2
    obtain ⟨h1, t1, t2, t3⟩ := c_think2 g0.2.1 g0.1 (n := n) (by omega) (by omega)
    have fe : Eq1 h h1 := f2.tr (Eq1.vf t3 (by decide) (by decide))
    have g1 := (g.eq fe).th
    obtain ⟨h2, m1, m2, _, m4⟩ := m_findMost g1.2.2.1 g1.1 hk 0 hn hp
    have g2 := g1.eq m2
    obtain ⟨h3, o1, o2, o3⟩ := m_mind g2.2.2.1
    obtain ⟨h4, r1, r2, r3, _⟩ := m_run o2 g2.1 (m := n) (by omega) (by omega)
    obtain ⟨h5, c1, c2⟩ := o3 h4 r3.mf
    have e16 : h1.1 1 6 = bE (fD 0 p n X 0 0 (0, 0, 0)).1 := by rw [t3.1 1 6 (by omega), f3]
    refine s_ok g hk (r := bE (fD 0 p n X 0 0 (0, 0, 0)).1 - nI ((itD X n).1 4 p)) (h1 := h1) (h2 := h5) ?_ fe ?_ (m2.tr c2)
    · show Option.bind (sh_X4_ofOneRefusal h 0 (nI p) (nI n) (nI 1) (nI 6)) _ = _
      rw [e1, Option.bind_some, if_pos rfl, xf0, xf3, L0, f1, Option.bind_some, t1, Option.bind_some, xf2, ld_has v32 t2 (by omega), Option.bind_some, e16]
    · show Option.bind (sh_X5_wrongOne (th h1) 120 (nI p) (nI n) (nI 1) (nI 6)) _ = _
      rw [e2 _ g1.2.2.1, Option.bind_some, if_pos (by decide)]
      show Option.bind (sh_X5_findMost (th h1) 120 (nI p) (nI n)) _ = _
      rw [m1, Option.bind_some]
      unfold sh_X5_hasAfter
      rw [o1, Option.bind_some, r1, Option.bind_some, md_has r2 (by omega), Option.bind_some, c1, Option.bind_some, Option.bind_some, m4, cE_bE (fD_pos _ _ _ _)]
set_option maxHeartbeats 400000 in
theorem a_choice (x1 x2 x3 : Int32) : Same k (fun h => sh_X4_choice h 0 x1 x2 x3) (fun h => sh_X5_choice h 120 x1 x2 x3) := by
  intro h X Y g hk
  have hP := g.P
  have c25 : ∀ r, isR r → b_X4_choice_25 h 0 x1 x2 x3 r = Option.bind (sh_X4_refuse h 0 r) fun q => some (q.1, q.2) := fun r hr => by
    unfold b_X4_choice_25
    rw [if_neg (isR_neg hr).1]
  have m43 : ∀ h1 r, isR r → b_X5_choice_43 (th h1) 120 x1 x2 x3 r = Option.bind (sh_X5_refuse (th h1) 120 r) fun q => some (q.1, q.2) := fun h1 r hr => by
    unfold b_X5_choice_43
    rw [if_neg (isR_neg hr).2.1]
  rcases p_exists g.2.1 g.P x1 with ⟨p, hp, rfl, e1⟩ | ⟨hn, e1⟩
  · have cl : sh_X4_choice h 0 (nI p) x2 x3 = if ov 1 6 x2 = (-1 : Int32) then b_X4_choice_25 h 0 (nI p) x2 x3 (ov 1 6 x2) else if (0 : Int32) ≤ x3 then b_X4_choice_25 h 0 (nI p) x2 x3 (ov 1 6 x2) else b_X4_choice_25 h 0 (nI p) x2 x3 (-4 : Int32) := by
      unfold sh_X4_choice sh_X4_ofOneRefusal b_X4_ofOneRefusal_22
      rw [xf0, e1, Option.bind_some, if_neg (by decide), out_val]
      rfl
    have mo : ∀ h1, MR (th h1) X → sh_X5_choice h1 120 (nI p) x2 x3 = if x2 < (1 : Int32) then b_X5_choice_43 (th h1) 120 (nI p) x2 x3 (-4 : Int32) else if (0 : Int32) ≤ x3 then (if x2 ≤ (6 : Int32) then b_X5_choice_43 (th h1) 120 (nI p) x2 x3 (0 : Int32) else b_X5_choice_43 (th h1) 120 (nI p) x2 x3 (-6 : Int32)) else b_X5_choice_43 (th h1) 120 (nI p) x2 x3 (-4 : Int32) := fun h1 m => by
      show Option.bind (sh_X5_isOne (th h1) 120 (nI p)) _ = _
      rw [one_p hP hp m, Option.bind_some, if_neg (by decide)]
      rfl
    by_cases a : (1 : Int32) ≤ x2
    · by_cases b : (0 : Int32) ≤ x3
      · by_cases c : x2 ≤ (6 : Int32)
        · have e0 : ov 1 6 x2 = 0 := by
            unfold ov
            rw [if_pos a, if_pos c]
          rw [e0, if_neg (show ¬ (0 : Int32) = -1 from by decide), if_pos b] at cl
          obtain ⟨n, n1, n2, rfl⟩ := nat_of (lo := 1) (hi := 6) (by decide) (by decide) a c
          obtain ⟨j, hj, rfl⟩ := nI_of (i_nlt.mpr b)
          have hp3 := p3 n2
          by_cases w : j < n
          · obtain ⟨h1, f1, f2, _, _, f5⟩ := c_run g hk (need := 0) n2 hp (by omega)
            have g1 := (g.eq f2).th
            obtain ⟨h2, m1, m2, m3, _⟩ := m_findMost g1.2.2.1 g1.1 hk 0 n2 hp
            have hro := (ro_bd g.1 hk (need := 0) n2 hp (3 ^ n)).2
            rw [ro_end] at hro
            have hp4 := p3 (n := n - 1 - j) (by omega)
            have hdl : (fD 0 p n X 0 0 (0, 0, 0)).2.1 / 3 ^ (n - 1 - j) ≤ (fD 0 p n X 0 0 (0, 0, 0)).2.1 := Nat.div_le_self _ _
            refine s_ok g hk (r := nI ((fD 0 p n X 0 0 (0, 0, 0)).2.1 / 3 ^ (n - 1 - j) % 3)) (h1 := h1) (h2 := h2) ?_ f2 ?_ m2
            · show sh_X4_choice h 0 (nI p) (nI n) (nI j) = _
              rw [cl]
              unfold b_X4_choice_25
              rw [if_pos rfl, if_pos (nI_lt w (by omega)), xf0, xf3, L0, f1, Option.bind_some, yf2, ldI_n (a := 4) (show j < 6 from by omega) (by omega), f5 j w]
              rfl
            · show sh_X5_choice h1 120 (nI p) (nI n) (nI j) = _
              rw [mo h1 g1.2.2.1, if_neg (i_nlt.mpr a), if_pos b, if_pos c]
              unfold b_X5_choice_43 b_X5_choice_88 dvI
              rw [if_pos (by decide), m1, Option.bind_some, if_neg (nI_ge w (by omega)), L1, pk_sub (by omega), pk_sub (by omega), m_power _ (by omega), Option.bind_some, if_neg (nI_ne0 hp4.1 (by omega)), Option.bind_some, m3, pk_div (by omega) hp4.1 (by omega), L3, pk_rem (by omega) (by decide) (by decide)]
          · have g1 := g.th
            obtain ⟨h2, m1, m2, _, _⟩ := m_findMost g1.2.2.1 g1.1 hk 0 n2 hp
            refine s_ok g hk (r := -9) (h1 := h) (h2 := h2) ?_ (Eq1.rf h) ?_ m2
            · show sh_X4_choice h 0 (nI p) (nI n) (nI j) = _
              rw [cl]
              unfold b_X4_choice_25
              rw [if_pos rfl, if_neg (show ¬ nI j < nI n from nI_nlt (by omega) (by omega))]
            · show sh_X5_choice h 120 (nI p) (nI n) (nI j) = _
              rw [mo h g1.2.2.1, if_neg (i_nlt.mpr a), if_pos b, if_pos c]
              unfold b_X5_choice_43 b_X5_choice_88
              rw [if_pos (by decide), m1, Option.bind_some, if_pos (nI_le (by omega) (by omega))]
        · have e0 : ov 1 6 x2 = -6 := by
            unfold ov
            rw [if_pos a, if_neg c]
          rw [e0, if_neg (show ¬ (-6 : Int32) = -1 from by decide), if_pos b] at cl
          refine s_ref g hk (r := -6) (by unfold isR; simp) (cl.trans (c25 _ (by unfold isR; simp))) (fun h1 _ _ m => ?_)
          show sh_X5_choice h1 120 (nI p) x2 x3 = _
          rw [mo h1 m, if_neg (i_nlt.mpr a), if_pos b, if_neg c, m43 h1 _ (by unfold isR; simp)]
      · have cl' : sh_X4_choice h 0 (nI p) x2 x3 = b_X4_choice_25 h 0 (nI p) x2 x3 (-4 : Int32) := by
          rw [cl, if_neg b, if_neg]
          unfold ov
          rw [if_pos a]
          split <;> decide
        refine s_ref g hk (r := -4) (by unfold isR; simp) (cl'.trans (c25 _ (by unfold isR; simp))) (fun h1 _ _ m => ?_)
        show sh_X5_choice h1 120 (nI p) x2 x3 = _
        rw [mo h1 m, if_neg (i_nlt.mpr a), if_neg b, m43 h1 _ (by unfold isR; simp)]
    · have cl' : sh_X4_choice h 0 (nI p) x2 x3 = b_X4_choice_25 h 0 (nI p) x2 x3 (-4 : Int32) := by
        rw [cl]
        unfold ov
        rw [if_neg a, if_neg (show ¬ (-4 : Int32) = -1 from by decide), ite_self]
      refine s_ref g hk (r := -4) (by unfold isR; simp) (cl'.trans (c25 _ (by unfold isR; simp))) (fun h1 _ _ m => ?_)
      show sh_X5_choice h1 120 (nI p) x2 x3 = _
      rw [mo h1 m, if_pos (i_nle.mp a), m43 h1 _ (by unfold isR; simp)]
  · refine s_ref g hk (r := -1) (Or.inl rfl) ?_ (fun h1 _ _ m => ?_)
    · show sh_X4_choice h 0 x1 x2 x3 = _
      unfold sh_X4_choice sh_X4_ofOneRefusal b_X4_ofOneRefusal_22
      rw [xf0, e1, Option.bind_some, if_pos (by decide), Option.bind_some, if_pos rfl]
      exact c25 _ (Or.inl rfl)
    · show Option.bind (sh_X5_isOne (th h1) 120 x1) _ = _
      rw [one_n hP hn m, Option.bind_some, if_pos (by decide)]
      exact m43 h1 _ (Or.inl rfl)
set_option maxHeartbeats 400000 in
theorem m_feast71 (hI : Iv k X) (hk : k ≤ 900) {need p n : Nat} (hneed : need ≤ 9999) (hn : n ≤ 6) (hp : p < X.1 0 0) : ∀ (f i fuel : Nat) (h : Hp), f + i = 3 ^ n → f < fuel → MR h X → ∃ h', b_X5_feast_71 fuel h 120 (nI p) (nI n) (nI need) (bE (ro need p n X i).2.2) (nI i) = some (bE (ro need p n X (3 ^ n)).2.2, h') ∧ Eq1 h h'
  | f, i, 0, h, e, hf, hm => by omega
  | 0, i, fuel + 1, h, e, hf, hm => by
    have hp3 := p3 hn
    have hi : i = 3 ^ n := by omega
    refine ⟨h, ?_, Eq1.rf h⟩
    show f_X5_feast_71 (b_X5_feast_71 fuel) h 120 (nI p) (nI n) (nI need) (bE (ro need p n X i).2.2) (nI i) = _
    unfold f_X5_feast_71
    rw [m_power h hn, Option.bind_some, if_pos (nI_le (by omega) (by omega)), hi]
  | f + 1, i, fuel + 1, h, e, hf, hm => by
    have hP := hI.2.1
    have hp3 := p3 hn
    obtain ⟨h1, b1, b2, b3, b4⟩ := m_byRow hm hI hk (r := i) hn hp (by omega)
    obtain ⟨⟨c1, c2⟩, c3⟩ := ro_bd hI hk (need := need) hn hp i
    obtain ⟨s1, s2⟩ := Iv_stL p n X k i hI (by omega) hp
    have h9 := (s1.2.2.2.2.2.2.2.2.1 p (by omega)).2.2.1
    have m1 : MR h1 X := hm.of2 (fun j hj => b2.1 120 j (by unfold Jn; omega)) (fun c j z1 z2 z3 => b2.1 c j (by unfold Jn; omega)) (fun j hj => b2.1 126 j (by unfold Jn; omega))
    have eR : ro need p n X (i + 1) = upA need (ro need p n X i) ((stL p n X i).1 4 p) (0 + ttL p n X i) (0 + i) := rfl
    have st : b_X5_feast_71 (fuel + 1) h 120 (nI p) (nI n) (nI need) (bE (ro need p n X i).2.2) (nI i) = b_X5_feast_71 fuel h1 120 (nI p) (nI n) (nI need) (bE (ro need p n X (i + 1)).2.2) (nI (i + 1)) := by
      show f_X5_feast_71 (b_X5_feast_71 fuel) h 120 (nI p) (nI n) (nI need) (bE (ro need p n X i).2.2) (nI i) = _
      unfold f_X5_feast_71 b_X5_feast_97 b_X5_feast_118 b_X5_feast_125 b_X5_feast_127
      rw [m_power h hn, Option.bind_some, if_neg (nI_ge (by omega) (by omega)), b1, Option.bind_some, b3, if_pos (show (0 : Int32) = 0 from rfl), if_neg (show ¬ (1 : Int32) = 0 from by decide), eR, ← nI_add, ← L1]
      unfold upA
      dsimp only
      by_cases w1 : (stL p n X i).1 4 p < need
      · rw [if_pos (nI_lt w1 (by omega)), if_neg (by omega)]
      · rw [if_neg (show ¬ nI ((stL p n X i).1 4 p) < nI need from nI_nlt (by omega) (by omega))]
        by_cases w2 : (ro need p n X i).2.2 = 0
        · rw [if_pos (show bE (ro need p n X i).2.2 < 0 from by rw [w2]; decide), if_pos (by omega)]
          unfold bE
          rw [if_neg (by omega), Nat.add_sub_cancel, Nat.zero_add]
        · have eb : bE (ro need p n X i).2.2 = nI ((ro need p n X i).2.2 - 1) := by
            unfold bE
            rw [if_neg w2]
          rw [eb, if_neg (nI_pos (by omega))]
          by_cases w3 : (ro need p n X i).2.2 - 1 ≤ ttL p n X i
          · rw [if_pos (nI_le w3 (by omega)), if_neg (by omega), eb]
          · rw [if_neg (show ¬ nI ((ro need p n X i).2.2 - 1) ≤ nI (ttL p n X i) from nI_ge (by omega) (by omega)), if_pos (by omega)]
            unfold bE
            rw [if_neg (by omega), Nat.add_sub_cancel, Nat.zero_add]
    obtain ⟨h2, k1, k2⟩ := m_feast71 hI hk hneed hn hp f (i + 1) fuel h1 (by omega) (by omega) m1
    refine ⟨h2, ?_, b2.tr k2⟩
    rw [st]
    exact k1
set_option maxHeartbeats 400000 in
theorem a_feast (x1 x2 x3 : Int32) : Same k (fun h => sh_X4_feast h 0 x1 x2 x3) (fun h => sh_X5_feast h 120 x1 x2 x3) := by
  intro h X Y g hk
  have hP := g.P
  have cl : ∀ r, sh_X4_ofOneTwiceRefusal h 0 x1 (ov 1 6 x2) (ov 0 9999 x3) = some r → isR r → sh_X4_feast h 0 x1 x2 x3 = Option.bind (sh_X4_refuse h 0 r) fun q => some (q.1, q.2) := fun r e hr => by
    unfold sh_X4_feast
    rw [out_val, out_val, Option.bind_some, Option.bind_some, e, Option.bind_some, if_neg (isR_neg hr).1]
  have m50 : ∀ h1 r, isR r → b_X5_feast_50 (th h1) 120 x1 x2 x3 r = Option.bind (sh_X5_refuse (th h1) 120 r) fun q => some (q.1, q.2) := fun h1 r hr => by
    unfold b_X5_feast_50
    rw [if_neg (isR_neg hr).2.1]
  rcases p_exists g.2.1 g.P x1 with ⟨p, hp, rfl, e1⟩ | ⟨hn, e1⟩
  · have mo : ∀ h1, MR (th h1) X → sh_X5_feast h1 120 (nI p) x2 x3 = if x2 < (1 : Int32) then b_X5_feast_50 (th h1) 120 (nI p) x2 x3 (-4 : Int32) else if (0 : Int32) ≤ x3 then (if (6 : Int32) < x2 then b_X5_feast_50 (th h1) 120 (nI p) x2 x3 (-6 : Int32) else if x3 ≤ (9999 : Int32) then b_X5_feast_50 (th h1) 120 (nI p) x2 x3 (0 : Int32) else b_X5_feast_50 (th h1) 120 (nI p) x2 x3 (-6 : Int32)) else b_X5_feast_50 (th h1) 120 (nI p) x2 x3 (-4 : Int32) := fun h1 m => by
      show Option.bind (sh_X5_isOne (th h1) 120 (nI p)) _ = _
      rw [one_p hP hp m, Option.bind_some, if_neg (by decide)]
      rfl
    by_cases a : (1 : Int32) ≤ x2
    · by_cases b : (0 : Int32) ≤ x3
      · by_cases c : x2 ≤ (6 : Int32)
        · by_cases d : x3 ≤ (9999 : Int32)
          · obtain ⟨n, n1, n2, rfl⟩ := nat_of (lo := 1) (hi := 6) (by decide) (by decide) a c
            obtain ⟨v, _, hv, rfl⟩ := nat_of (lo := 0) (hi := 9999) (by decide) (by decide) b d
            have e0 : sh_X4_ofOneTwiceRefusal h 0 (nI p) (ov 1 6 (nI n)) (ov 0 9999 (nI v)) = some 0 := by
              rw [c_twice g hp]
              unfold ov
              rw [if_pos a, if_pos b, if_pos c, if_pos d]
              rfl
            have hp3 := p3 n2
            obtain ⟨h1, f1, f2, _, f4, _⟩ := c_run g hk (need := v) n2 hp hv
            have g1 := (g.eq f2).th
            obtain ⟨h2, m1, m2⟩ := m_feast71 g1.1 hk hv n2 hp (3 ^ n) 0 1000 (th h1) (by omega) (by omega) g1.2.2.1
            rw [ro_end] at m1
            refine s_ok g hk (r := bE (fD v p n X 0 0 (0, 0, 0)).2.2) (h1 := h1) (h2 := h2) ?_ f2 ?_ m2
            · show sh_X4_feast h 0 (nI p) (nI n) (nI v) = _
              unfold sh_X4_feast
              rw [out_val, out_val, Option.bind_some, Option.bind_some, e0, Option.bind_some, if_pos rfl, xf0, xf3, f1, Option.bind_some, f4]
            · show sh_X5_feast h1 120 (nI p) (nI n) (nI v) = _
              rw [mo h1 g1.2.2.1, if_neg (i_nlt.mpr a), if_pos b, if_neg (i_nlt.mpr c), if_pos d]
              unfold b_X5_feast_50
              rw [if_pos (by decide)]
              exact m1
          · refine s_ref g hk (r := -6) (by unfold isR; simp) (cl (-6) ?_ (by unfold isR; simp)) (fun h1 _ _ m => ?_)
            · rw [c_twice g hp]
              unfold ov
              rw [if_pos a, if_pos b, if_pos c, if_neg d]
              rfl
            · show sh_X5_feast h1 120 (nI p) x2 x3 = _
              rw [mo h1 m, if_neg (i_nlt.mpr a), if_pos b, if_neg (i_nlt.mpr c), if_neg d, m50 h1 _ (by unfold isR; simp)]
        · refine s_ref g hk (r := -6) (by unfold isR; simp) (cl (-6) ?_ (by unfold isR; simp)) (fun h1 _ _ m => ?_)
          · rw [c_twice g hp]
            unfold ov
            rw [if_pos a, if_pos b, if_neg c]
            by_cases d : x3 ≤ (9999 : Int32)
            · rw [if_pos d]; rfl
            · rw [if_neg d]; rfl
          · show sh_X5_feast h1 120 (nI p) x2 x3 = _
            rw [mo h1 m, if_neg (i_nlt.mpr a), if_pos b, if_pos (i_nle.mp c), m50 h1 _ (by unfold isR; simp)]
      · refine s_ref g hk (r := -4) (by unfold isR; simp) (cl (-4) ?_ (by unfold isR; simp)) (fun h1 _ _ m => ?_)
        · rw [c_twice g hp]
          unfold ov
          rw [if_pos a, if_neg b]
          by_cases c : x2 ≤ (6 : Int32)
          · rw [if_pos c]; rfl
          · rw [if_neg c]; rfl
        · show sh_X5_feast h1 120 (nI p) x2 x3 = _
          rw [mo h1 m, if_neg (i_nlt.mpr a), if_neg b, m50 h1 _ (by unfold isR; simp)]
    · refine s_ref g hk (r := -4) (by unfold isR; simp) (cl (-4) ?_ (by unfold isR; simp)) (fun h1 _ _ m => ?_)
      · rw [c_twice g hp]
        unfold ov
        rw [if_neg a]
        rfl
      · show sh_X5_feast h1 120 (nI p) x2 x3 = _
        rw [mo h1 m, if_pos (i_nle.mp a), m50 h1 _ (by unfold isR; simp)]
  · refine s_ref g hk (r := -1) (Or.inl rfl) (cl (-1) (c_twiceN g hn _ _) (Or.inl rfl)) (fun h1 _ _ m => ?_)
    show Option.bind (sh_X5_isOne (th h1) 120 x1) _ = _
    rw [one_n hP hn m, Option.bind_some, if_pos (by decide)]
    exact m50 h1 _ (Or.inl rfl)
end MO
