/-! PURE: set, count, row, found, judge -/
section SE
variable {h h' h1 h2 : Hp} {k : Nat} {X Y : St}
def slo (j : Nat) : Nat := if j = 1 then 1 else 0
def shi (j : Nat) : Nat := if j = 3 then 99 else 5
set_option maxHeartbeats 400000 in
theorem MR.set (hm : MR h X) {j v : Nat} (hj : j < 4) : MR (wI h 120 (2 + j) (nI v)) (up1 X.1 0 (2 + j) v, X.2) := by
  refine ⟨fun i hi => ?_, fun i hi => ?_, fun a i q h1 h2 h3 h4 => ?_⟩
  · show _ = nI (up1 X.1 0 (2 + j) v 0 i)
    rw [rdI]
    by_cases w : i = 2 + j
    · rw [if_pos ⟨rfl, w⟩, w, up1_at]
    · rw [if_neg (by omega), up1_ne (by omega), hm.1 i hi]
  · have e : ∀ c, 1 ≤ c → up1 X.1 0 (2 + j) v c i = X.1 c i := fun c hc => up1_ne (by omega)
    show _ = nI (up1 X.1 0 (2 + j) v 1 i) ∧ _ = nI (up1 X.1 0 (2 + j) v 2 i) ∧ _ = nI (up1 X.1 0 (2 + j) v 5 i) ∧ _ = nI (up1 X.1 0 (2 + j) v 3 i) ∧ _ = nI (up1 X.1 0 (2 + j) v 4 i)
    rw [e 1 (by decide), e 2 (by decide), e 3 (by decide), e 4 (by decide), e 5 (by decide), rdI, rdI, rdI, rdI, rdI, if_neg (by omega), if_neg (by omega), if_neg (by omega), if_neg (by omega), if_neg (by omega)]
    exact hm.2.1 i hi
  · have e : (up1 X.1 0 (2 + j) v) 0 1 = X.1 0 1 := up1_ne (by omega)
    show (wI h 120 (2 + j) (nI v)).1 126 (42 * ((up1 X.1 0 (2 + j) v 0 1 - a) % 11) + 7 * i + q) = nI (X.2 a i q)
    have h2' : a ≤ up1 X.1 0 (2 + j) v 0 1 := h2
    rw [e] at h2' ⊢
    rw [rdI, if_neg (by omega)]
    exact hm.2.2 a i q h1 h2' h3 h4
set_option maxHeartbeats 400000 in
theorem Iv_set (hI : Iv k X) {j v : Nat} (hj : j < 4) (h1 : slo j ≤ v) (h2 : v ≤ shi j) : Iv k (up1 X.1 0 (2 + j) v, X.2) := by
  obtain ⟨a1, a2, a3, a4, a5, a6, a7, a8, a9, a10, a11, a12⟩ := hI
  have e0 : up1 X.1 0 (2 + j) v 0 0 = X.1 0 0 := up1_ne (by omega)
  have e1 : up1 X.1 0 (2 + j) v 0 1 = X.1 0 1 := up1_ne (by omega)
  have ec : ∀ c i, 1 ≤ c → up1 X.1 0 (2 + j) v c i = X.1 c i := fun c i hc => up1_ne (by omega)
  unfold slo at h1
  unfold shi at h2
  have ev : ∀ i, up1 X.1 0 (2 + j) v 0 i = if i = 2 + j then v else X.1 0 i := fun i => by
    unfold up1
    by_cases w : i = 2 + j
    · rw [if_pos ⟨rfl, w⟩, if_pos w]
    · rw [if_neg (by omega), if_neg w]
  refine ⟨a1, ?_, ?_, ?_, ?_, ?_, ?_, ?_, fun i hi => ?_, fun i hi => ?_, a11, fun a i q z => a12 a i q ?_⟩
  · show up1 X.1 0 (2 + j) v 0 0 ≤ 6
    rw [e0]; exact a2
  · show up1 X.1 0 (2 + j) v 0 1 ≤ k
    rw [e1]; exact a3
  · show up1 X.1 0 (2 + j) v 0 2 ≤ 5
    rw [ev]; split at h2 <;> split <;> omega
  · show 1 ≤ up1 X.1 0 (2 + j) v 0 3
    rw [ev]; split at h1 <;> split <;> omega
  · show up1 X.1 0 (2 + j) v 0 3 ≤ 5
    rw [ev]; split at h2 <;> split <;> omega
  · show up1 X.1 0 (2 + j) v 0 4 ≤ 5
    rw [ev]; split at h2 <;> split <;> omega
  · show up1 X.1 0 (2 + j) v 0 5 ≤ 99
    rw [ev]; split at h2 <;> split <;> omega
  · show up1 X.1 0 (2 + j) v 1 i ≤ 7 ∧ up1 X.1 0 (2 + j) v 2 i ≤ 9 ∧ up1 X.1 0 (2 + j) v 4 i ≤ 9999 ∧ up1 X.1 0 (2 + j) v 5 i ≤ 99
    rw [ec 1 i (by decide), ec 2 i (by decide), ec 4 i (by decide), ec 5 i (by decide)]
    exact a9 i hi
  · show up1 X.1 0 (2 + j) v 3 i = 9 ∨ up1 X.1 0 (2 + j) v 3 i < up1 X.1 0 (2 + j) v 0 0
    have z : i < up1 X.1 0 (2 + j) v 0 0 := hi
    rw [e0] at z ⊢
    rw [ec 3 i (by decide)]
    exact a10 i z
  · have z' : up1 X.1 0 (2 + j) v 0 0 ≤ i ∨ (up1 X.1 0 (2 + j) v 0 0 ≤ q ∧ q < 6) ∨ up1 X.1 0 (2 + j) v 0 1 < a := z
    rw [e0, e1] at z'
    exact z'
set_option maxHeartbeats 400000 in
theorem m_set35 {x2 : Int32} {j : Nat} (hj : j < 4) (m : MR (th h1) X) : sh_X5_set h1 120 (nI j) x2 = b_X5_set_35 (th h1) 120 (nI j) x2 x2 (nI (slo j)) := by
  unfold sh_X5_set
  show Option.bind (sh_X5_in (th h1) (nI j).toInt64 (0 : Int64) (3 : Int64)) _ = _
  rcases m_in0 (nI j) (n := 4) (hi := 3) (by decide) (by decide) with ⟨i, _, _, e2⟩ | ⟨w, _⟩
  · rw [e2, Option.bind_some, if_neg (by decide)]
    rcases (by omega : j = 0 ∨ j = 1 ∨ j = 2 ∨ j = 3) with rfl | rfl | rfl | rfl
    · rw [if_neg (by decide)]; rfl
    · rw [if_pos (by decide)]; rfl
    · rw [if_neg (by decide)]; rfl
    · rw [if_neg (by decide)]; rfl
  · exact absurd rfl (ch_no (by decide) w hj)
set_option maxHeartbeats 400000 in
theorem m_set50 {g : Hp} {x2 : Int32} {j : Nat} (hj : j < 4) (w : ¬ x2 < nI (slo j)) : b_X5_set_35 g 120 (nI j) x2 x2 (nI (slo j)) = b_X5_set_50 g 120 (nI j) x2 x2 (nI (shi j)) := by
  unfold b_X5_set_35
  rw [if_neg w]
  rcases (by omega : j = 0 ∨ j = 1 ∨ j = 2 ∨ j = 3) with rfl | rfl | rfl | rfl
  · rw [if_neg (by decide)]; rfl
  · rw [if_neg (by decide)]; rfl
  · rw [if_neg (by decide)]; rfl
  · rw [if_pos (by decide)]; rfl
set_option maxHeartbeats 400000 in
theorem m_setV {g : Hp} {x2 : Int32} {j : Nat} (hj : j < 4) (w : x2 ≤ nI (shi j)) : b_X5_set_50 g 120 (nI j) x2 x2 (nI (shi j)) = some (g.1 120 (2 + j), wI g 120 (2 + j) x2) := by
  unfold b_X5_set_50 b_X5_set_109 b_X5_set_123 b_X5_set_140 b_X5_set_157 b_X5_set_174
  rw [if_pos w]
  rcases (by omega : j = 0 ∨ j = 1 ∨ j = 2 ∨ j = 3) with rfl | rfl | rfl | rfl
  · simp (config := { decide := true }) only [if_true, if_false, wI_self]
  · simp (config := { decide := true }) only [if_true, if_false, wI_self]
  · simp (config := { decide := true }) only [if_true, if_false, wI_self]
  · simp (config := { decide := true }) only [if_true, if_false, wI_self]
set_option maxHeartbeats 400000 in
theorem c_set {x2 : Int32} {j : Nat} (hj : j < 4) : sh_X4_set h 0 (nI j) x2 = Option.bind (sh_X4_outside h x2 (nI (slo j)) (nI (shi j))) fun v3 => if v3 = 0 then Option.bind (sh_X3_changeSetting h 10 (nI j) x2) fun q4 => some (q4.1, q4.2) else Option.bind (sh_X4_refuse h 0 v3) fun q5 => some (q5.1, q5.2) := by
  unfold sh_X4_set
  rw [if_neg (nI_pos (by omega)), if_pos (show nI j < Int32.ofNat (len 138) from nI_lt hj (by decide)), xf0]
  rcases (by omega : j = 0 ∨ j = 1 ∨ j = 2 ∨ j = 3) with rfl | rfl | rfl | rfl <;> rfl
set_option maxHeartbeats 400000 in
theorem a_set (x1 x2 : Int32) : Same k (fun h => sh_X4_set h 0 x1 x2) (fun h => sh_X5_set h 120 x1 x2) := by
  intro h X Y g hk
  rcases m_in0 x1 (n := 4) (hi := 3) (by decide) (by decide) with ⟨j, hj, rfl, e2⟩ | ⟨w, e2⟩
  · have hsl : slo j < 2 ^ 31 := by unfold slo; split <;> omega
    have hsh : shi j < 100000 := by unfold shi; split <;> omega
    have hs5 : 5 ≤ shi j := by unfold shi; split <;> omega
    have hs1 : slo j ≤ 1 := by unfold slo; split <;> omega
    rcases range1 h x2 (lo := slo j) (hi := shi j) hsl hsh with ⟨r, hr, f1, f2⟩ | ⟨n, n1, n2, rfl, f1, f2⟩
    · refine s_ref g hk hr ?_ (fun h1 _ _ m => ?_)
      · show sh_X4_set h 0 (nI j) x2 = _
        rw [c_set hj, f1, Option.bind_some, if_neg (isR_neg hr).1]
      · show sh_X5_set h1 120 (nI j) x2 = _
        rw [m_set35 hj m]
        have f2' := f2 h1
        unfold sh_X5_wrongDays b_X5_wrongDays_21 at f2'
        by_cases z : nI (slo j) ≤ x2
        · rw [if_pos z] at f2'
          have z' : ¬ x2 < nI (slo j) := fun y => by
            rw [Int32.le_iff_toInt_le] at z
            rw [Int32.lt_iff_toInt_lt] at y
            omega
          rw [m_set50 hj z']
          by_cases y : x2 ≤ nI (shi j)
          · rw [if_pos y] at f2'
            have f3 : (0 : Int32) = r := Option.some.inj f2'
            exact absurd f3.symm (isR_neg hr).1
          · rw [if_neg y] at f2'
            have f3 : (-6 : Int32) = r := Option.some.inj f2'
            unfold b_X5_set_50 b_X5_set_53
            rw [if_neg y, if_pos (show (1 : Int32) ≤ x2 from by
              rw [Int32.le_iff_toInt_le, nI_toInt (by omega)] at y
              rw [Int32.le_iff_toInt_le, show (1 : Int32).toInt = 1 from by decide]
              omega), ← f3]
            rfl
        · rw [if_neg z] at f2'
          have f3 : (-4 : Int32) = r := Option.some.inj f2'
          have z1 : x2.toInt < slo j := by
            rw [Int32.le_iff_toInt_le, nI_toInt hsl] at z
            omega
          unfold b_X5_set_35 b_X5_set_53
          rw [if_pos (show x2 < nI (slo j) from by rw [Int32.lt_iff_toInt_lt, nI_toInt hsl]; exact z1), if_neg (show ¬ (1 : Int32) ≤ x2 from by
            rw [Int32.le_iff_toInt_le, show (1 : Int32).toInt = 1 from by decide]
            omega), ← f3]
          rfl
    · have hs : X.1 0 (2 + j) ≤ 99 := by
        obtain ⟨a1, a2, a3, a4, a5, a6, a7, a8, a9⟩ := g.1
        rcases (by omega : j = 0 ∨ j = 1 ∨ j = 2 ∨ j = 3) with rfl | rfl | rfl | rfl
        · show X.1 0 2 ≤ 99
          omega
        · show X.1 0 3 ≤ 99
          omega
        · show X.1 0 4 ≤ 99
          omega
        · exact a8
      obtain ⟨h1, c1, c2, c3⟩ := p_change v10 g.2.1 (j := j) (v := n) hj (fun z => by unfold shi at n2; rw [if_neg (by omega)] at n2; exact n2) (by unfold shi at n2; split at n2 <;> omega) hs
      refine s_do g hk (r := nI (X.1 0 (2 + j))) (h1 := h1) (X' := (up1 X.1 0 (2 + j) n, X.2)) ?_ c2 c3 ((Iv_set g.1 hj n1 n2).mono (by omega) (by omega)) (fun m => ⟨wI (th h1) 120 (2 + j) (nI n), ?_, m.set hj, RF.wI _ _ _ (by omega)⟩)
      · show sh_X4_set h 0 (nI j) (nI n) = _
        rw [c_set hj, f1, Option.bind_some, if_pos rfl, c1]
        rfl
      · show sh_X5_set h1 120 (nI j) (nI n) = _
        rw [m_set35 hj m, m_set50 hj (nI_nlt n1 (by omega)), m_setV hj (nI_le n2 (by omega)), m.1 (2 + j) (by omega)]
  · refine s_ref g hk (r := -2) (Or.inr (Or.inl rfl)) ?_ (fun h2 _ _ m => ?_)
    · show sh_X4_set h 0 x1 x2 = _
      unfold sh_X4_set
      by_cases z : x1 < 0
      · rw [if_pos z]
        rfl
      · rw [if_neg z, if_neg (show ¬ x1 < Int32.ofNat (len 138) from fun y => by
          have y' : x1 < nI 4 := y
          rcases w with w | w
          · exact z w
          · rw [Int32.le_iff_toInt_le] at w
            rw [Int32.lt_iff_toInt_lt] at y'
            omega)]
        rfl
    · show Option.bind (sh_X5_in (th h2) x1.toInt64 (0 : Int64) (3 : Int64)) _ = _
      rw [e2, Option.bind_some, if_pos (by decide)]
      rfl
-- counts
set_option maxHeartbeats 400000 in
theorem a_count (x1 : Int32) : Same k (fun h => Option.bind (sh_X4_count h 0 x1) fun v => some (v, h)) (fun h => sh_X5_count h 120 x1) := by
  intro h X Y g hk
  have hP := g.P
  have hv := g.2.1
  have g1 := g.th
  have hm := g1.2.2.1
  obtain ⟨L, l1, l2, l3, l4⟩ := g1.2.2.2.2.1
  obtain ⟨R, r1, r2, r3, r4⟩ := g1.2.2.2.2.2.1
  have rr := g1.2.2.2.2.2.2
  have key : ∀ r, sh_X4_count h 0 x1 = some r → sh_X5_count h 120 x1 = some (r, th h) → Res k h (fun h => Option.bind (sh_X4_count h 0 x1) fun v => some (v, h)) (fun h => sh_X5_count h 120 x1) := fun r e1 e2 =>
    s_ok g hk (r := r) (h1 := h) (h2 := th h) (by show Option.bind (sh_X4_count h 0 x1) _ = _; rw [e1]; rfl) (Eq1.rf h) e2 (Eq1.rf _)
  have e58 : h.1 5 1 = nI L := by rw [← l2, th_ne (by omega)]
  have e08 : h.1 0 8 = nI R := by rw [← r2, th_ne (by omega)]
  rcases pk_ix x1 (n := 17) (by decide) with w | w | ⟨j, hj, rfl⟩
  · have ne : ∀ j, j < 17 → ¬ x1 = nI j := fun j hj => ch_no (by decide) (Or.inl w) hj
    refine key (-9) ?_ ?_
    · unfold sh_X4_count
      rw [if_neg (show ¬ x1 = (0 : Int32) from ne 0 (by decide)), if_neg (show ¬ x1 = (1 : Int32) from ne 1 (by decide)), if_neg (show ¬ x1 = (2 : Int32) from ne 2 (by decide)), if_neg (show ¬ x1 = (3 : Int32) from ne 3 (by decide)), if_neg (show ¬ x1 = (4 : Int32) from ne 4 (by decide)), if_neg (show ¬ x1 = (5 : Int32) from ne 5 (by decide)), if_neg (show ¬ x1 = (6 : Int32) from ne 6 (by decide)), if_neg (show ¬ x1 = (7 : Int32) from ne 7 (by decide)), if_neg (show ¬ x1 = (8 : Int32) from ne 8 (by decide)), if_neg (show ¬ x1 = (9 : Int32) from ne 9 (by decide)), if_neg (show ¬ x1 = (10 : Int32) from ne 10 (by decide)), if_neg (show ¬ x1 = (11 : Int32) from ne 11 (by decide)), if_neg (show ¬ x1 = (12 : Int32) from ne 12 (by decide)), if_neg (show ¬ x1 = (13 : Int32) from ne 13 (by decide)), if_neg (show ¬ x1 = (14 : Int32) from ne 14 (by decide)), if_neg (show ¬ x1 = (15 : Int32) from ne 15 (by decide)), if_neg (show ¬ x1 = (16 : Int32) from ne 16 (by decide))]
      rfl
    · unfold sh_X5_count
      rw [if_neg (show ¬ x1 = (0 : Int32) from ne 0 (by decide)), if_neg (show ¬ x1 = (1 : Int32) from ne 1 (by decide)), if_neg (show ¬ x1 = (2 : Int32) from ne 2 (by decide)), if_neg (show ¬ x1 = (3 : Int32) from ne 3 (by decide)), if_neg (show ¬ x1 = (4 : Int32) from ne 4 (by decide)), if_neg (show ¬ x1 = (5 : Int32) from ne 5 (by decide)), if_neg (show ¬ x1 = (6 : Int32) from ne 6 (by decide))]
      show Option.bind (sh_X5_in (th h) x1.toInt64 (11 : Int64) (16 : Int64)) _ = _
      rw [m_in, if_neg (by
        rw [Int32.lt_iff_toInt_lt, show (0 : Int32).toInt = 0 from by decide] at w
        rw [show (11 : Int64).toInt = 11 from by decide]
        omega)]
      rfl
  · have ne : ∀ j, j < 17 → ¬ x1 = nI j := fun j hj => ch_no (by decide) (Or.inr w) hj
    refine key (-9) ?_ ?_
    · unfold sh_X4_count
      rw [if_neg (show ¬ x1 = (0 : Int32) from ne 0 (by decide)), if_neg (show ¬ x1 = (1 : Int32) from ne 1 (by decide)), if_neg (show ¬ x1 = (2 : Int32) from ne 2 (by decide)), if_neg (show ¬ x1 = (3 : Int32) from ne 3 (by decide)), if_neg (show ¬ x1 = (4 : Int32) from ne 4 (by decide)), if_neg (show ¬ x1 = (5 : Int32) from ne 5 (by decide)), if_neg (show ¬ x1 = (6 : Int32) from ne 6 (by decide)), if_neg (show ¬ x1 = (7 : Int32) from ne 7 (by decide)), if_neg (show ¬ x1 = (8 : Int32) from ne 8 (by decide)), if_neg (show ¬ x1 = (9 : Int32) from ne 9 (by decide)), if_neg (show ¬ x1 = (10 : Int32) from ne 10 (by decide)), if_neg (show ¬ x1 = (11 : Int32) from ne 11 (by decide)), if_neg (show ¬ x1 = (12 : Int32) from ne 12 (by decide)), if_neg (show ¬ x1 = (13 : Int32) from ne 13 (by decide)), if_neg (show ¬ x1 = (14 : Int32) from ne 14 (by decide)), if_neg (show ¬ x1 = (15 : Int32) from ne 15 (by decide)), if_neg (show ¬ x1 = (16 : Int32) from ne 16 (by decide))]
      rfl
    · unfold sh_X5_count
      rw [if_neg (show ¬ x1 = (0 : Int32) from ne 0 (by decide)), if_neg (show ¬ x1 = (1 : Int32) from ne 1 (by decide)), if_neg (show ¬ x1 = (2 : Int32) from ne 2 (by decide)), if_neg (show ¬ x1 = (3 : Int32) from ne 3 (by decide)), if_neg (show ¬ x1 = (4 : Int32) from ne 4 (by decide)), if_neg (show ¬ x1 = (5 : Int32) from ne 5 (by decide)), if_neg (show ¬ x1 = (6 : Int32) from ne 6 (by decide))]
      show Option.bind (sh_X5_in (th h) x1.toInt64 (11 : Int64) (16 : Int64)) _ = _
      rw [m_in, if_neg (by
        rw [Int32.le_iff_toInt_le, nI_toInt (by decide)] at w
        rw [show (16 : Int64).toInt = 16 from by decide]
        omega)]
      rfl
  · rcases (by omega : j = 0 ∨ j = 1 ∨ j = 2 ∨ j = 3 ∨ j = 4 ∨ j = 5 ∨ j = 6 ∨ j = 7 ∨ j = 8 ∨ j = 9 ∨ j = 10 ∨ j = 11 ∨ j = 12 ∨ j = 13 ∨ j = 14 ∨ j = 15 ∨ j = 16) with rfl | rfl | rfl | rfl | rfl | rfl | rfl | rfl | rfl | rfl | rfl | rfl | rfl | rfl | rfl | rfl | rfl
    · refine key (nI (X.1 0 0)) ?_ ?_
      · show some (h.1 10 7) = _
        rw [hv.1]
      · show some ((th h).1 120 0, th h) = _
        rw [hm.1 0 (by decide)]
    · refine key (nI (X.1 0 1)) ?_ ?_
      · show some (h.1 10 8) = _
        rw [hv.2.1]
      · show some ((th h).1 120 1, th h) = _
        rw [hm.1 1 (by decide)]
    · refine key (nI (sumH X)) ?_ ?_
      · show Option.bind (sh_X3_sumOfHas h 10) _ = _
        rw [p_sumHas v10 hv hP]
        rfl
      · show Option.bind (sh_X5_all (th h) 120) _ = _
        rw [m_all hm hP]
        rfl
    · refine key (nI (sm (fun p => got X 0 p) (X.1 0 0))) ?_ ?_
      · show Option.bind (sh_X3_sumOfLying h 10) _ = _
        rw [p_sumLying v10 hv hP]
        rfl
      · show Option.bind (sh_X5_sum (th h) 120 (1 : Int32)) _ = _
        rw [m_sum1 hm g.1]
        rfl
    · refine key (nI (sm (fun p => gvn X p) (X.1 0 0))) ?_ ?_
      · show Option.bind (sh_X3_sumOfGiven h 10) _ = _
        rw [p_sumGiven v10 hv hP]
        rfl
      · show Option.bind (sh_X5_sum (th h) 120 (0 : Int32)) _ = _
        rw [m_sum0 hm g.1]
        rfl
    · refine key (nI L) ?_ ?_
      · show some (h.1 5 1) = _
        rw [e58]
      · show some ((th h).1 120 21, th h) = _
        rw [l3]
    · refine key (nI R) ?_ ?_
      · show some (h.1 0 8) = _
        rw [e08]
      · show some ((th h).1 120 34, th h) = _
        rw [r3]
    · exact key (-9) rfl rfl
    · exact key (-9) rfl rfl
    · exact key (-9) rfl rfl
    · exact key (-9) rfl rfl
    · refine key (h.1 9 1) ?_ ?_
      · show Option.bind (ldI h 9 (nI 1)) _ = _
        rw [ldI_n (a := 9) (by decide) (by decide)]
        rfl
      · unfold sh_X5_count
        rw [if_neg (show ¬ nI 11 = (0 : Int32) from by decide), if_neg (show ¬ nI 11 = (1 : Int32) from by decide), if_neg (show ¬ nI 11 = (2 : Int32) from by decide), if_neg (show ¬ nI 11 = (3 : Int32) from by decide), if_neg (show ¬ nI 11 = (4 : Int32) from by decide), if_neg (show ¬ nI 11 = (5 : Int32) from by decide), if_neg (show ¬ nI 11 = (6 : Int32) from by decide)]
        show Option.bind (sh_X5_in (th h) (nI 11).toInt64 (11 : Int64) (16 : Int64)) _ = _
        rw [m_in, if_pos (by decide), Option.bind_some, if_neg (by decide)]
        show Option.bind (ldI (th h) 127 (nI 1)) _ = _
        rw [ldI_n (a := 127) (by decide) (by decide), Option.bind_some, ← rr 1 (by decide), th_ne (by decide)]
        rfl
    · refine key (h.1 9 2) ?_ ?_
      · show Option.bind (ldI h 9 (nI 2)) _ = _
        rw [ldI_n (a := 9) (by decide) (by decide)]
        rfl
      · unfold sh_X5_count
        rw [if_neg (show ¬ nI 12 = (0 : Int32) from by decide), if_neg (show ¬ nI 12 = (1 : Int32) from by decide), if_neg (show ¬ nI 12 = (2 : Int32) from by decide), if_neg (show ¬ nI 12 = (3 : Int32) from by decide), if_neg (show ¬ nI 12 = (4 : Int32) from by decide), if_neg (show ¬ nI 12 = (5 : Int32) from by decide), if_neg (show ¬ nI 12 = (6 : Int32) from by decide)]
        show Option.bind (sh_X5_in (th h) (nI 12).toInt64 (11 : Int64) (16 : Int64)) _ = _
        rw [m_in, if_pos (by decide), Option.bind_some, if_neg (by decide)]
        show Option.bind (ldI (th h) 127 (nI 2)) _ = _
        rw [ldI_n (a := 127) (by decide) (by decide), Option.bind_some, ← rr 2 (by decide), th_ne (by decide)]
        rfl
    · refine key (h.1 9 3) ?_ ?_
      · show Option.bind (ldI h 9 (nI 3)) _ = _
        rw [ldI_n (a := 9) (by decide) (by decide)]
        rfl
      · unfold sh_X5_count
        rw [if_neg (show ¬ nI 13 = (0 : Int32) from by decide), if_neg (show ¬ nI 13 = (1 : Int32) from by decide), if_neg (show ¬ nI 13 = (2 : Int32) from by decide), if_neg (show ¬ nI 13 = (3 : Int32) from by decide), if_neg (show ¬ nI 13 = (4 : Int32) from by decide), if_neg (show ¬ nI 13 = (5 : Int32) from by decide), if_neg (show ¬ nI 13 = (6 : Int32) from by decide)]
        show Option.bind (sh_X5_in (th h) (nI 13).toInt64 (11 : Int64) (16 : Int64)) _ = _
        rw [m_in, if_pos (by decide), Option.bind_some, if_neg (by decide)]
        show Option.bind (ldI (th h) 127 (nI 3)) _ = _
        rw [ldI_n (a := 127) (by decide) (by decide), Option.bind_some, ← rr 3 (by decide), th_ne (by decide)]
        rfl
    · refine key (h.1 9 4) ?_ ?_
      · show Option.bind (ldI h 9 (nI 4)) _ = _
        rw [ldI_n (a := 9) (by decide) (by decide)]
        rfl
      · unfold sh_X5_count
        rw [if_neg (show ¬ nI 14 = (0 : Int32) from by decide), if_neg (show ¬ nI 14 = (1 : Int32) from by decide), if_neg (show ¬ nI 14 = (2 : Int32) from by decide), if_neg (show ¬ nI 14 = (3 : Int32) from by decide), if_neg (show ¬ nI 14 = (4 : Int32) from by decide), if_neg (show ¬ nI 14 = (5 : Int32) from by decide), if_neg (show ¬ nI 14 = (6 : Int32) from by decide)]
        show Option.bind (sh_X5_in (th h) (nI 14).toInt64 (11 : Int64) (16 : Int64)) _ = _
        rw [m_in, if_pos (by decide), Option.bind_some, if_neg (by decide)]
        show Option.bind (ldI (th h) 127 (nI 4)) _ = _
        rw [ldI_n (a := 127) (by decide) (by decide), Option.bind_some, ← rr 4 (by decide), th_ne (by decide)]
        rfl
    · refine key (h.1 9 5) ?_ ?_
      · show Option.bind (ldI h 9 (nI 5)) _ = _
        rw [ldI_n (a := 9) (by decide) (by decide)]
        rfl
      · unfold sh_X5_count
        rw [if_neg (show ¬ nI 15 = (0 : Int32) from by decide), if_neg (show ¬ nI 15 = (1 : Int32) from by decide), if_neg (show ¬ nI 15 = (2 : Int32) from by decide), if_neg (show ¬ nI 15 = (3 : Int32) from by decide), if_neg (show ¬ nI 15 = (4 : Int32) from by decide), if_neg (show ¬ nI 15 = (5 : Int32) from by decide), if_neg (show ¬ nI 15 = (6 : Int32) from by decide)]
        show Option.bind (sh_X5_in (th h) (nI 15).toInt64 (11 : Int64) (16 : Int64)) _ = _
        rw [m_in, if_pos (by decide), Option.bind_some, if_neg (by decide)]
        show Option.bind (ldI (th h) 127 (nI 5)) _ = _
        rw [ldI_n (a := 127) (by decide) (by decide), Option.bind_some, ← rr 5 (by decide), th_ne (by decide)]
        rfl
    · refine key (h.1 9 6) ?_ ?_
      · show Option.bind (ldI h 9 (nI 6)) _ = _
        rw [ldI_n (a := 9) (by decide) (by decide)]
        rfl
      · unfold sh_X5_count
        rw [if_neg (show ¬ nI 16 = (0 : Int32) from by decide), if_neg (show ¬ nI 16 = (1 : Int32) from by decide), if_neg (show ¬ nI 16 = (2 : Int32) from by decide), if_neg (show ¬ nI 16 = (3 : Int32) from by decide), if_neg (show ¬ nI 16 = (4 : Int32) from by decide), if_neg (show ¬ nI 16 = (5 : Int32) from by decide), if_neg (show ¬ nI 16 = (6 : Int32) from by decide)]
        show Option.bind (sh_X5_in (th h) (nI 16).toInt64 (11 : Int64) (16 : Int64)) _ = _
        rw [m_in, if_pos (by decide), Option.bind_some, if_neg (by decide)]
        show Option.bind (ldI (th h) 127 (nI 6)) _ = _
        rw [ldI_n (a := 127) (by decide) (by decide), Option.bind_some, ← rr 6 (by decide), th_ne (by decide)]
        rfl
end SE
