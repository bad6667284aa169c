/-! PURE: row, found, judge, image, restore, rest -/
section RO
variable {h h' h1 h2 : Hp} {k : Nat} {X Y : St}
-- letters and row anew, all else alike
def RLJ (c j : Nat) : Prop := (c = 5 ∧ j = 1) ∨ c = 6 ∨ (c = 120 ∧ j = 21) ∨ c = 130 ∨ (c = 0 ∧ j = 8) ∨ c = 8 ∨ (c = 120 ∧ j = 34) ∨ c = 135
set_option maxHeartbeats 400000 in
theorem Gi.rl (g : Gi k h X Y) (hL : LTR h') (hR : RWR h') (e : ∀ c j, ¬ Jn c j → ¬ RLJ c j → h'.1 c j = h.1 c j) (e2 : ∀ c j, c ≤ 31 → h'.2.1 c j = h.2.1 c j) : Gi k h' X Y := by
  obtain ⟨g1, g2, g3, g4, g5, g6, g7⟩ := g
  have e1 : ∀ c j, ¬ Jn c j ∧ ¬ RLJ c j → h'.1 c j = h.1 c j := fun c j q => e c j q.1 q.2
  refine ⟨g1, g2.same (fun c j h1 h2 => e1 c j (by unfold Jn RLJ; omega)) (fun j => e2 _ j (by omega)), g3.of2 (fun j hj => e1 120 j (by unfold Jn RLJ; omega)) (fun c j h1 h2 h3 => e1 c j (by unfold Jn RLJ; omega)) (fun j hj => e1 126 j (by unfold Jn RLJ; omega)), ?_, hL, hR, fun j hj => ?_⟩
  · rcases g4 with ⟨a, b⟩ | ⟨a, b, c, d, f⟩
    · exact Or.inl ⟨by rw [e1 0 9 (by unfold Jn RLJ; omega)]; exact a, by rw [e1 120 36 (by unfold Jn RLJ; omega)]; exact b⟩
    · exact Or.inr ⟨by rw [e1 0 9 (by unfold Jn RLJ; omega)]; exact a, by rw [e1 120 36 (by unfold Jn RLJ; omega)]; exact b, c, d.same (fun c j h1 h2 => e1 c j (by unfold Jn RLJ; omega)) (fun j => e2 _ j (by omega)), f.same (fun j => e1 136 j (by unfold Jn RLJ; omega)) (fun j => e1 137 j (by unfold Jn RLJ; omega))⟩
  · rw [e1 9 j (by unfold Jn RLJ; omega), e1 127 j (by unfold Jn RLJ; omega)]
    exact g7 j hj
set_option maxHeartbeats 400000 in
theorem a_row (x1 : Int32) : Same k (fun h => sh_X4_row h 0 x1) (fun h => sh_X5_row h 120 x1) := by
  intro h X Y g hk
  have g0 := g
  obtain ⟨R, r1, r2, r3, r4⟩ := g.2.2.2.2.2.1
  rcases pk_ix x1 (n := 10000) (by decide) with w | w | ⟨n, hn, rfl⟩
  · have w' : ¬ 0 ≤ x1 := by
      rw [Int32.lt_iff_toInt_lt] at w
      rw [Int32.le_iff_toInt_le]
      omega
    refine s_ref g hk (r := -4) (by unfold isR; simp) ?_ (fun h1 _ _ m => ?_)
    · show sh_X4_row h 0 x1 = _
      unfold sh_X4_row
      rw [if_neg w']
    · show sh_X5_row h1 120 x1 = _
      unfold sh_X5_row
      rw [if_neg w']
      rfl
  · have w1 : (0 : Int32) ≤ x1 := by
      rw [Int32.le_iff_toInt_le, nI_toInt (by decide)] at w
      rw [Int32.le_iff_toInt_le, show (0 : Int32).toInt = 0 from by decide]
      omega
    have w2 : (9999 : Int32) < x1 := by
      rw [Int32.le_iff_toInt_le, nI_toInt (by decide)] at w
      rw [Int32.lt_iff_toInt_lt, show (9999 : Int32).toInt = 9999 from by decide]
      omega
    refine s_ref g hk (r := -6) (by unfold isR; simp) ?_ (fun h1 _ _ m => ?_)
    · show sh_X4_row h 0 x1 = _
      unfold sh_X4_row
      rw [if_pos w1, if_pos w2]
      rfl
    · show sh_X5_row h1 120 x1 = _
      unfold sh_X5_row
      rw [if_pos w1, if_pos w2]
      rfl
  · have w1 : (0 : Int32) ≤ nI n := nI_pos' (by omega)
    have w2 : ¬ (9999 : Int32) < nI n := by rw [L9999]; exact nI_nlt (by omega) (by omega)
    by_cases z : R = 12
    · refine s_ref g hk (r := -6) (by unfold isR; simp) ?_ (fun h1 q _ m => ?_)
      · show sh_X4_row h 0 (nI n) = _
        unfold sh_X4_row
        rw [if_pos w1, if_neg w2, r2, z, if_neg (show ¬ nI 12 < Int32.ofNat (len (rf 0 6)) from by decide)]
        rfl
      · show sh_X5_row h1 120 (nI n) = _
        unfold sh_X5_row
        rw [if_pos w1, if_neg w2]
        show (if (th h1).1 120 34 = (12 : Int32) then _ else _) = _
        rw [th_ne (by omega), q 120 34 (by omega), r3, z, if_pos (show nI 12 = (12 : Int32) from rfl)]
        rfl
    · refine ⟨nI (R + 1), wI (wI h 8 R (nI n)) 0 8 (nI (R + 1)), wI (wI (th (wI (wI h 8 R (nI n)) 0 8 (nI (R + 1)))) 135 R (nI n)) 120 34 (nI (R + 1)), ?_, ?_, ?_⟩
      · show sh_X4_row h 0 (nI n) = _
        unfold sh_X4_row
        rw [if_pos w1, if_neg w2, r2, if_pos (show nI R < Int32.ofNat (len (rf 0 6)) from nI_lt (b := 12) (by omega) (by omega)), xf6, stI_n (a := 8) (show R < len 8 from by show R < 12; omega) (by omega), Option.bind_some, rdI, if_pos ⟨rfl, rfl⟩, rdI, if_neg (by omega), r2, L1, nI_add]
      · show sh_X5_row _ 120 (nI n) = _
        unfold sh_X5_row
        rw [if_pos w1, if_neg w2]
        generalize hh : wI (wI h 8 R (nI n)) 0 8 (nI (R + 1)) = h1
        have e34 : (th h1).1 120 34 = nI R := by rw [th_ne (by omega), ← hh, rdI, if_neg (by omega), rdI, if_neg (by omega), r3]
        show (if (th h1).1 120 34 = (12 : Int32) then _ else Option.bind (stI (th h1) (rf 120 33) ((th h1).1 120 34) (nI n)) _) = _
        rw [e34, if_neg (show ¬ nI R = (12 : Int32) from by rw [L12, nI_eq (by omega) (by omega)]; exact z), mf33, stI_n (a := 135) (show R < len 135 from by show R < 12; omega) (by omega), Option.bind_some, rdI, if_pos ⟨rfl, rfl⟩, rdI, if_neg (by omega), e34, L1, nI_add]
      · obtain ⟨L, l1, l2, l3, l4⟩ := g.2.2.2.2.1
        have ee : ∀ c j, (wI (wI (th (wI (wI h 8 R (nI n)) 0 8 (nI (R + 1)))) 135 R (nI n)) 120 34 (nI (R + 1))).1 c j = if c = 120 ∧ j = 34 then nI (R + 1) else if c = 135 ∧ j = R then nI n else if c = 120 ∧ j = 13 then 0 else if c = 0 ∧ j = 8 then nI (R + 1) else if c = 8 ∧ j = R then nI n else h.1 c j := fun c j => by
          rw [rdI, rdI]
          unfold th
          rw [rdI, rdI, rdI]
        refine ⟨X, Y, Gi.mono (k := k) ?_ (by omega) (by omega)⟩
        refine g.rl ?_ ?_ (fun c j q1 q2 => ?_) (fun c j _ => rfl)
        · refine ⟨L, l1, ?_, ?_, fun j hj => ?_⟩
          · rw [ee, if_neg (by omega), if_neg (by omega), if_neg (by omega), if_neg (by omega), if_neg (by omega), l2]
          · rw [ee, if_neg (by omega), if_neg (by omega), if_neg (by omega), if_neg (by omega), if_neg (by omega), l3]
          · rw [ee, if_neg (by omega), if_neg (by omega), if_neg (by omega), if_neg (by omega), if_neg (by omega), ee, if_neg (by omega), if_neg (by omega), if_neg (by omega), if_neg (by omega), if_neg (by omega)]
            exact l4 j hj
        · refine ⟨R + 1, by omega, ?_, ?_, fun j hj => ?_⟩
          · rw [ee, if_neg (by omega), if_neg (by omega), if_neg (by omega), if_pos ⟨rfl, rfl⟩]
          · rw [ee, if_pos ⟨rfl, rfl⟩]
          · by_cases y : j = R
            · refine ⟨n, by omega, ?_, ?_⟩
              · rw [ee, if_neg (by omega), if_neg (by omega), if_neg (by omega), if_neg (by omega), if_pos ⟨rfl, y⟩]
              · rw [ee, if_neg (by omega), if_pos ⟨rfl, y⟩]
            · obtain ⟨v, v1, v2, v3⟩ := r4 j (by omega)
              refine ⟨v, v1, ?_, ?_⟩
              · rw [ee, if_neg (by omega), if_neg (by omega), if_neg (by omega), if_neg (by omega), if_neg (by omega), v2]
              · rw [ee, if_neg (by omega), if_neg (by omega), if_neg (by omega), if_neg (by omega), if_neg (by omega), v3]
        · unfold Jn at q1
          unfold RLJ at q2
          rw [ee, if_neg (by omega), if_neg (by omega), if_neg (by omega), if_neg (by omega), if_neg (by omega)]
-- the book
def bk (X : St) (p m : Nat) (v : Nat → Nat) : Nat → Nat → Int32
  | 0, _ => -9
  | f + 1, i => if (itD X (i + 1)).1 4 p < v i ∨ (m ≠ 0 ∧ v i ≠ (itD X (i + 1)).1 4 p) then nI i else bk X p m v f (i + 1)
set_option maxHeartbeats 400000 in
theorem m9 {i : Nat} (hi : i < 2 ^ 31) : ¬ nI i = (-9 : Int32) := fun z => by
  have := nI_pos hi
  rw [z] at this
  exact this (by decide)
set_option maxHeartbeats 400000 in
theorem c_bk17 (hI : Iv k X) {p m R : Nat} {v : Nat → Nat} (hp : p < 6) (hm : m ≤ 1) (hR : R ≤ 12) (hv9 : ∀ j, j < R → v j ≤ 9999) (hk : k ≤ 900) : ∀ (f i fuel : Nat) (h : Hp), f + i = R → f + 1 < fuel → VR h 32 (itD X i) → h.1 0 8 = nI R → (∀ j, j < R → h.1 8 j = nI (v j)) → ∃ h', b_X4_lookAtBook_17 fuel h 0 (nI p) (nI m) (-9 : Int32) (nI i) = some (bk X p m v f i, wI h' 0 8 (nI 0)) ∧ VF 32 h h'
  | f, i, 0, h, e, hf, hv, h8, hr => by omega
  | 0, i, fuel + 1, h, e, hf, hv, h8, hr => by
    refine ⟨h, ?_, VF.rf _ _⟩
    show f_X4_lookAtBook_17 (b_X4_lookAtBook_17 fuel) h 0 (nI p) (nI m) (-9 : Int32) (nI i) = _
    unfold f_X4_lookAtBook_17
    rw [h8, if_pos (nI_le (by omega) (by omega))]
    rfl
  | f + 1, i, 1, h, e, hf, hv, h8, hr => by omega
  | f + 1, i, fuel + 2, h, e, hf, hv, h8, hr => by
    have hi9 := hv9 i (by omega)
    have hh := ((Iv_itD hI (i + 1) (by omega)).2.2.2.2.2.2.2.2.1 p hp).2.2.1
    obtain ⟨h1, e1, e2, e3⟩ := p_passDay v32 hv (Iv_itD hI i (by omega)) (by omega)
    have e2' : VR h1 32 (itD X (i + 1)) := e2
    have h8' : h1.1 0 8 = nI R := by rw [e3.1 0 8 (by omega), h8]
    have hr' : ∀ j, j < R → h1.1 8 j = nI (v j) := fun j hj => by rw [e3.1 8 j (by omega), hr j hj]
    have l8 : ldI h1 8 (nI i) = some (nI (v i)) := by rw [ldI_n (a := 8) (show i < 12 from by omega) (by omega), hr' i (by omega)]
    have fin : b_X4_lookAtBook_79 (b_X4_lookAtBook_17 (fuel + 1)) h1 0 (nI p) (nI m) (nI i) = some (nI i, wI h1 0 8 (nI 0)) := by
      show f_X4_lookAtBook_17 (b_X4_lookAtBook_17 fuel) h1 0 (nI p) (nI m) (nI i) (nI i + (1 : Int32)) = _
      unfold f_X4_lookAtBook_17
      rw [if_neg (m9 (by omega)), ite_self]
      rfl
    have go : ∀ r, b_X4_lookAtBook_17 (fuel + 1) h1 0 (nI p) (nI m) (-9 : Int32) (nI (i + 1)) = r → b_X4_lookAtBook_82 (b_X4_lookAtBook_17 (fuel + 1)) h1 0 (nI p) (nI m) (-9 : Int32) (nI i) = r := fun r e => by
      show b_X4_lookAtBook_17 (fuel + 1) h1 0 (nI p) (nI m) (-9 : Int32) (nI i + (1 : Int32)) = _
      rw [L1, nI_add]
      exact e
    obtain ⟨h2, k1, k2⟩ := c_bk17 hI hp hm hR hv9 hk f (i + 1) (fuel + 1) h1 (by omega) (by omega) e2' h8' hr'
    have st : b_X4_lookAtBook_17 (fuel + 2) h 0 (nI p) (nI m) (-9 : Int32) (nI i) = if nI ((itD X (i + 1)).1 4 p) < nI (v i) then b_X4_lookAtBook_79 (b_X4_lookAtBook_17 (fuel + 1)) h1 0 (nI p) (nI m) (nI i) else if nI m = 0 then b_X4_lookAtBook_82 (b_X4_lookAtBook_17 (fuel + 1)) h1 0 (nI p) (nI m) (-9 : Int32) (nI i) else if nI (v i) = nI ((itD X (i + 1)).1 4 p) then b_X4_lookAtBook_82 (b_X4_lookAtBook_17 (fuel + 1)) h1 0 (nI p) (nI m) (-9 : Int32) (nI i) else b_X4_lookAtBook_79 (b_X4_lookAtBook_17 (fuel + 1)) h1 0 (nI p) (nI m) (nI i) := by
      show f_X4_lookAtBook_17 (b_X4_lookAtBook_17 (fuel + 1)) h 0 (nI p) (nI m) (-9 : Int32) (nI i) = _
      unfold f_X4_lookAtBook_17
      rw [h8, if_neg (nI_ge (by omega) (by omega)), if_pos rfl, xf2, e1, Option.bind_some, ld_has v32 e2' hp, Option.bind_some, xf6, l8, Option.bind_some, Option.bind_some]
    rw [st]
    unfold bk
    by_cases w1 : (itD X (i + 1)).1 4 p < v i
    · rw [if_pos (nI_lt w1 (by omega)), if_pos (Or.inl w1)]
      exact ⟨h1, fin, e3⟩
    · rw [if_neg (show ¬ nI ((itD X (i + 1)).1 4 p) < nI (v i) from nI_nlt (by omega) (by omega))]
      by_cases w2 : m = 0
      · rw [if_pos (show nI m = 0 from by rw [w2]; rfl), if_neg (by omega)]
        exact ⟨h2, go _ k1, e3.tr k2⟩
      · rw [if_neg (show ¬ nI m = 0 from nI_ne0 (by omega) (by omega))]
        by_cases w3 : v i = (itD X (i + 1)).1 4 p
        · rw [if_pos (show nI (v i) = nI ((itD X (i + 1)).1 4 p) from by rw [w3]), if_neg (by omega)]
          exact ⟨h2, go _ k1, e3.tr k2⟩
        · rw [if_neg (show ¬ nI (v i) = nI ((itD X (i + 1)).1 4 p) from by rw [nI_eq (by omega) (by omega)]; exact w3), if_pos (Or.inr ⟨w2, w3⟩)]
          exact ⟨h1, fin, e3⟩
set_option maxHeartbeats 400000 in
theorem m_bk21 (hI : Iv k X) {p m R : Nat} {v : Nat → Nat} (hp : p < 6) (hm : m ≤ 1) (hR : R ≤ 12) (hv9 : ∀ j, j < R → v j ≤ 9999) (hk : k ≤ 900) (h0 : Hp) {g0 : Hp} (hc : ∀ h2, MF h0 h2 → ∃ h3, sh_X5_close h2 120 = some h3 ∧ Eq1 g0 h3) : ∀ (f i fuel : Nat) (h : Hp), f + i = R → f + 1 < fuel → MR h (itD X i) → MF h0 h → (∀ j, j < R → h.1 135 j = nI (v j)) → ∃ h', b_X5_bookOf_21 fuel h 120 (nI p) (nI m) (nI R) (-9 : Int32) (nI i) = some (bk X p m v f i, h') ∧ Eq1 g0 h'
  | f, i, 0, h, e, hf, hv, h8, hr => by omega
  | 0, i, fuel + 1, h, e, hf, hv, h8, hr => by
    obtain ⟨h3, c1, c2⟩ := hc h h8
    refine ⟨h3, ?_, c2⟩
    show f_X5_bookOf_21 (b_X5_bookOf_21 fuel) h 120 (nI p) (nI m) (nI R) (-9 : Int32) (nI i) = _
    unfold f_X5_bookOf_21 b_X5_bookOf_87
    rw [if_pos (nI_le (by omega) (by omega)), c1]
    rfl
  | f + 1, i, 1, h, e, hf, hv, h8, hr => by omega
  | f + 1, i, fuel + 2, h, e, hf, hv, h8, hr => by
    have hi9 := hv9 i (by omega)
    have hh := ((Iv_itD hI (i + 1) (by omega)).2.2.2.2.2.2.2.2.1 p hp).2.2.1
    obtain ⟨h1, e1, e2, e3, _⟩ := m_dayOn hv (Iv_itD hI i (by omega)) (by omega)
    have e2' : MR h1 (itD X (i + 1)) := e2
    have hr' : ∀ j, j < R → h1.1 135 j = nI (v j) := fun j hj => by rw [e3.1 135 j (by unfold DJ; omega), hr j hj]
    have l8 : ldI h1 (rf 120 33) (nI i) = some (nI (v i)) := by rw [mf33, ldI_n (a := 135) (show i < 12 from by omega) (by omega), hr' i (by omega)]
    obtain ⟨h3, c1, c2⟩ := hc h1 (h8.tr e3.mf)
    have fin : b_X5_bookOf_72 (b_X5_bookOf_21 (fuel + 1)) h1 120 (nI p) (nI m) (nI R) (nI i) = some (nI i, h3) := by
      show f_X5_bookOf_21 (b_X5_bookOf_21 fuel) h1 120 (nI p) (nI m) (nI R) (nI i) (nI i + (1 : Int32)) = _
      unfold f_X5_bookOf_21 b_X5_bookOf_87
      rw [if_pos (show (0 : Int32) ≤ nI i from nI_pos' (by omega)), ite_self, c1]
      rfl
    have go : ∀ r, b_X5_bookOf_21 (fuel + 1) h1 120 (nI p) (nI m) (nI R) (-9 : Int32) (nI (i + 1)) = r → b_X5_bookOf_77 (b_X5_bookOf_21 (fuel + 1)) h1 120 (nI p) (nI m) (nI R) (nI i) = r := fun r e => by
      show b_X5_bookOf_21 (fuel + 1) h1 120 (nI p) (nI m) (nI R) (-9 : Int32) (nI i + (1 : Int32)) = _
      rw [L1, nI_add]
      exact e
    obtain ⟨h2, k1, k2⟩ := m_bk21 hI hp hm hR hv9 hk h0 hc f (i + 1) (fuel + 1) h1 (by omega) (by omega) e2' (h8.tr e3.mf) hr'
    have st : b_X5_bookOf_21 (fuel + 2) h 120 (nI p) (nI m) (nI R) (-9 : Int32) (nI i) = if nI ((itD X (i + 1)).1 4 p) < nI (v i) then b_X5_bookOf_72 (b_X5_bookOf_21 (fuel + 1)) h1 120 (nI p) (nI m) (nI R) (nI i) else if nI m = 0 then b_X5_bookOf_77 (b_X5_bookOf_21 (fuel + 1)) h1 120 (nI p) (nI m) (nI R) (nI i) else if nI (v i) = nI ((itD X (i + 1)).1 4 p) then b_X5_bookOf_77 (b_X5_bookOf_21 (fuel + 1)) h1 120 (nI p) (nI m) (nI R) (nI i) else b_X5_bookOf_72 (b_X5_bookOf_21 (fuel + 1)) h1 120 (nI p) (nI m) (nI R) (nI i) := by
      show f_X5_bookOf_21 (b_X5_bookOf_21 (fuel + 1)) h 120 (nI p) (nI m) (nI R) (-9 : Int32) (nI i) = _
      unfold f_X5_bookOf_21
      rw [if_neg (nI_ge (by omega) (by omega)), if_neg (show ¬ (0 : Int32) ≤ -9 from by decide), e1, Option.bind_some, l8, Option.bind_some, md_has e2' hp, Option.bind_some, Option.bind_some, Option.bind_some]
    rw [st]
    unfold bk
    by_cases w1 : (itD X (i + 1)).1 4 p < v i
    · rw [if_pos (nI_lt w1 (by omega)), if_pos (Or.inl w1)]
      exact ⟨h3, fin, c2⟩
    · rw [if_neg (show ¬ nI ((itD X (i + 1)).1 4 p) < nI (v i) from nI_nlt (by omega) (by omega))]
      by_cases w2 : m = 0
      · rw [if_pos (show nI m = 0 from by rw [w2]; rfl), if_neg (by omega)]
        exact ⟨h2, go _ k1, k2⟩
      · rw [if_neg (show ¬ nI m = 0 from nI_ne0 (by omega) (by omega))]
        by_cases w3 : v i = (itD X (i + 1)).1 4 p
        · rw [if_pos (show nI (v i) = nI ((itD X (i + 1)).1 4 p) from by rw [w3]), if_neg (by omega)]
          exact ⟨h2, go _ k1, k2⟩
        · rw [if_neg (show ¬ nI (v i) = nI ((itD X (i + 1)).1 4 p) from by rw [nI_eq (by omega) (by omega)]; exact w3), if_pos (Or.inr ⟨w2, w3⟩)]
          exact ⟨h3, fin, c2⟩
set_option maxHeartbeats 400000 in
theorem book2 (g : Gi k h X Y) (hk : k ≤ 900) {p m : Nat} (hp : p < X.1 0 0) (hm : m ≤ 1) : ∃ r h1 h2, sh_X4_lookAtBook h 0 (nI p) (nI m) = some (r, h1) ∧ MR (th h1) X ∧ sh_X5_bookOf (th h1) 120 (nI p) (nI m) = some (r, h2) ∧ Fin k h2 := by
  have hP := g.P
  obtain ⟨R, r1, r2, r3, r4⟩ := g.2.2.2.2.2.1
  obtain ⟨L, l1, l2, l3, l4⟩ := g.2.2.2.2.1
  have hv : ∃ v : Nat → Nat, ∀ j, j < R → v j ≤ 9999 ∧ h.1 8 j = nI (v j) ∧ h.1 135 j = nI (v j) :=
    ⟨fun j => (h.1 8 j).toInt.toNat, fun j hj => by
      obtain ⟨v, v1, v2, v3⟩ := r4 j hj
      have : (h.1 8 j).toInt.toNat = v := by rw [v2, nI_toInt (by omega)]; omega
      show (h.1 8 j).toInt.toNat ≤ 9999 ∧ _ = nI (h.1 8 j).toInt.toNat ∧ _ = nI (h.1 8 j).toInt.toNat
      rw [this]
      exact ⟨v1, v2, v3⟩⟩
  obtain ⟨v, hv⟩ := hv
  obtain ⟨h0, a1, a2, a3⟩ := c_mind g
  have q8 : h0.1 0 8 = nI R := by rw [a3.1 0 8 (by unfold Jn; omega), r2]
  have q8' : ∀ j, j < R → h0.1 8 j = nI (v j) := fun j hj => by rw [a3.1 8 j (by unfold Jn; omega), (hv j hj).2.1]
  obtain ⟨hA, f1, f2⟩ := c_bk17 g.1 (p := p) (m := m) (v := v) (by omega) hm r1 (fun j hj => (hv j hj).1) hk R 0 1000 h0 rfl (by omega) a2 q8 q8'
  have f3 : Eq1 h hA := a3.tr (Eq1.vf f2 (by decide) (by decide))
  have gA := g.eq f3
  generalize hB : wI hA 0 8 (nI 0) = h1
  have eB : ∀ c j, h1.1 c j = if c = 0 ∧ j = 8 then nI 0 else hA.1 c j := fun c j => by rw [← hB, rdI]
  have mT : MR (th h1) X := gA.2.2.1.of (fun j hj => by rw [th_ne (by omega), eB, if_neg (by omega)]) (fun c j z1 z2 => by rw [th_ne (by omega), eB, if_neg (by omega)])
  generalize hC : wI (th h1) 120 34 (nI 0) = hc
  have eC : ∀ c j, hc.1 c j = if c = 120 ∧ j = 34 then nI 0 else if c = 120 ∧ j = 13 then 0 else if c = 0 ∧ j = 8 then nI 0 else hA.1 c j := fun c j => by
    rw [← hC, rdI]
    unfold th
    rw [rdI, eB]
  have mC : MR hc X := gA.2.2.1.of (fun j hj => by rw [eC, if_neg (by omega), if_neg (by omega), if_neg (by omega)]) (fun c j z1 z2 => by rw [eC, if_neg (by omega), if_neg (by omega), if_neg (by omega)])
  obtain ⟨h2, o1, t, o2⟩ := m_open mC
  have o3 : ∀ h3, MF h2 h3 → ∃ h4, sh_X5_close h3 120 = some h4 ∧ Eq1 hc h4 := fun h3 f => m_close t f
  have q9 : ∀ j, j < R → h2.1 135 j = nI (v j) := fun j hj => by
    rw [t.1, if_neg (by omega), if_neg (by omega), if_neg (by omega), eC, if_neg (by omega), if_neg (by omega), if_neg (by omega), f3.1 135 j (by unfold Jn; omega), (hv j hj).2.2]
  obtain ⟨h4, c1, c2⟩ := m_bk21 g.1 (p := p) (m := m) (v := v) (by omega) hm r1 (fun j hj => (hv j hj).1) hk h2 o3 R 0 1000 h2 rfl (by omega) o2 (MF.rf h2) q9
  refine ⟨bk X p m v R 0, h1, h4, ?_, mT, ?_, X, Y, (((gA.rl (h' := hc) ?_ ?_ (fun c j z1 z2 => ?_) (fun c j _ => by rw [← hC, ← hB]; rfl)).eq c2).mono (by omega) (by omega))⟩
  · unfold sh_X4_lookAtBook
    rw [xf2, xf0, a1, Option.bind_some, ← hB]
    exact f1
  · unfold sh_X5_bookOf
    show Option.bind (sh_X5_open (wI (th h1) 120 34 (nI 0)) 120) _ = _
    have e34 : (th h1).1 120 34 = nI R := by rw [th_ne (by omega), eB, if_neg (by omega), f3.1 120 34 (by unfold Jn; omega), r3]
    rw [hC, o1, Option.bind_some, e34]
    exact c1
  · refine ⟨L, l1, ?_, ?_, fun j hj => ?_⟩
    · rw [eC, if_neg (by omega), if_neg (by omega), if_neg (by omega), f3.1 5 1 (by unfold Jn; omega), l2]
    · rw [eC, if_neg (by omega), if_neg (by omega), if_neg (by omega), f3.1 120 21 (by unfold Jn; omega), l3]
    · rw [eC, if_neg (by omega), if_neg (by omega), if_neg (by omega), eC, if_neg (by omega), if_neg (by omega), if_neg (by omega), f3.1 6 j (by unfold Jn; omega), f3.1 130 j (by unfold Jn; omega)]
      exact l4 j hj
  · refine ⟨0, by omega, ?_, ?_, fun j hj => by omega⟩
    · rw [eC, if_neg (by omega), if_neg (by omega), if_pos ⟨rfl, rfl⟩]
    · rw [eC, if_pos ⟨rfl, rfl⟩]
  · unfold Jn at z1
    unfold RLJ at z2
    rw [eC, if_neg (by omega), if_neg (by omega), if_neg (by omega)]
set_option maxHeartbeats 400000 in
theorem a_found (x1 : Int32) : Same k (fun h => sh_X4_found h 0 x1) (fun h => sh_X5_found h 120 x1) := by
  intro h X Y g hk
  have hP := g.P
  rcases p_exists g.2.1 g.P x1 with ⟨p, hp, rfl, e1⟩ | ⟨hn, e1⟩
  · obtain ⟨r, h1, h2, b1, b2, b3, b4⟩ := book2 g hk (m := 0) hp (by omega)
    refine ⟨r, h1, h2, ?_, ?_, b4⟩
    · show Option.bind (sh_X3_exists h 10 (nI p)) _ = _
      rw [e1, Option.bind_some, if_neg (by decide), L0, b1]
      rfl
    · show Option.bind (sh_X5_isOne (th h1) 120 (nI p)) _ = _
      rw [one_p hP hp b2, Option.bind_some, if_neg (by decide)]
      show Option.bind (sh_X5_bookOf (th h1) 120 (nI p) (nI 0)) _ = _
      rw [b3]
      rfl
  · refine s_ref g hk (r := -1) (Or.inl rfl) ?_ (fun h2 _ _ m => ?_)
    · show Option.bind (sh_X3_exists h 10 x1) _ = _
      rw [e1, Option.bind_some, if_pos (by decide)]
    · show Option.bind (sh_X5_isOne (th h2) 120 x1) _ = _
      rw [one_n hP hn m, Option.bind_some, if_pos (by decide)]
      rfl
set_option maxHeartbeats 400000 in
theorem a_judge (x1 : Int32) : Same k (fun h => sh_X4_judge h 0 x1) (fun h => sh_X5_judge h 120 x1) := by
  intro h X Y g hk
  have hP := g.P
  rcases p_exists g.2.1 g.P x1 with ⟨p, hp, rfl, e1⟩ | ⟨hn, e1⟩
  · obtain ⟨r, h1, h2, b1, b2, b3, b4⟩ := book2 g hk (m := 1) hp (by omega)
    refine ⟨r, h1, h2, ?_, ?_, b4⟩
    · show Option.bind (sh_X3_exists h 10 (nI p)) _ = _
      rw [e1, Option.bind_some, if_neg (by decide), L1, b1]
      rfl
    · show Option.bind (sh_X5_isOne (th h1) 120 (nI p)) _ = _
      rw [one_p hP hp b2, Option.bind_some, if_neg (by decide)]
      show Option.bind (sh_X5_bookOf (th h1) 120 (nI p) (nI 1)) _ = _
      rw [b3]
      rfl
  · refine s_ref g hk (r := -1) (Or.inl rfl) ?_ (fun h2 _ _ m => ?_)
    · show Option.bind (sh_X3_exists h 10 x1) _ = _
      rw [e1, Option.bind_some, if_pos (by decide)]
    · show Option.bind (sh_X5_isOne (th h2) 120 x1) _ = _
      rw [one_n hP hn m, Option.bind_some, if_pos (by decide)]
      rfl
end RO
