/-! PURE: person, put, set, rest -/
section PE
variable {h h' h1 h2 : Hp} {k : Nat} {X Y : St}
set_option maxHeartbeats 400000 in
theorem m_in0 (x : Int32) {n : Nat} (hn : n < 1000) {hi : Int64} (e : hi.toInt = (n : Int) - 1) : (∃ j, j < n ∧ x = nI j ∧ ∀ h, sh_X5_in h x.toInt64 (0 : Int64) hi = some (nI 1)) ∨ ((x < 0 ∨ nI n ≤ x) ∧ ∀ h, sh_X5_in h x.toInt64 (0 : Int64) hi = some (nI 0)) := by
  have e0 : (0 : Int64).toInt = 0 := by decide
  have z0 : (0 : Int32).toInt = 0 := by decide
  rcases pk_ix x (n := n) (by omega) with w | w | ⟨j, hj, rfl⟩
  · refine Or.inr ⟨Or.inl w, fun h => ?_⟩
    rw [Int32.lt_iff_toInt_lt, z0] at w
    rw [m_in, e0, if_neg (by omega)]
  · refine Or.inr ⟨Or.inr w, fun h => ?_⟩
    rw [Int32.le_iff_toInt_le, nI_toInt (by omega)] at w
    rw [m_in, e0, e, if_neg (by omega)]
  · refine Or.inl ⟨j, hj, rfl, fun h => ?_⟩
    rw [m_in, e0, e, nI_toInt (by omega), if_pos (by omega)]
set_option maxHeartbeats 400000 in
theorem ch_no {x : Int32} {n : Nat} (hn : n < 1000) (w : x < 0 ∨ nI n ≤ x) {j : Nat} (hj : j < n) : ¬ x = nI j := by
  rintro rfl
  rcases w with w | w
  · exact nI_pos (by omega) w
  · rw [nI_leI (by omega) (by omega)] at w
    omega
def pv (X : St) (p : Nat) : Nat → Nat
  | 0 => X.1 1 p
  | 1 => X.1 2 p
  | 2 => X.1 3 p
  | 3 => X.1 4 p
  | 4 => X.1 5 p
  | 5 => got X 0 p
  | 6 => lev X p
  | 7 => gvn X p
  | _ => cnt X 1 p
set_option maxHeartbeats 400000 in
theorem a_person (x1 x2 : Int32) : Same k (fun h => sh_X4_person h 0 x1 x2) (fun h => sh_X5_person h 120 x1 x2) := by
  intro h X Y g hk
  have hP := g.P
  rcases p_exists g.2.1 g.P x1 with ⟨p, hp, rfl, e1⟩ | ⟨hn, e1⟩
  · rcases m_in0 x2 (n := 9) (hi := 8) (by decide) (by decide) with ⟨j, hj, rfl, e2⟩ | ⟨w, e2⟩
    · have g1 := g.th
      have hm := g1.2.2.1
      have hv := g.2.1
      have q0 : (th h).1 120 1 = nI (X.1 0 1) - nI 0 := by rw [hm.1 1 (by decide), ← ago_0]
      have q1 : (th h).1 120 1 - (1 : Int32) = nI (X.1 0 1) - nI 1 := by rw [hm.1 1 (by decide), L1]
      have m5 : sh_X5_got (th h) 120 ((th h).1 120 1) (nI p) = some (nI (got X 0 p)) := by rw [q0]; exact m_got hm g.1 (by omega) (by omega)
      have m7 : sh_X5_given (th h) 120 ((th h).1 120 1) (nI p) = some (nI (gvn X p)) := by rw [hm.1 1 (by decide)]; exact m_given hm g.1 (by omega)
      have m8 : sh_X5_counted (th h) 120 ((th h).1 120 1 - (1 : Int32)) (nI p) = some (nI (cnt X 1 p)) := by rw [q1]; exact m_counted hm g.1 (by omega) (by omega)
      refine s_ok g hk (r := nI (pv X p j)) (h1 := h) (h2 := th h) ?_ (Eq1.rf h) ?_ (Eq1.rf _)
      · show Option.bind (sh_X3_exists h 10 (nI p)) _ = _
        rw [e1, Option.bind_some, if_neg (by decide), xf0, ld_kind v10 hv (by omega), ld_fig v10 hv (by omega), ld_to v10 hv (by omega), ld_has v10 hv (by omega), ld_finds v10 hv (by omega), p_gotT v10 hv (by omega), p_leave v10 hv g.1 (by omega), p_given v10 hv (by omega), p_cntY v10 hv (by omega)]
        rcases (by omega : j = 0 ∨ j = 1 ∨ j = 2 ∨ j = 3 ∨ j = 4 ∨ j = 5 ∨ j = 6 ∨ j = 7 ∨ j = 8) with rfl | rfl | rfl | rfl | rfl | rfl | rfl | rfl | rfl <;> rfl
      · show Option.bind (sh_X5_isOne (th h) 120 (nI p)) _ = _
        rw [one_p hP hp hm, Option.bind_some, if_neg (by decide)]
        show Option.bind (sh_X5_in (th h) (nI j).toInt64 (0 : Int64) (8 : Int64)) _ = _
        rw [e2 (th h), Option.bind_some, if_neg (by decide)]
        rcases (by omega : j = 0 ∨ j = 1 ∨ j = 2 ∨ j = 3 ∨ j = 4 ∨ j = 5 ∨ j = 6 ∨ j = 7 ∨ j = 8) with rfl | rfl | rfl | rfl | rfl | rfl | rfl | rfl | rfl
        · show Option.bind (ldI (th h) (rf 120 6) (nI p)) _ = _
          rw [md_kind hm (by omega)]; rfl
        · show Option.bind (ldI (th h) (rf 120 7) (nI p)) _ = _
          rw [md_fig hm (by omega)]; rfl
        · show Option.bind (ldI (th h) (rf 120 9) (nI p)) _ = _
          rw [md_to hm (by omega)]; rfl
        · show Option.bind (ldI (th h) (rf 120 10) (nI p)) _ = _
          rw [md_has hm (by omega)]; rfl
        · show Option.bind (ldI (th h) (rf 120 8) (nI p)) _ = _
          rw [md_finds hm (by omega)]; rfl
        · show Option.bind (sh_X5_got (th h) 120 ((th h).1 120 1) (nI p)) _ = _
          rw [m5]; rfl
        · show Option.bind (sh_X5_leave (th h) 120 (nI p)) _ = _
          rw [m_leave hm g.1 (by omega)]; rfl
        · show Option.bind (sh_X5_given (th h) 120 ((th h).1 120 1) (nI p)) _ = _
          rw [m7]; rfl
        · show Option.bind (sh_X5_counted (th h) 120 ((th h).1 120 1 - (1 : Int32)) (nI p)) _ = _
          rw [m8]; rfl
    · refine s_ref g hk (r := -2) (Or.inr (Or.inl rfl)) ?_ (fun h2 _ _ m => ?_)
      · show Option.bind (sh_X3_exists h 10 (nI p)) _ = _
        rw [e1, Option.bind_some, if_neg (by decide), if_neg (show ¬ x2 = (0 : Int32) from ch_no (by decide) w (j := 0) (by decide)), if_neg (show ¬ x2 = (1 : Int32) from ch_no (by decide) w (j := 1) (by decide)), if_neg (show ¬ x2 = (2 : Int32) from ch_no (by decide) w (j := 2) (by decide)), if_neg (show ¬ x2 = (3 : Int32) from ch_no (by decide) w (j := 3) (by decide)), if_neg (show ¬ x2 = (4 : Int32) from ch_no (by decide) w (j := 4) (by decide)), if_neg (show ¬ x2 = (5 : Int32) from ch_no (by decide) w (j := 5) (by decide)), if_neg (show ¬ x2 = (6 : Int32) from ch_no (by decide) w (j := 6) (by decide)), if_neg (show ¬ x2 = (7 : Int32) from ch_no (by decide) w (j := 7) (by decide)), if_neg (show ¬ x2 = (8 : Int32) from ch_no (by decide) w (j := 8) (by decide))]
      · show Option.bind (sh_X5_isOne (th h2) 120 (nI p)) _ = _
        rw [one_p hP hp m, Option.bind_some, if_neg (by decide)]
        show Option.bind (sh_X5_in (th h2) x2.toInt64 (0 : Int64) (8 : Int64)) _ = _
        rw [e2 (th h2), Option.bind_some, if_pos (by decide)]
        show Option.bind (sh_X5_isOne (th h2) 120 (nI p)) _ = _
        rw [one_p hP hp m, Option.bind_some, if_neg (by decide)]
        rfl
  · refine s_ref g hk (r := -1) (Or.inl rfl) ?_ (fun h2 _ _ m => ?_)
    · show Option.bind (sh_X3_exists h 10 x1) _ = _
      rw [e1, Option.bind_some, if_pos (by decide)]
    · show Option.bind (sh_X5_isOne (th h2) 120 x1) _ = _
      rw [one_n hP hn m, Option.bind_some, if_pos (by decide)]
      show Option.bind (sh_X5_isOne (th h2) 120 x1) _ = _
      rw [one_n hP hn m, Option.bind_some, if_pos (by decide)]
      rfl
-- put
set_option maxHeartbeats 400000 in
theorem MR.fld (hm : MR h X) {c d p v : Nat} (hcd : (c = 4 ∧ d = 125) ∨ (c = 5 ∧ d = 123) ∨ (c = 3 ∧ d = 124)) : MR (wI h d p (nI v)) (up1 X.1 c p v, X.2) := by
  refine ⟨fun j hj => ?_, fun i hi => ?_, fun a i q h1 h2 h3 h4 => ?_⟩
  · rw [rdI, if_neg (by omega), hm.1 j hj]
    show _ = nI (up1 X.1 c p v 0 j)
    rw [up1_ne (by omega)]
  · have := hm.2.1 i hi
    refine ⟨?_, ?_, ?_, ?_, ?_⟩
    · rw [rdI, if_neg (by omega), this.1]
      show _ = nI (up1 X.1 c p v 1 i)
      rw [up1_ne (by omega)]
    · rw [rdI, if_neg (by omega), this.2.1]
      show _ = nI (up1 X.1 c p v 2 i)
      rw [up1_ne (by omega)]
    · show _ = nI (up1 X.1 c p v 5 i)
      rw [rdI]
      by_cases w : 123 = d ∧ i = p
      · rw [if_pos w]
        unfold up1
        rw [if_pos (by omega)]
      · rw [if_neg w, up1_ne (by omega), this.2.2.1]
    · show _ = nI (up1 X.1 c p v 3 i)
      rw [rdI]
      by_cases w : 124 = d ∧ i = p
      · rw [if_pos w]
        unfold up1
        rw [if_pos (by omega)]
      · rw [if_neg w, up1_ne (by omega), this.2.2.2.1]
    · show _ = nI (up1 X.1 c p v 4 i)
      rw [rdI]
      by_cases w : 125 = d ∧ i = p
      · rw [if_pos w]
        unfold up1
        rw [if_pos (by omega)]
      · rw [if_neg w, up1_ne (by omega), this.2.2.2.2]
  · have e : (up1 X.1 c p v) 0 1 = X.1 0 1 := up1_ne (by omega)
    show (wI h d p (nI v)).1 126 (42 * ((up1 X.1 c p v 0 1 - a) % 11) + 7 * i + q) = nI (X.2 a i q)
    have h2' : a ≤ up1 X.1 c p v 0 1 := h2
    rw [e] at h2' ⊢
    rw [rdI, if_neg (by omega)]
    exact hm.2.2 a i q h1 h2' h3 h4
set_option maxHeartbeats 400000 in
theorem Iv_fld (hI : Iv k X) {c p v : Nat} (hp : p < X.1 0 0) (hc : (c = 4 ∧ v ≤ 9999) ∨ (c = 5 ∧ v ≤ 99) ∨ (c = 3 ∧ (v = 9 ∨ v < X.1 0 0))) : Iv k (up1 X.1 c p v, X.2) := by
  obtain ⟨a1, a2, a3, a4, a5, a6, a7, a8, a9, a10, a11, a12⟩ := hI
  have e : ∀ j, up1 X.1 c p v 0 j = X.1 0 j := fun j => up1_ne (by omega)
  refine ⟨a1, ?_, ?_, ?_, ?_, ?_, ?_, ?_, fun i hi => ?_, fun i hi => ?_, a11, fun a i q z => a12 a i q ?_⟩
  · show up1 X.1 c p v 0 0 ≤ 6
    rw [e]; exact a2
  · show up1 X.1 c p v 0 1 ≤ k
    rw [e]; exact a3
  · show up1 X.1 c p v 0 2 ≤ 5
    rw [e]; exact a4
  · show 1 ≤ up1 X.1 c p v 0 3
    rw [e]; exact a5
  · show up1 X.1 c p v 0 3 ≤ 5
    rw [e]; exact a6
  · show up1 X.1 c p v 0 4 ≤ 5
    rw [e]; exact a7
  · show up1 X.1 c p v 0 5 ≤ 99
    rw [e]; exact a8
  · show up1 X.1 c p v 1 i ≤ 7 ∧ up1 X.1 c p v 2 i ≤ 9 ∧ up1 X.1 c p v 4 i ≤ 9999 ∧ up1 X.1 c p v 5 i ≤ 99
    have := a9 i hi
    unfold up1
    refine ⟨?_, ?_, ?_, ?_⟩ <;> (split <;> omega)
  · show up1 X.1 c p v 3 i = 9 ∨ up1 X.1 c p v 3 i < up1 X.1 c p v 0 0
    have hi' : i < X.1 0 0 := by have z : i < up1 X.1 c p v 0 0 := hi; rw [e] at z; exact z
    rw [e]
    have := a10 i hi'
    unfold up1
    split <;> omega
  · have z' : up1 X.1 c p v 0 0 ≤ i ∨ (up1 X.1 c p v 0 0 ≤ q ∧ q < 6) ∨ up1 X.1 c p v 0 1 < a := z
    rw [e, e] at z'
    exact z'
set_option maxHeartbeats 400000 in
theorem wI_self {h : Hp} {c j : Nat} : wI h c j (h.1 c j) = h := by
  have : (wI h c j (h.1 c j)).1 = h.1 := by
    funext a i
    rw [rdI]
    split
    · next z => rw [z.1, z.2]
    · rfl
  exact Prod.ext this rfl
end PE
