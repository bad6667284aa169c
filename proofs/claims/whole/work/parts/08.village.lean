/-! PURE: the class's villages: what is read -/
set_option maxHeartbeats 400000 in
theorem v_rf : ∀ i, i < 10 → rf (10 + 11 * i) 0 = 10 + 11 * i + 1 ∧ rf (10 + 11 * i) 1 = 10 + 11 * i + 2 ∧ rf (10 + 11 * i) 2 = 10 + 11 * i + 3 ∧ rf (10 + 11 * i) 3 = 10 + 11 * i + 4 ∧ rf (10 + 11 * i) 4 = 10 + 11 * i + 5 ∧ rf (10 + 11 * i) 5 = 10 + 11 * i + 6 ∧ rf (10 + 11 * i) 6 = 10 + 11 * i + 7 ∧ rf (10 + 11 * i + 7) 0 = 10 + 11 * i + 8 ∧ rf (10 + 11 * i + 7) 1 = 10 + 11 * i + 9 ∧ rf (10 + 11 * i + 7) 2 = 10 + 11 * i + 10 := by decide
set_option maxHeartbeats 400000 in
theorem v_len : ∀ i, i < 10 → len (10 + 11 * i + 1) = 6 ∧ len (10 + 11 * i + 2) = 6 ∧ len (10 + 11 * i + 3) = 6 ∧ len (10 + 11 * i + 4) = 6 ∧ len (10 + 11 * i + 5) = 6 ∧ len (10 + 11 * i + 6) = 4 ∧ len (10 + 11 * i + 8) = 252 ∧ len (10 + 11 * i + 9) = 36 ∧ len (10 + 11 * i + 10) = 11 := by decide
set_option maxHeartbeats 400000 in
theorem rf0 {b : Nat} (hb : isV b) : rf b 0 = b + 1 := by obtain ⟨i, hi, rfl⟩ := hb; exact (v_rf i hi).1
set_option maxHeartbeats 400000 in
theorem rf1 {b : Nat} (hb : isV b) : rf b 1 = b + 2 := by obtain ⟨i, hi, rfl⟩ := hb; exact (v_rf i hi).2.1
set_option maxHeartbeats 400000 in
theorem rf2 {b : Nat} (hb : isV b) : rf b 2 = b + 3 := by obtain ⟨i, hi, rfl⟩ := hb; exact (v_rf i hi).2.2.1
set_option maxHeartbeats 400000 in
theorem rf3 {b : Nat} (hb : isV b) : rf b 3 = b + 4 := by obtain ⟨i, hi, rfl⟩ := hb; exact (v_rf i hi).2.2.2.1
set_option maxHeartbeats 400000 in
theorem rf4 {b : Nat} (hb : isV b) : rf b 4 = b + 5 := by obtain ⟨i, hi, rfl⟩ := hb; exact (v_rf i hi).2.2.2.2.1
set_option maxHeartbeats 400000 in
theorem rf5 {b : Nat} (hb : isV b) : rf b 5 = b + 6 := by obtain ⟨i, hi, rfl⟩ := hb; exact (v_rf i hi).2.2.2.2.2.1
set_option maxHeartbeats 400000 in
theorem rf6 {b : Nat} (hb : isV b) : rf b 6 = b + 7 := by obtain ⟨i, hi, rfl⟩ := hb; exact (v_rf i hi).2.2.2.2.2.2.1
set_option maxHeartbeats 400000 in
theorem rg0 {b : Nat} (hb : isV b) : rf (rf b 6) 0 = b + 8 := by rw [rf6 hb]; obtain ⟨i, hi, rfl⟩ := hb; exact (v_rf i hi).2.2.2.2.2.2.2.1
set_option maxHeartbeats 400000 in
theorem rg1 {b : Nat} (hb : isV b) : rf (rf b 6) 1 = b + 9 := by rw [rf6 hb]; obtain ⟨i, hi, rfl⟩ := hb; exact (v_rf i hi).2.2.2.2.2.2.2.2.1
set_option maxHeartbeats 400000 in
theorem rg2 {b : Nat} (hb : isV b) : rf (rf b 6) 2 = b + 10 := by rw [rf6 hb]; obtain ⟨i, hi, rfl⟩ := hb; exact (v_rf i hi).2.2.2.2.2.2.2.2.2
set_option maxHeartbeats 400000 in
theorem vl1 {b : Nat} (hb : isV b) : len (b + 1) = 6 := by obtain ⟨i, hi, rfl⟩ := hb; exact (v_len i hi).1
set_option maxHeartbeats 400000 in
theorem vl2 {b : Nat} (hb : isV b) : len (b + 2) = 6 := by obtain ⟨i, hi, rfl⟩ := hb; exact (v_len i hi).2.1
set_option maxHeartbeats 400000 in
theorem vl3 {b : Nat} (hb : isV b) : len (b + 3) = 6 := by obtain ⟨i, hi, rfl⟩ := hb; exact (v_len i hi).2.2.1
set_option maxHeartbeats 400000 in
theorem vl4 {b : Nat} (hb : isV b) : len (b + 4) = 6 := by obtain ⟨i, hi, rfl⟩ := hb; exact (v_len i hi).2.2.2.1
set_option maxHeartbeats 400000 in
theorem vl5 {b : Nat} (hb : isV b) : len (b + 5) = 6 := by obtain ⟨i, hi, rfl⟩ := hb; exact (v_len i hi).2.2.2.2.1
set_option maxHeartbeats 400000 in
theorem vl6 {b : Nat} (hb : isV b) : len (b + 6) = 4 := by obtain ⟨i, hi, rfl⟩ := hb; exact (v_len i hi).2.2.2.2.2.1
set_option maxHeartbeats 400000 in
theorem vl8 {b : Nat} (hb : isV b) : len (b + 8) = 252 := by obtain ⟨i, hi, rfl⟩ := hb; exact (v_len i hi).2.2.2.2.2.2.1
set_option maxHeartbeats 400000 in
theorem vl9 {b : Nat} (hb : isV b) : len (b + 9) = 36 := by obtain ⟨i, hi, rfl⟩ := hb; exact (v_len i hi).2.2.2.2.2.2.2.1
set_option maxHeartbeats 400000 in
theorem vl10 {b : Nat} (hb : isV b) : len (b + 10) = 11 := by obtain ⟨i, hi, rfl⟩ := hb; exact (v_len i hi).2.2.2.2.2.2.2.2
section VL
variable {h : Hp} {b k : Nat} {X : St}
set_option maxHeartbeats 400000 in
theorem ld_kind (hb : isV b) (hv : VR h b X) {p : Nat} (hp : p < 6) : ldI h (rf b 0) (nI p) = some (nI (X.1 1 p)) := by rw [rf0 hb, ldI_n (by rw [vl1 hb]; exact hp) (by omega), hv.2.2.2.1 1 p (by decide) (by decide) hp]
set_option maxHeartbeats 400000 in
theorem ld_fig (hb : isV b) (hv : VR h b X) {p : Nat} (hp : p < 6) : ldI h (rf b 1) (nI p) = some (nI (X.1 2 p)) := by rw [rf1 hb, ldI_n (by rw [vl2 hb]; exact hp) (by omega), hv.2.2.2.1 2 p (by decide) (by decide) hp]
set_option maxHeartbeats 400000 in
theorem ld_to (hb : isV b) (hv : VR h b X) {p : Nat} (hp : p < 6) : ldI h (rf b 2) (nI p) = some (nI (X.1 3 p)) := by rw [rf2 hb, ldI_n (by rw [vl3 hb]; exact hp) (by omega), hv.2.2.2.1 3 p (by decide) (by decide) hp]
set_option maxHeartbeats 400000 in
theorem ld_has (hb : isV b) (hv : VR h b X) {p : Nat} (hp : p < 6) : ldI h (rf b 3) (nI p) = some (nI (X.1 4 p)) := by rw [rf3 hb, ldI_n (by rw [vl4 hb]; exact hp) (by omega), hv.2.2.2.1 4 p (by decide) (by decide) hp]
set_option maxHeartbeats 400000 in
theorem ld_finds (hb : isV b) (hv : VR h b X) {p : Nat} (hp : p < 6) : ldI h (rf b 4) (nI p) = some (nI (X.1 5 p)) := by rw [rf4 hb, ldI_n (by rw [vl5 hb]; exact hp) (by omega), hv.2.2.2.1 5 p (by decide) (by decide) hp]
set_option maxHeartbeats 400000 in
theorem ld_set (hb : isV b) (hv : VR h b X) {j : Nat} (hj : j < 4) : ldI h (rf b 5) (nI j) = some (nI (X.1 0 (2 + j))) := by rw [rf5 hb, ldI_n (by rw [vl6 hb]; exact hj) (by omega), hv.2.2.1 j hj]
set_option maxHeartbeats 400000 in
theorem ld_amt (hb : isV b) (hv : VR h b X) {a p q : Nat} (ha : a < 6) (hp : p < 6) (hq : q < 7) : ldI h (rf (rf b 6) 0) (nI (a * 42 + p * 7 + q)) = some (nI (X.2 a p q)) := by rw [rg0 hb, ldI_n (by rw [vl8 hb]; omega) (by omega), hv.2.2.2.2.1 a p q ha hp hq]
set_option maxHeartbeats 400000 in
theorem ld_cnt (hb : isV b) (hv : VR h b X) {a p : Nat} (h1 : 1 ≤ a) (ha : a < 6) (hp : p < 6) : ldI h (rf (rf b 6) 1) (nI (a * 6 + p)) = some (nI (cnt X a p)) := by rw [rg1 hb, ldI_n (by rw [vl9 hb]; omega) (by omega), hv.2.2.2.2.2.1 a p h1 ha hp]
set_option maxHeartbeats 400000 in
theorem p_got (hb : isV b) (hv : VR h b X) {a q : Nat} (ha : a < 6) (hq : q < 7) : sh_X0_got h (rf b 6) (nI a) (nI q) = some (nI (got X a q)) := by
  refine lpE (fun n (s : Int32 × Int32) => b_X0_got_5 n h (rf b 6) (nI a) (nI q) s.1 s.2) (fun p => (nI (sm (fun p => X.2 a p q) p), nI p)) _ 6 (fun n p hp => ?_) (fun n => rfl) 1000 0 (by omega) (by omega)
  show f_X0_got_5 (b_X0_got_5 n) h (rf b 6) (nI a) (nI q) (nI (sm (fun p => X.2 a p q) p)) (nI p) = _
  unfold f_X0_got_5
  simp (disch := omega) only [L0, L1, L2, L3, L4, L5, L6, L7, L8, L9, L10, L11, L12, L13, L14, L15, L16, L20, L21, L42, L44, L48, L57, L59, L60, L63, L64, L99, L108, L112, L255, L462, L999, L9999, nI_add, pk_mul, nI_leI, nI_ltI, nI_eq, Option.bind_some]
  rw [if_neg (by omega), ld_amt hb hv ha hp hq]
  simp (disch := omega) only [L0, L1, L2, L3, L4, L5, L6, L7, L8, L9, L10, L11, L12, L13, L14, L15, L16, L20, L21, L42, L44, L48, L57, L59, L60, L63, L64, L99, L108, L112, L255, L462, L999, L9999, nI_add, pk_mul, nI_leI, nI_ltI, nI_eq, Option.bind_some]
  rfl
set_option maxHeartbeats 400000 in
theorem p_gotT (hb : isV b) (hv : VR h b X) {q : Nat} (hq : q < 7) : sh_X0_gotToday h (rf b 6) (nI q) = some (nI (got X 0 q)) := by
  unfold sh_X0_gotToday
  simp (disch := omega) only [L0, L1, L2, L3, L4, L5, L6, L7, L8, L9, L10, L11, L12, L13, L14, L15, L16, L20, L21, L42, L44, L48, L57, L59, L60, L63, L64, L99, L108, L112, L255, L462, L999, L9999, nI_add, pk_mul, nI_leI, nI_ltI, nI_eq, Option.bind_some, p_got hb hv (show 0 < 6 by decide) hq, p_got hb hv (show 1 < 6 by decide) hq]
set_option maxHeartbeats 400000 in
theorem p_gotY (hb : isV b) (hv : VR h b X) {q : Nat} (hq : q < 7) : sh_X0_gotYesterday h (rf b 6) (nI q) = some (nI (got X 1 q)) := by
  unfold sh_X0_gotYesterday
  simp (disch := omega) only [L0, L1, L2, L3, L4, L5, L6, L7, L8, L9, L10, L11, L12, L13, L14, L15, L16, L20, L21, L42, L44, L48, L57, L59, L60, L63, L64, L99, L108, L112, L255, L462, L999, L9999, nI_add, pk_mul, nI_leI, nI_ltI, nI_eq, Option.bind_some, p_got hb hv (show 0 < 6 by decide) hq, p_got hb hv (show 1 < 6 by decide) hq]
set_option maxHeartbeats 400000 in
theorem p_given (hb : isV b) (hv : VR h b X) {p : Nat} (hp : p < 6) : sh_X0_givenToday h (rf b 6) (nI p) = some (nI (gvn X p)) := by
  refine lpE (fun n (s : Int32 × Int32) => b_X0_givenToday_4 n h (rf b 6) (nI p) s.1 s.2) (fun q => (nI (sm (fun q => X.2 0 p q) q), nI q)) _ 7 (fun n q hq => ?_) (fun n => rfl) 1000 0 (by omega) (by omega)
  show f_X0_givenToday_4 (b_X0_givenToday_4 n) h (rf b 6) (nI p) (nI (sm (fun q => X.2 0 p q) q)) (nI q) = _
  unfold f_X0_givenToday_4
  simp (disch := omega) only [L0, L1, L2, L3, L4, L5, L6, L7, L8, L9, L10, L11, L12, L13, L14, L15, L16, L20, L21, L42, L44, L48, L57, L59, L60, L63, L64, L99, L108, L112, L255, L462, L999, L9999, nI_add, pk_mul, nI_leI, nI_ltI, nI_eq, Option.bind_some]
  have e := ld_amt hb hv (show 0 < 6 by decide) hp hq
  rw [Nat.zero_mul, Nat.zero_add] at e
  rw [if_neg (by omega), e]
  simp (disch := omega) only [L0, L1, L2, L3, L4, L5, L6, L7, L8, L9, L10, L11, L12, L13, L14, L15, L16, L20, L21, L42, L44, L48, L57, L59, L60, L63, L64, L99, L108, L112, L255, L462, L999, L9999, nI_add, pk_mul, nI_leI, nI_ltI, nI_eq, Option.bind_some]
  rfl
set_option maxHeartbeats 400000 in
theorem p_cntY (hb : isV b) (hv : VR h b X) {p : Nat} (hp : p < 6) : sh_X0_countedYesterday h (rf b 6) (nI p) = some (nI (cnt X 1 p)) := by
  unfold sh_X0_countedYesterday
  have e := ld_cnt hb hv (Nat.le_refl 1) (show 1 < 6 by decide) hp
  simp (disch := omega) only [L0, L1, L2, L3, L4, L5, L6, L7, L8, L9, L10, L11, L12, L13, L14, L15, L16, L20, L21, L42, L44, L48, L57, L59, L60, L63, L64, L99, L108, L112, L255, L462, L999, L9999, nI_add, pk_mul, nI_leI, nI_ltI, nI_eq, Option.bind_some]
  rw [show 6 + p = 1 * 6 + p by omega, e]
  rfl
set_option maxHeartbeats 400000 in
theorem p_cntTog (hb : isV b) (hv : VR h b X) {n p : Nat} (hn : n < 6) (hp : p < 6) : sh_X0_countedTogether h (rf b 6) (nI n) (nI p) = some (nI (sm (fun i => cnt X (i + 1) p) n)) := by
  refine lpE (fun m (s : Int32 × Int32) => b_X0_countedTogether_5 m h (rf b 6) (nI n) (nI p) s.1 s.2) (fun i => (nI (sm (fun i => cnt X (i + 1) p) i), nI (i + 1))) _ n (fun m i hi => ?_) (fun m => ?_) 1000 0 (by omega) (by omega)
  · show f_X0_countedTogether_5 (b_X0_countedTogether_5 m) h (rf b 6) (nI n) (nI p) (nI (sm (fun i => cnt X (i + 1) p) i)) (nI (i + 1)) = _
    unfold f_X0_countedTogether_5
    simp (disch := omega) only [L0, L1, L2, L3, L4, L5, L6, L7, L8, L9, L10, L11, L12, L13, L14, L15, L16, L20, L21, L42, L44, L48, L57, L59, L60, L63, L64, L99, L108, L112, L255, L462, L999, L9999, nI_add, pk_mul, nI_leI, nI_ltI, nI_eq, Option.bind_some]
    rw [if_neg (by omega), if_neg (by omega), ld_cnt hb hv (by omega) (by omega) hp]
    simp (disch := omega) only [L0, L1, L2, L3, L4, L5, L6, L7, L8, L9, L10, L11, L12, L13, L14, L15, L16, L20, L21, L42, L44, L48, L57, L59, L60, L63, L64, L99, L108, L112, L255, L462, L999, L9999, nI_add, pk_mul, nI_leI, nI_ltI, nI_eq, Option.bind_some]
    rfl
  · show f_X0_countedTogether_5 (b_X0_countedTogether_5 m) h (rf b 6) (nI n) (nI p) (nI (sm (fun i => cnt X (i + 1) p) n)) (nI (n + 1)) = _
    unfold f_X0_countedTogether_5
    simp (disch := omega) only [L0, L1, L2, L3, L4, L5, L6, L7, L8, L9, L10, L11, L12, L13, L14, L15, L16, L20, L21, L42, L44, L48, L57, L59, L60, L63, L64, L99, L108, L112, L255, L462, L999, L9999, nI_add, pk_mul, nI_leI, nI_ltI, nI_eq, Option.bind_some]
    rw [if_pos (by omega)]
    rfl
set_option maxHeartbeats 400000 in
theorem cnt_le (hI : Iv k X) (a p : Nat) : cnt X a p ≤ 70000000 := by
  have hk := hI.1
  have hG := hI.2.2.2.2.2.2.2.2.2.2.1
  have h1 : sm (fun q => if cb X a p q then 0 else X.2 a p q) 6 ≤ 6 * (9999 * k) := sm_le (fun q _ => by
    show (if cb X a p q then 0 else X.2 a p q) ≤ _
    split
    · omega
    · exact hG a p q)
  have h2 := hG a p 6
  unfold cnt
  omega
set_option maxHeartbeats 400000 in
theorem got_le (hI : Iv k X) (a q : Nat) : got X a q ≤ 60000000 := by
  have hk := hI.1
  have hG := hI.2.2.2.2.2.2.2.2.2.2.1
  have h1 : sm (fun p => X.2 a p q) 6 ≤ 6 * (9999 * k) := sm_le (fun p _ => hG a p q)
  unfold got
  omega
set_option maxHeartbeats 400000 in
theorem p_cntBest (hb : isV b) (hv : VR h b X) (hI : Iv k X) {n p : Nat} (hn : n < 6) (hp : p < 6) : sh_X0_countedAtBest h (rf b 6) (nI n) (nI p) = some (nI (mx (fun i => cnt X (i + 1) p) n)) := by
  refine lpE (fun m (s : Int32 × Int32) => b_X0_countedAtBest_5 m h (rf b 6) (nI n) (nI p) s.1 s.2) (fun i => (nI (mx (fun i => cnt X (i + 1) p) i), nI (i + 1))) _ n (fun m i hi => ?_) (fun m => ?_) 1000 0 (by omega) (by omega)
  · show f_X0_countedAtBest_5 (b_X0_countedAtBest_5 m) h (rf b 6) (nI n) (nI p) (nI (mx (fun i => cnt X (i + 1) p) i)) (nI (i + 1)) = b_X0_countedAtBest_5 m h (rf b 6) (nI n) (nI p) (nI (max (mx (fun i => cnt X (i + 1) p) i) (cnt X (i + 1) p))) (nI (i + 1 + 1))
    have h1 := cnt_le hI (i + 1) p
    have h2 : mx (fun i => cnt X (i + 1) p) i ≤ 70000000 := mx_le (fun j _ => cnt_le hI (j + 1) p)
    generalize mx (fun i => cnt X (i + 1) p) i = w at h2 ⊢
    unfold f_X0_countedAtBest_5
    simp (disch := omega) only [L0, L1, L2, L3, L4, L5, L6, L7, L8, L9, L10, L11, L12, L13, L14, L15, L16, L20, L21, L42, L44, L48, L57, L59, L60, L63, L64, L99, L108, L112, L255, L462, L999, L9999, nI_add, pk_mul, nI_leI, nI_ltI, nI_eq, Option.bind_some]
    rw [if_neg (by omega), if_neg (by omega), ld_cnt hb hv (by omega) (by omega) hp]
    show b_X0_countedAtBest_5 m h (rf b 6) (nI n) (nI p) (if nI w < nI (cnt X (i + 1) p) then nI (cnt X (i + 1) p) else nI w) _ = _
    simp (disch := omega) only [L0, L1, L2, L3, L4, L5, L6, L7, L8, L9, L10, L11, L12, L13, L14, L15, L16, L20, L21, L42, L44, L48, L57, L59, L60, L63, L64, L99, L108, L112, L255, L462, L999, L9999, nI_add, pk_mul, nI_leI, nI_ltI, nI_eq, Option.bind_some]
    congr 1
    split <;> congr 1 <;> omega
  · show f_X0_countedAtBest_5 (b_X0_countedAtBest_5 m) h (rf b 6) (nI n) (nI p) (nI (mx (fun i => cnt X (i + 1) p) n)) (nI (n + 1)) = _
    unfold f_X0_countedAtBest_5
    simp (disch := omega) only [L0, L1, L2, L3, L4, L5, L6, L7, L8, L9, L10, L11, L12, L13, L14, L15, L16, L20, L21, L42, L44, L48, L57, L59, L60, L63, L64, L99, L108, L112, L255, L462, L999, L9999, nI_add, pk_mul, nI_leI, nI_ltI, nI_eq, Option.bind_some]
    rw [if_pos (by omega)]
    rfl
set_option maxHeartbeats 400000 in
theorem p_bounded (hb : isV b) (hv : VR h b X) (hI : Iv k X) {v : Nat} (hv2 : v ≤ 500000000) : sh_X3_bounded h b (nI v) = some (nI (max (X.1 0 5) (min 9999 v))) := by
  unfold sh_X3_bounded
  have h5 := hI.2.2.2.2.2.2.2.1
  rw [L3, ld_set hb hv (by decide)]
  simp (disch := omega) only [L0, L1, L2, L3, L4, L5, L6, L7, L8, L9, L10, L11, L12, L13, L14, L15, L16, L20, L21, L42, L44, L48, L57, L59, L60, L63, L64, L99, L108, L112, L255, L462, L999, L9999, nI_add, pk_mul, nI_leI, nI_ltI, nI_eq, Option.bind_some]
  congr 1
  show (if nI (X.1 0 5) < _ then _ else nI (X.1 0 5)) = _
  generalize X.1 0 5 = f at h5
  by_cases q : v < 9999
  · rw [if_pos q]
    simp (disch := omega) only [L0, L1, L2, L3, L4, L5, L6, L7, L8, L9, L10, L11, L12, L13, L14, L15, L16, L20, L21, L42, L44, L48, L57, L59, L60, L63, L64, L99, L108, L112, L255, L462, L999, L9999, nI_add, pk_mul, nI_leI, nI_ltI, nI_eq, Option.bind_some]
    split <;> congr 1 <;> omega
  · rw [if_neg q]
    simp (disch := omega) only [L0, L1, L2, L3, L4, L5, L6, L7, L8, L9, L10, L11, L12, L13, L14, L15, L16, L20, L21, L42, L44, L48, L57, L59, L60, L63, L64, L99, L108, L112, L255, L462, L999, L9999, nI_add, pk_mul, nI_leI, nI_ltI, nI_eq, Option.bind_some]
    split <;> congr 1 <;> omega
set_option maxHeartbeats 400000 in
theorem lwv_le (hI : Iv k X) {p : Nat} (hp : p < 6) : lwv X p ≤ 400000000 := by
  have h1 := cnt_le hI 1 p
  have h3 := hI.2.2.2.2.2.1
  have hf := (hI.2.2.2.2.2.2.2.2.1 p hp).2.1
  have h4 : sm (fun i => cnt X (i + 1) p) (X.1 0 3) ≤ X.1 0 3 * 70000000 := sm_le (fun i _ => cnt_le hI (i + 1) p)
  have h5 : mx (fun i => cnt X (i + 1) p) (X.1 0 3) ≤ 70000000 := mx_le (fun i _ => cnt_le hI (i + 1) p)
  unfold lwv
  repeat' split
  all_goals omega
set_option maxHeartbeats 400000 in
theorem p_leave (hb : isV b) (hv : VR h b X) (hI : Iv k X) {p : Nat} (hp : p < 6) : sh_X3_leave h b (nI p) = some (nI (lev X p)) := by
  have hk := (hI.2.2.2.2.2.2.2.2.1 p hp).1
  have hf := (hI.2.2.2.2.2.2.2.2.1 p hp).2.1
  have hL := hI.2.2.2.1
  have hs1 := hI.2.2.2.2.1
  have hs2 := hI.2.2.2.2.2.1
  have hc := cnt_le hI 1 p
  have hw := lwv_le hI hp
  unfold sh_X3_leave lev
  rw [ld_kind hb hv hp]
  simp (disch := omega) only [L0, L1, L2, L3, L4, L5, L6, L7, L8, L9, L10, L11, L12, L13, L14, L15, L16, L20, L21, L42, L44, L48, L57, L59, L60, L63, L64, L99, L108, L112, L255, L462, L999, L9999, nI_add, pk_mul, nI_leI, nI_ltI, nI_eq, Option.bind_some]
  by_cases q : X.1 1 p = 7
  · rw [if_pos q, if_pos q]
  · rw [if_neg q, if_neg q, p_cntY hb hv hp, ld_set hb hv (by decide)]
    simp (disch := omega) only [L0, L1, L2, L3, L4, L5, L6, L7, L8, L9, L10, L11, L12, L13, L14, L15, L16, L20, L21, L42, L44, L48, L57, L59, L60, L63, L64, L99, L108, L112, L255, L462, L999, L9999, nI_add, pk_mul, nI_leI, nI_ltI, nI_eq, Option.bind_some]
    unfold lwv at hw ⊢
    rcases (show X.1 0 2 = 0 ∨ X.1 0 2 = 1 ∨ X.1 0 2 = 2 ∨ X.1 0 2 = 3 ∨ X.1 0 2 = 4 ∨ X.1 0 2 = 5 by omega) with e | e | e | e | e | e
    · simp (config := { decide := true }) only [e, b_X3_leave_141, if_true, if_false] at hw ⊢
      rw [p_bounded hb hv hI (by omega)]
      rfl
    · simp (config := { decide := true }) only [e, if_true, if_false] at hw ⊢
      rw [pk_div (by omega) (by omega) (by omega), p_bounded hb hv hI (by omega)]
      rfl
    · simp (config := { decide := true }) only [e, if_true, if_false] at hw ⊢
      rw [p_bounded hb hv hI (by omega)]
      rfl
    · simp (config := { decide := true }) only [e, if_true, if_false] at hw ⊢
      rw [ld_set hb hv (by decide)]
      simp (disch := omega) only [L0, L1, L2, L3, L4, L5, L6, L7, L8, L9, L10, L11, L12, L13, L14, L15, L16, L20, L21, L42, L44, L48, L57, L59, L60, L63, L64, L99, L108, L112, L255, L462, L999, L9999, nI_add, pk_mul, nI_leI, nI_ltI, nI_eq, Option.bind_some]
      rw [show 2 + 1 = 3 from rfl, p_cntTog hb hv (by omega) hp]
      simp (disch := omega) only [L0, L1, L2, L3, L4, L5, L6, L7, L8, L9, L10, L11, L12, L13, L14, L15, L16, L20, L21, L42, L44, L48, L57, L59, L60, L63, L64, L99, L108, L112, L255, L462, L999, L9999, nI_add, pk_mul, nI_leI, nI_ltI, nI_eq, Option.bind_some]
      rw [p_bounded hb hv hI (by omega)]
      rfl
    · simp (config := { decide := true }) only [e, if_true, if_false] at hw ⊢
      rw [ld_set hb hv (by decide)]
      simp (disch := omega) only [L0, L1, L2, L3, L4, L5, L6, L7, L8, L9, L10, L11, L12, L13, L14, L15, L16, L20, L21, L42, L44, L48, L57, L59, L60, L63, L64, L99, L108, L112, L255, L462, L999, L9999, nI_add, pk_mul, nI_leI, nI_ltI, nI_eq, Option.bind_some]
      rw [show 2 + 1 = 3 from rfl, p_cntBest hb hv hI (by omega) hp]
      simp (disch := omega) only [L0, L1, L2, L3, L4, L5, L6, L7, L8, L9, L10, L11, L12, L13, L14, L15, L16, L20, L21, L42, L44, L48, L57, L59, L60, L63, L64, L99, L108, L112, L255, L462, L999, L9999, nI_add, pk_mul, nI_leI, nI_ltI, nI_eq, Option.bind_some]
      rw [p_bounded hb hv hI (by omega)]
      rfl
    · simp (config := { decide := true }) only [e, if_true, if_false] at hw ⊢
      rw [ld_fig hb hv hp]
      simp (disch := omega) only [L0, L1, L2, L3, L4, L5, L6, L7, L8, L9, L10, L11, L12, L13, L14, L15, L16, L20, L21, L42, L44, L48, L57, L59, L60, L63, L64, L99, L108, L112, L255, L462, L999, L9999, nI_add, pk_mul, nI_leI, nI_ltI, nI_eq, Option.bind_some]
      rw [pk_div (by omega) (by omega) (by omega)]
      simp (disch := omega) only [L0, L1, L2, L3, L4, L5, L6, L7, L8, L9, L10, L11, L12, L13, L14, L15, L16, L20, L21, L42, L44, L48, L57, L59, L60, L63, L64, L99, L108, L112, L255, L462, L999, L9999, nI_add, pk_mul, nI_leI, nI_ltI, nI_eq, Option.bind_some]
      rw [p_bounded hb hv hI (by omega)]
      rfl
end VL
