/-! PURE: evenings and days by kinds, of the class -/
section VE
variable {h : Hp} {b k : Nat} {X Y : St}
set_option maxHeartbeats 400000 in
theorem lev_congr (hS : ∀ c i, c ≠ 4 → X.1 c i = Y.1 c i) (hG : X.2 = Y.2) (p : Nat) : lev X p = lev Y p := by
  have hc : ∀ a p, cnt X a p = cnt Y a p := fun a p => cnt_congr (hS 0 4 (by decide)) (fun e p q _ => by rw [hG]) p
  unfold lev lwv
  simp only [hc, hS 1 p (by decide), hS 0 2 (by decide), hS 0 3 (by decide), hS 0 5 (by decide), hS 2 p (by decide)]
set_option maxHeartbeats 400000 in
theorem got_congr (hG : ∀ a p q, X.2 a p q = Y.2 a p q) (a q : Nat) : got X a q = got Y a q := by
  unfold got
  exact sm_congr (fun p _ => hG a p q)
set_option maxHeartbeats 400000 in
theorem lyi_congr (hS : ∀ c i, c ≠ 4 → X.1 c i = Y.1 c i) (hG : X.2 = Y.2) (p : Nat) : lyi X p = lyi Y p := by
  unfold lyi
  rw [got_congr (Y := Y) (fun a p q => by rw [hG]), hS 5 p (by decide)]
set_option maxHeartbeats 400000 in
theorem Iv.mono {k' : Nat} (hI : Iv k X) (h1 : k ≤ k') (h2 : k' ≤ 1000) : Iv k' X := by
  obtain ⟨i1, i2, i3, i4, i5, i6, i7, i8, i9, i10, i11, i12⟩ := hI
  exact ⟨h2, i2, by omega, i4, i5, i6, i7, i8, i9, i10, fun a p q => by have := i11 a p q; omega, i12⟩
set_option maxHeartbeats 400000 in
theorem lev_le (hI : Iv k X) (p : Nat) : lev X p ≤ 9999 := by
  have h5 := hI.2.2.2.2.2.2.2.1
  unfold lev
  split <;> omega
def ev1 (X : St) (p : Nat) : St := (fun c i => if c = 4 ∧ i < p then X.1 4 i + car X i else X.1 c i, X.2)
set_option maxHeartbeats 400000 in
theorem ev1_S (X : St) (p : Nat) : ∀ c i, c ≠ 4 → (ev1 X p).1 c i = X.1 c i := fun c i hc => if_neg (by omega)
set_option maxHeartbeats 400000 in
theorem ev1_has (X : St) {p i : Nat} (hi : p ≤ i) : (ev1 X p).1 4 i = X.1 4 i := if_neg (by omega)
set_option maxHeartbeats 400000 in
theorem ev1_0 (X : St) : ev1 X 0 = X := by
  show (_, X.2) = X
  have : (fun c i => if c = 4 ∧ i < 0 then X.1 4 i + car X i else X.1 c i) = X.1 := by
    funext c i
    rw [if_neg (by omega)]
  rw [this]
set_option maxHeartbeats 400000 in
theorem car_le (X : St) (p : Nat) : car X p ≤ lyi X p ∧ car X p ≤ 9999 - X.1 4 p := by
  unfold car
  omega
set_option maxHeartbeats 400000 in
theorem ev1_up (X : St) (p : Nat) : (up1 (ev1 X p).1 4 p (X.1 4 p + car X p), (ev1 X p).2) = ev1 X (p + 1) := by
  show (_, X.2) = (_, X.2)
  congr 1
  funext c i
  show up1 (fun c i => if c = 4 ∧ i < p then X.1 4 i + car X i else X.1 c i) 4 p (X.1 4 p + car X p) c i = _
  unfold up1
  by_cases e : c = 4 ∧ i = p
  · rw [if_pos e, if_pos (by omega), e.2]
  · rw [if_neg e]
    dsimp only
    by_cases e2 : c = 4 ∧ i < p
    · rw [if_pos e2, if_pos (by omega)]
    · rw [if_neg e2, if_neg (by omega)]
set_option maxHeartbeats 400000 in
theorem Iv.ev1 (hI : Iv k X) (p : Nat) : Iv k (ev1 X p) := by
  obtain ⟨i1, i2, i3, i4, i5, i6, i7, i8, i9, i10, i11, i12⟩ := hI
  have e := ev1_S X p
  refine ⟨i1, by rw [e 0 0 (by decide)]; exact i2, by rw [e 0 1 (by decide)]; exact i3, by rw [e 0 2 (by decide)]; exact i4, by rw [e 0 3 (by decide)]; exact i5, by rw [e 0 3 (by decide)]; exact i6, by rw [e 0 4 (by decide)]; exact i7, by rw [e 0 5 (by decide)]; exact i8, fun q hq => ?_, fun q hq => ?_, i11, ?_⟩
  · rw [e 1 q (by decide), e 2 q (by decide), e 5 q (by decide)]
    refine ⟨(i9 q hq).1, (i9 q hq).2.1, ?_, (i9 q hq).2.2.2⟩
    show (if 4 = 4 ∧ q < p then X.1 4 q + car X q else X.1 4 q) ≤ 9999
    have h1 := (car_le X q).2
    have h2 := (i9 q hq).2.2.1
    split <;> omega
  · rw [e 3 q (by decide), e 0 0 (by decide)]
    rw [e 0 0 (by decide)] at hq
    exact i10 q hq
  · rw [e 0 0 (by decide), e 0 1 (by decide)]
    exact i12
set_option maxHeartbeats 400000 in
theorem eve_S (X : St) {c i : Nat} (h1 : ¬ (c = 4 ∧ i < X.1 0 0)) (h2 : ¬ (c = 0 ∧ i = 1)) : (eve X).1 c i = X.1 c i := by
  show (if c = 4 ∧ i < X.1 0 0 then X.1 4 i + car X i else if c = 0 ∧ i = 1 then X.1 0 1 + 1 else X.1 c i) = _
  rw [if_neg h1, if_neg h2]
set_option maxHeartbeats 400000 in
theorem cnt_eve (X : St) (a p : Nat) : cnt (eve X) (a + 1) p = cnt X a p := by
  have hg : ∀ e q p, (eve X).2 (e + 1) q p = X.2 e q p := fun e q p => by
    show (if e + 1 = 0 then 0 else X.2 (e + 1 - 1) q p) = _
    rw [if_neg (by omega), Nat.add_sub_cancel]
  have h4 : (eve X).1 0 4 = X.1 0 4 := eve_S X (by omega) (by omega)
  unfold cnt
  rw [hg]
  congr 1
  refine sm_congr (fun q _ => ?_)
  rw [hg]
  have : cb (eve X) (a + 1) p q = cb X a p q := by
    unfold cb
    rw [h4]
    congr 1
    refine List.any_congr rfl ?_
    intro i
    rw [show a + 1 + i = (a + i) + 1 by omega, hg]
  rw [this]
set_option maxHeartbeats 400000 in
theorem p_endDay (hb : isV b) (hv : VR h b X) (hI : Iv k X) : ∃ h', sh_X3_endDay h b = some (nI (lst X), h') ∧ VR h' b (eve X) ∧ VF b h h' := by
  have hP := hI.2.1
  have hd := hI.2.2.1
  have hk := hI.1
  unfold sh_X3_endDay
  refine exE (lp (fun n (s : Hp × Int32 × Int32) => b_X3_endDay_4 n s.1 b s.2.1 s.2.2) (fun p s => s.2.1 = nI (sm (fun p => lyi X p - car X p) p) ∧ s.2.2 = nI p ∧ VR s.1 b (ev1 X p) ∧ VF b h s.1) (fun r => r.1 = nI (lst X) ∧ VR r.2 b (eve X) ∧ VF b h r.2) (X.1 0 0) (fun n p s hp hs => Or.inl ?_) (fun n s hs => ?_) 1000 0 (h, nI 0, nI 0) (by omega) ⟨rfl, rfl, by rw [ev1_0]; exact hv, VF.rf b h⟩ (by omega)) (fun r h1 h2 => ⟨r.2, by rw [← h1.1]; exact h2, h1.2⟩)
  · obtain ⟨g, x, y⟩ := s
    obtain ⟨e1, e2, e3, e4⟩ := hs
    dsimp only at e1 e2 e3 e4
    subst e1 e2
    have hIp := hI.ev1 p
    have hp6 : p < 6 := by omega
    have eg : got (ev1 X p) 0 p = got X 0 p := got_congr (fun _ _ _ => rfl) 0 p
    have ef : (ev1 X p).1 5 p = X.1 5 p := ev1_S X p 5 p (by decide)
    have eh : (ev1 X p).1 4 p = X.1 4 p := ev1_has X (Nat.le_refl p)
    have el : lev (ev1 X p) p = lev X p := lev_congr (ev1_S X p) rfl p
    have b1 := got_le hI 0 p
    have b2 := hI.2.2.2.2.2.2.2.2.1 p hp6
    have b3 := lev_le hI p
    refine ⟨(wI g (b + 4) p (nI (X.1 4 p + car X p)), nI (sm (fun p => lyi X p - car X p) (p + 1)), nI (p + 1)), ⟨rfl, rfl, ?_, e4.tr (VF.wI g _ _ (by omega) (by omega))⟩, ?_⟩
    · have := e3.fld (c := 4) (p := p) (v := X.1 4 p + car X p) (by decide) (by decide)
      rw [ev1_up] at this
      exact this
    · show f_X3_endDay_4 (b_X3_endDay_4 n) g b (nI (sm (fun p => lyi X p - car X p) p)) (nI p) = _
      unfold f_X3_endDay_4
      rw [e3.1, ev1_S X p 0 0 (by decide)]
      simp (disch := omega) only [L0, L1, L2, L3, L4, L5, L6, L7, L8, L9, L10, L11, L12, L13, L14, L15, L16, L20, L21, L42, L44, L48, L57, L59, L60, L63, L64, L99, L108, L112, L255, L462, L999, L9999, nI_add, pk_mul, nI_leI, nI_ltI, nI_eq, Option.bind_some, p_gotT hb e3, ld_finds hb e3, ld_has hb e3, p_leave hb e3 hIp]
      rw [if_neg (by omega), eg, ef, eh, el]
      show (stI g (rf b 3) (nI p) _).bind _ = b_X3_endDay_4 n (wI g (b + 4) p (nI (X.1 4 p + car X p))) b (nI (sm (fun p => lyi X p - car X p) p + (lyi X p - car X p))) (nI (p + 1))
      have key : (if nI 9999 < nI (X.1 4 p) + (if lev X p < got X 0 p + X.1 5 p then nI (lev X p) else nI (got X 0 p + X.1 5 p)) then nI 9999 else nI (X.1 4 p) + (if lev X p < got X 0 p + X.1 5 p then nI (lev X p) else nI (got X 0 p + X.1 5 p))) = nI (X.1 4 p + car X p) := by
        unfold car lyi
        generalize lev X p = L at b3
        generalize got X 0 p = G at b1
        generalize X.1 5 p = F at b2
        generalize X.1 4 p = H at b2
        by_cases c1 : L < G + F
        · simp only [if_pos c1]
          simp (disch := omega) only [L0, L1, L2, L3, L4, L5, L6, L7, L8, L9, L10, L11, L12, L13, L14, L15, L16, L20, L21, L42, L44, L48, L57, L59, L60, L63, L64, L99, L108, L112, L255, L462, L999, L9999, nI_add, pk_mul, nI_leI, nI_ltI, nI_eq, Option.bind_some]
          by_cases c2 : 9999 < H + L
          · rw [if_pos c2]; congr 1; omega
          · rw [if_neg c2]; congr 1; omega
        · simp only [if_neg c1]
          simp (disch := omega) only [L0, L1, L2, L3, L4, L5, L6, L7, L8, L9, L10, L11, L12, L13, L14, L15, L16, L20, L21, L42, L44, L48, L57, L59, L60, L63, L64, L99, L108, L112, L255, L462, L999, L9999, nI_add, pk_mul, nI_leI, nI_ltI, nI_eq, Option.bind_some]
          by_cases c2 : 9999 < H + (G + F)
          · rw [if_pos c2]; congr 1; omega
          · rw [if_neg c2]; congr 1; omega
      rw [key, rf3 hb, stI_n (by rw [vl4 hb]; exact hp6) (by omega)]
      have c1 := car_le X p
      rw [pk_sub (by omega), show X.1 4 p + car X p - X.1 4 p = car X p by omega]
      show b_X3_endDay_4 n _ b (nI (sm (fun p => lyi X p - car X p) p) + (nI (lyi X p) - nI (car X p))) _ = _
      rw [pk_sub c1.1, nI_add]
  · obtain ⟨g, x, y⟩ := s
    obtain ⟨e1, e2, e3, e4⟩ := hs
    dsimp only at e1 e2 e3 e4
    subst e1 e2
    have hIp := hI.ev1 (X.1 0 0)
    have eS := ev1_S X (X.1 0 0)
    have e40 : (ev1 X (X.1 0 0)).1 0 4 = X.1 0 4 := eS 0 4 (by decide)
    obtain ⟨h2, c1, c2⟩ := p_countDay hb e3.va (a := 0) (by decide) hIp.2.2.2.2.2.2.1
    obtain ⟨h3, t1, t2, t3, t4⟩ := p_turn (h := h2) hb
    have d1 : h3.1 b 8 = nI (X.1 0 1) := by
      rw [t2, if_neg (by omega), if_neg (by omega), if_neg (by omega), c2.1, if_neg (by omega), e3.2.1, eS 0 1 (by decide)]
    refine ⟨(nI (sm (fun p => lyi X p - car X p) (X.1 0 0)), wI h3 b 8 (nI (X.1 0 1 + 1))), ⟨rfl, VR.mk ⟨?_, ?_, fun j hj => ?_, fun c p hc1 hc5 hp => ?_, fun a p q ha hp hq => ?_, fun a p q ha hp hq => ?_⟩ (fun a p ha1 ha hp => ?_), ?_⟩, ?_⟩
    · show (wI h3 b 8 _).1 b 7 = nI ((eve X).1 0 0)
      rw [rdI, if_neg (by omega), t2, if_neg (by omega), if_neg (by omega), if_neg (by omega), c2.1, if_neg (by omega), e3.1, eS 0 0 (by decide)]
      rw [eve_S X (by omega) (by omega)]
    · show (wI h3 b 8 _).1 b 8 = nI ((eve X).1 0 1)
      rw [rdI, if_pos ⟨rfl, rfl⟩]
      show _ = nI (if 0 = 4 ∧ 1 < X.1 0 0 then X.1 4 1 + car X 1 else if 0 = 0 ∧ 1 = 1 then X.1 0 1 + 1 else X.1 0 1)
      rw [if_neg (by omega), if_pos ⟨rfl, rfl⟩]
    · show (wI h3 b 8 _).1 (b + 6) j = nI ((eve X).1 0 (2 + j))
      rw [rdI, if_neg (by omega), t2, if_neg (by omega), if_neg (by omega), if_neg (by omega), c2.1, if_neg (by omega), e3.2.2.1 j hj, eS 0 (2 + j) (by decide)]
      rw [eve_S X (by omega) (by omega)]
    · show (wI h3 b 8 _).1 (b + c) p = nI ((eve X).1 c p)
      rw [rdI, if_neg (by omega), t2, if_neg (by omega), if_neg (by omega), if_neg (by omega), c2.1, if_neg (by omega), e3.2.2.2.1 c p hc1 hc5 hp]
      show nI (if c = 4 ∧ p < X.1 0 0 then X.1 4 p + car X p else X.1 c p) = nI (if c = 4 ∧ p < X.1 0 0 then X.1 4 p + car X p else if c = 0 ∧ p = 1 then X.1 0 1 + 1 else X.1 c p)
      by_cases w : c = 4 ∧ p < X.1 0 0
      · rw [if_pos w, if_pos w]
      · rw [if_neg w, if_neg w, if_neg (by omega)]
    · show (wI h3 b 8 _).1 (b + 8) (a * 42 + p * 7 + q) = nI (if a = 0 then 0 else X.2 (a - 1) p q)
      rw [rdI, if_neg (by omega), t2]
      by_cases w : a = 0
      · rw [if_pos (by omega), if_pos w]
      · rw [if_neg (by omega), if_pos (by omega), if_neg w, c2.1, if_neg (by omega), show a * 42 + p * 7 + q - 42 = (a - 1) * 42 + p * 7 + q by omega]
        exact e3.2.2.2.2.1 (a - 1) p q (by omega) hp hq
    · show (wI h3 b 8 _).2.1 (b + 10) a &&& bitm (p * 6 + q) = 0 ↔ (if a = 0 then 0 else X.2 (a - 1) p q) = 0
      rw [wI_2, t3]
      by_cases w : a = 0
      · rw [if_pos ⟨rfl, w⟩, if_pos w]
        exact ⟨fun _ => rfl, fun _ => zero_and0 _⟩
      · rw [if_neg (by omega), if_pos ⟨rfl, ha⟩, if_neg w, c2.2]
        exact e3.va.2.2.2.2.2 (a - 1) p q (by omega) hp hq
    · show (wI h3 b 8 _).1 (b + 9) (a * 6 + p) = nI (cnt (eve X) a p)
      rw [rdI, if_neg (by omega), t2, if_neg (by omega), if_neg (by omega), if_pos (by omega), c2.1]
      rw [show a = (a - 1) + 1 by omega, cnt_eve]
      by_cases w : a = 1
      · subst w
        rw [if_pos (by omega), show (1 - 1 + 1) * 6 + p - 6 - 0 * 6 = p by omega]
        exact congrArg nI (cnt_congr e40 (fun _ _ _ _ => rfl) p)
      · rw [if_neg (by omega), show (a - 1 + 1) * 6 + p - 6 = (a - 1) * 6 + p by omega, e3.vc (a - 1) p (by omega) (by omega) hp]
        exact congrArg nI (cnt_congr e40 (fun _ _ _ _ => rfl) p)
    · refine e4.tr (c2.vf.tr (VF.tr (h1 := h3) ⟨fun c j w => by rw [t2, if_neg (by omega), if_neg (by omega), if_neg (by omega)], fun c j w => by rw [t3, if_neg (by omega), if_neg (by omega)], t4⟩ (VF.wI h3 _ _ (by omega) (by omega))))
    · show f_X3_endDay_4 (b_X3_endDay_4 n) g b (nI (sm (fun p => lyi X p - car X p) (X.1 0 0))) (nI (X.1 0 0)) = _
      unfold f_X3_endDay_4
      rw [e3.1, eS 0 0 (by decide)]
      simp (disch := omega) only [L0, L1, L2, L3, L4, L5, L6, L7, L8, L9, L10, L11, L12, L13, L14, L15, L16, L20, L21, L42, L44, L48, L57, L59, L60, L63, L64, L99, L108, L112, L255, L462, L999, L9999, nI_add, pk_mul, nI_leI, nI_ltI, nI_eq, Option.bind_some, ld_set hb e3]
      rw [if_pos (Nat.le_refl _), show 2 + 2 = 4 from rfl, c1]
      simp only [Option.bind_some]
      rw [t1]
      simp only [Option.bind_some]
      rw [d1, nI_add]
end VE
