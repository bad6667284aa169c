/-! PURE: the reference reads statements -/
section SM
variable {h h' h1 h2 : Hp} {k : Nat} {X Y : St} {L : Nat} {c : Nat → Int32}
def LFr (k : Nat) (h g : Hp) : Prop := (∀ a j, ¬ (a = 131 ∧ j = k) → ¬ (a = 132 ∧ j = k) → ¬ (a = 133 ∧ 5 * k ≤ j ∧ j < 5 * k + 5) → ¬ (a = 120 ∧ (22 ≤ j ∧ j ≤ 24)) → g.1 a j = h.1 a j) ∧ g.2 = h.2
set_option maxHeartbeats 400000 in
theorem LFr.rf (k : Nat) (h : Hp) : LFr k h h := ⟨fun _ _ _ _ _ _ => rfl, rfl⟩
set_option maxHeartbeats 400000 in
theorem LFr.tr (a : LFr k h h1) (b : LFr k h1 h2) : LFr k h h2 := ⟨fun i j q1 q2 q3 q4 => (b.1 i j q1 q2 q3 q4).trans (a.1 i j q1 q2 q3 q4), b.2.trans a.2⟩
set_option maxHeartbeats 400000 in
theorem LFr.wI (h : Hp) {a j : Nat} (v : Int32) (hc : (a = 131 ∧ j = k) ∨ (a = 132 ∧ j = k) ∨ (a = 133 ∧ 5 * k ≤ j ∧ j < 5 * k + 5) ∨ (a = 120 ∧ (22 ≤ j ∧ j ≤ 24))) : LFr k h (wI h a j v) := ⟨fun i l q1 q2 q3 q4 => by rw [rdI, if_neg (by omega)], rfl⟩
set_option maxHeartbeats 400000 in
theorem LFr.ty (f : LFr k h h1) (hk : k ≤ 32) (t : TY L c h) : TY L c h1 := ⟨by rw [f.1 120 21 (by omega) (by omega) (by omega) (by omega)]; exact t.1, fun j hj => by rw [f.1 130 j (by omega) (by omega) (by omega) (by omega)]; exact t.2 j hj⟩
def VL (c : Nat → Int32) (i k : Nat) (g : Hp) : Prop := g.1 131 k = nI i ∧ g.1 132 k = c i ∧ (∀ j, j < 3 → g.1 133 (5 * k + j) = nI (dv (c (i + 1 + j)))) ∧ (c i ≠ 108 → g.1 133 (5 * k + 3) = nI (nv c (i + 4) (rn c (i + 4) 4)) ∧ g.1 133 (5 * k + 4) = nI (nv c (i + 5 + rn c (i + 4) 4) (rn c (i + 5 + rn c (i + 4) 4) 2)))
set_option maxHeartbeats 400000 in
theorem y172 (hc : Ch L c) (t : TY L c h) {i : Nat} (hi : i < 1000) (h24 : h.1 120 24 = nI k) : b_X5_readStatement_172 (WW h i 0) 120 = some (WW (wI h 120 24 (nI (k + 1))) (if c i = 59 then i + 1 else i) (if c i = 59 then 0 else 1)) := by
  have w24 : ∀ i b, (WW h i b).1 120 24 = nI k := fun i b => by rw [WW_rd, if_neg (by omega), if_neg (by omega), h24]
  unfold b_X5_readStatement_172
  rw [y_take0 hc t hi, Option.bind_some]
  by_cases w : c i = 59
  · rw [if_pos w, if_pos w, if_pos w, w24, L1, nI_add, WW_w _ _ _ _ (by omega)]
  · rw [if_neg w, if_neg w, if_neg w, w24, L1, nI_add, WW_w _ _ _ _ (by omega)]
set_option maxHeartbeats 400000 in
theorem y172b (h : Hp) (i : Nat) (h24 : h.1 120 24 = nI k) : b_X5_readStatement_172 (WW h i 1) 120 = some (WW (wI h 120 24 (nI (k + 1))) i 1) := by
  have w24 : ∀ i b, (WW h i b).1 120 24 = nI k := fun i b => by rw [WW_rd, if_neg (by omega), if_neg (by omega), h24]
  unfold b_X5_readStatement_172
  rw [y_take1, Option.bind_some, w24, L1, nI_add, WW_w _ _ _ _ (by omega)]
set_option maxHeartbeats 400000 in
theorem len133 {j : Nat} (hj : j < 165) : j < len 133 := hj
set_option maxHeartbeats 400000 in
theorem y86 (hc : Ch L c) (x2 : Int32) {i : Nat} (hk : k ≤ 30) (hi : i < 100) : ∀ (f x fuel : Nat) (g : Hp), f + x = 3 → f + 1 < fuel → TY L c g → ∃ g', b_X5_readStatement_86 fuel (WW g (i + x) 0) 120 (nI (5 * k)) x2 (nI x) = b_X5_readStatement_116 (WW g' (i + x + rn c (i + x) f) (if rn c (i + x) f < f then 1 else 0)) 120 (nI (5 * k)) x2 ∧ LFr k g g' ∧ (∀ a j, ¬ (a = 133 ∧ 5 * k + x ≤ j) → g'.1 a j = g.1 a j) ∧ (∀ j, x ≤ j → j < x + rn c (i + x) f → g'.1 133 (5 * k + j) = nI (dv (c (i + j))))
  | f, x, 0, g, e, hf, t => by omega
  | f, x, 1, g, e, hf, t => by omega
  | 0, x, fuel + 2, g, e, hf, t => by
    refine ⟨g, ?_, LFr.rf _ _, fun _ _ _ => rfl, fun j h1 h2 => ?_⟩
    · show f_X5_readStatement_86 (b_X5_readStatement_86 (fuel + 1)) (WW g (i + x) 0) 120 (nI (5 * k)) x2 (nI x) = _
      unfold f_X5_readStatement_86
      rw [L3, if_pos (nI_le (by omega) (by omega))]
      rfl
    · have h2' : j < x + 0 := h2
      omega
  | f + 1, x, fuel + 2, g, e, hf, t => by
    have st : b_X5_readStatement_86 (fuel + 2) (WW g (i + x) 0) 120 (nI (5 * k)) x2 (nI x) = if dg (c (i + x)) then b_X5_readStatement_86 (fuel + 1) (WW (wI g 133 (5 * k + x) (nI (dv (c (i + x))))) (i + x + 1) 0) 120 (nI (5 * k)) x2 (nI (x + 1)) else b_X5_readStatement_86 (fuel + 1) (WW (wI g 133 (5 * k + x) (nI 0)) (i + x) 1) 120 (nI (5 * k)) x2 (nI (x + 1)) := by
      show f_X5_readStatement_86 (b_X5_readStatement_86 (fuel + 1)) (WW g (i + x) 0) 120 (nI (5 * k)) x2 (nI x) = _
      unfold f_X5_readStatement_86
      rw [L3, if_neg (nI_ge (by omega) (by omega)), WW_23, if_pos (show nI 0 = 0 from rfl), y_rd0 hc t (by omega), Option.bind_some, mf27, nI_add, stI_n (a := 133) (len133 (by omega)) (by omega), Option.bind_some, L1, nI_add]
      by_cases w : dg (c (i + x)) = true
      · rw [if_pos w, if_pos w, WW_w _ _ _ _ (by omega)]
      · rw [if_neg w, if_neg w, WW_w _ _ _ _ (by omega)]
    show ∃ g', b_X5_readStatement_86 (fuel + 2) (WW g (i + x) 0) 120 (nI (5 * k)) x2 (nI x) = b_X5_readStatement_116 (WW g' (i + x + (if dg (c (i + x)) then 1 + rn c (i + x + 1) f else 0)) (if (if dg (c (i + x)) then 1 + rn c (i + x + 1) f else 0) < f + 1 then 1 else 0)) 120 (nI (5 * k)) x2 ∧ LFr k g g' ∧ (∀ a j, ¬ (a = 133 ∧ 5 * k + x ≤ j) → g'.1 a j = g.1 a j) ∧ (∀ j, x ≤ j → j < x + (if dg (c (i + x)) then 1 + rn c (i + x + 1) f else 0) → g'.1 133 (5 * k + j) = nI (dv (c (i + j))))
    rw [st]
    by_cases w : dg (c (i + x)) = true
    · rw [if_pos w, if_pos w]
      have lf : LFr k g (wI g 133 (5 * k + x) (nI (dv (c (i + x))))) := LFr.wI g _ (by omega)
      obtain ⟨g', k1, k2, k3, k4⟩ := y86 hc x2 hk hi f (x + 1) (fuel + 1) (wI g 133 (5 * k + x) (nI (dv (c (i + x))))) (by omega) (by omega) (lf.ty (by omega) t)
      rw [show i + (x + 1) = i + x + 1 from by omega] at k1 k4
      refine ⟨g', ?_, lf.tr k2, fun a j q => ?_, fun j q1 q2 => ?_⟩
      · rw [k1, show i + x + 1 + rn c (i + x + 1) f = i + x + (1 + rn c (i + x + 1) f) from by omega]
        congr 2
        by_cases z : rn c (i + x + 1) f < f
        · rw [if_pos z, if_pos (by omega)]
        · rw [if_neg z, if_neg (by omega)]
      · rw [k3 a j (by omega), rdI, if_neg (by omega)]
      · by_cases z : j = x
        · rw [z, k3 133 (5 * k + x) (by omega), rdI, if_pos ⟨rfl, rfl⟩]
        · rw [k4 j (by omega) (by omega)]
    · rw [if_neg w, if_neg w, if_pos (show 0 < f + 1 from by omega)]
      refine ⟨wI g 133 (5 * k + x) (nI 0), ?_, LFr.wI g _ (by omega), fun a j q => by rw [rdI, if_neg (by omega)], fun j q1 q2 => by omega⟩
      show f_X5_readStatement_86 (b_X5_readStatement_86 fuel) (WW (wI g 133 (5 * k + x) (nI 0)) (i + x) 1) 120 (nI (5 * k)) x2 (nI (x + 1)) = _
      unfold f_X5_readStatement_86
      rw [WW_23, if_neg (show ¬ nI 1 = 0 from by decide), ite_self, Nat.add_zero]
set_option maxHeartbeats 400000 in
theorem m_stmt (hc : Ch L c) (t : TY L c h) {i : Nat} (hk : k ≤ 30) (hi : i < 90) (h24 : h.1 120 24 = nI k) : ∃ g, sh_X5_readStatement (WW h i 0) 120 = some (WW g (ps c i).2 (if (ps c i).1 then 0 else 1)) ∧ g.1 120 24 = nI (k + 1) ∧ LFr k h g ∧ ((ps c i).1 = true → VL c i k g) := by
  have r3 := rn_le c 3 (i + 1)
  have w24 : ∀ i b, (WW h i b).1 120 24 = nI k := fun i b => by rw [WW_rd, if_neg (by omega), if_neg (by omega), h24]
  generalize hh3 : wI (wI h 131 k (nI i)) 132 k (c i) = h3
  have e3 : ∀ a j, h3.1 a j = if a = 132 ∧ j = k then c i else if a = 131 ∧ j = k then nI i else h.1 a j := fun a j => by rw [← hh3, rdI, rdI]
  have lf3 : LFr k h h3 := by
    rw [← hh3]
    exact (LFr.wI h _ (by omega)).tr (LFr.wI _ _ (by omega))
  have t3 : TY L c h3 := lf3.ty (by omega) t
  have h24' : h3.1 120 24 = nI k := by rw [e3, if_neg (by omega), if_neg (by omega), h24]
  have st : sh_X5_readStatement (WW h i 0) 120 = if c i = (112 : Int32) then b_X5_readStatement_86 1000 (WW h3 (i + 1) 0) 120 (nI (5 * k)) (c i) (nI 0) else if c i = (108 : Int32) then b_X5_readStatement_86 1000 (WW h3 (i + 1) 0) 120 (nI (5 * k)) (c i) (nI 0) else b_X5_readStatement_86 1000 (WW h3 i 1) 120 (nI (5 * k)) (c i) (nI 0) := by
    have q22 : ∀ i b, (WW h3 i b).1 120 22 = nI i := fun i b => WW_22 h3 i b
    unfold sh_X5_readStatement b_X5_readStatement_59 b_X5_readStatement_55 b_X5_readStatement_60 b_X5_readStatement_80
    rw [y_here hc t (by omega), Option.bind_some, w24, WW_22, mf25, stI_n (a := 131) (show k < 33 from by omega) (by omega), Option.bind_some, WW_w _ _ _ _ (by omega), mf26]
    have w24' : (WW (wI h 131 k (nI i)) i 0).1 120 24 = nI k := by rw [WW_rd, if_neg (by omega), if_neg (by omega), rdI, if_neg (by omega), h24]
    rw [w24', stI_n (a := 132) (show k < 33 from by omega) (by omega), Option.bind_some, WW_w _ _ _ _ (by omega), hh3, WW_23, if_pos (show nI 0 = 0 from rfl), L5, pk_mul, bol0, bol1, Option.bind_some, Option.bind_some, WW_b, WW_b, WW_23, WW_23, if_pos (show nI 0 = 0 from rfl), if_neg (show ¬ nI 1 = 0 from by decide), WW_22, WW_22, L1, L0, nI_add, nI_add, WW_i, WW_i]
    rfl
  rw [st]
  have bad116 : ∀ g j x2, g.1 120 24 = nI k → b_X5_readStatement_116 (WW g j 1) 120 (nI (5 * k)) x2 = some (WW (wI g 120 24 (nI (k + 1))) j 1) := fun g j x2 q => by
    unfold b_X5_readStatement_116
    rw [WW_23, if_neg (show ¬ nI 1 = 0 from by decide), y172b g j q]
  have w24f : ∀ g : Hp, (wI g 120 24 (nI (k + 1))).1 120 24 = nI (k + 1) := fun g => by rw [rdI, if_pos ⟨rfl, rfl⟩]
  obtain ⟨g1, k1, k2, k3, k4⟩ := y86 hc (c i) (i := i + 1) hk (by omega) 3 0 1000 h3 (by omega) (by omega) t3
  rw [Nat.add_zero] at k1 k4
  have g24 : g1.1 120 24 = nI k := by rw [k3 120 24 (by omega), h24']
  have tg1 : TY L c g1 := k2.ty (by omega) t3
  have lf1 : LFr k h g1 := lf3.tr k2
  have e131 : g1.1 131 k = nI i := by rw [k3 131 k (by omega), e3, if_neg (by omega), if_pos ⟨rfl, rfl⟩]
  have e132 : g1.1 132 k = c i := by rw [k3 132 k (by omega), e3, if_pos ⟨rfl, rfl⟩]
  by_cases wl : c i = 108
  · rw [if_neg (show ¬ c i = (112 : Int32) from by rw [wl]; decide), if_pos wl, k1]
    unfold ps
    rw [if_pos wl]
    by_cases w1 : rn c (i + 1) 3 < 3
    · rw [if_pos w1, if_pos w1, bad116 g1 _ _ g24]
      exact ⟨_, rfl, w24f _, lf1.tr (LFr.wI _ _ (by omega)), fun z => absurd z Bool.false_ne_true⟩
    · rw [if_neg w1, if_neg w1, show i + 1 + rn c (i + 1) 3 = i + 4 from by omega]
      unfold b_X5_readStatement_116
      rw [WW_23, if_pos (show nI 0 = 0 from rfl), if_neg (show ¬ c i = (112 : Int32) from by rw [wl]; decide), y172 hc tg1 (by omega) g24]
      have vl : VL c i k (wI g1 120 24 (nI (k + 1))) := by
        refine ⟨by rw [rdI, if_neg (by omega), e131], by rw [rdI, if_neg (by omega), e132], fun j hj => ?_, fun z => absurd wl z⟩
        rw [rdI, if_neg (by omega), k4 j (by omega) (by omega)]
      by_cases w2 : c (i + 4) = 59
      · rw [if_pos w2, if_pos w2, if_pos w2]
        exact ⟨_, rfl, w24f _, lf1.tr (LFr.wI _ _ (by omega)), fun _ => vl⟩
      · rw [if_neg w2, if_neg w2, if_neg w2]
        exact ⟨_, rfl, w24f _, lf1.tr (LFr.wI _ _ (by omega)), fun z => absurd z Bool.false_ne_true⟩
  · by_cases wp : c i = 112
    · rw [if_pos wp, k1]
      unfold ps
      rw [if_neg wl, if_pos wp]
      have sp := rn_split c 3 4 (i + 1)
      rw [show i + 1 + 3 = i + 4 from by omega] at sp
      have sp' : rn c (i + 1) 7 = if rn c (i + 1) 3 < 3 then rn c (i + 1) 3 else 3 + rn c (i + 4) 4 := sp
      by_cases w1 : rn c (i + 1) 3 < 3
      · rw [if_pos w1] at sp'
        rw [if_pos w1, sp', if_pos (show rn c (i + 1) 3 < 4 from by omega), bad116 g1 _ _ g24]
        exact ⟨_, rfl, w24f _, lf1.tr (LFr.wI _ _ (by omega)), fun z => absurd z Bool.false_ne_true⟩
      · rw [if_neg w1] at sp'
        rw [if_neg w1, sp', show i + 1 + rn c (i + 1) 3 = i + 4 from by omega, show i + 1 + (3 + rn c (i + 4) 4) = i + 4 + rn c (i + 4) 4 from by omega]
        have r4 := rn_le c 4 (i + 4)
        have nm := y_num hc tg1 (i := i + 4) (M := 4) (by omega) (by omega) (by omega)
        have st2 : b_X5_readStatement_116 (WW g1 (i + 4) 0) 120 (nI (5 * k)) (c i) = Option.bind (sh_X5_take (WW (wI g1 133 (5 * k + 3) (nI (nv c (i + 4) (rn c (i + 4) 4)))) (i + 4 + rn c (i + 4) 4) (if rn c (i + 4) 4 < 1 then 1 else 0)) 120 (44 : Int32)) fun h3 => if (h3.1 120 23) = 0 then Option.bind (sh_X5_readNumber h3 120 (nI 2)) fun q4 => b_X5_readStatement_171 q4.2 120 133 (nI (5 * k + 4)) q4.1 else b_X5_readStatement_171 h3 120 133 (nI (5 * k + 4)) (nI 0) := by
          unfold b_X5_readStatement_116
          rw [WW_23, if_pos (show nI 0 = 0 from rfl), if_pos wp, L4, nm, Option.bind_some, mf27, L3, nI_add, stI_n (a := 133) (len133 (by omega)) (by omega), Option.bind_some, WW_w _ _ _ _ (by omega), nI_add]
          rfl
        rw [st2]
        generalize hg2 : wI g1 133 (5 * k + 3) (nI (nv c (i + 4) (rn c (i + 4) 4))) = g2
        have e2 : ∀ a j, g2.1 a j = if a = 133 ∧ j = 5 * k + 3 then nI (nv c (i + 4) (rn c (i + 4) 4)) else g1.1 a j := fun a j => by rw [← hg2, rdI]
        have lf2 : LFr k h g2 := by
          rw [← hg2]
          exact lf1.tr (LFr.wI _ _ (by omega))
        have tg2 : TY L c g2 := lf2.ty (by omega) t
        have b171 : ∀ (g : Hp) (j b : Nat) (v : Int32), g.1 120 24 = nI k → b_X5_readStatement_171 (WW g j b) 120 133 (nI (5 * k + 4)) v = b_X5_readStatement_172 (WW (wI g 133 (5 * k + 4) v) j b) 120 := fun g j b v _ => by
          unfold b_X5_readStatement_171
          rw [stI_n (a := 133) (len133 (by omega)) (by omega), Option.bind_some, WW_w _ _ _ _ (by omega)]
        have g224 : g2.1 120 24 = nI k := by rw [e2, if_neg (by omega), g24]
        have q24 : ∀ v : Int32, (wI g2 133 (5 * k + 4) v).1 120 24 = nI k := fun v => by rw [rdI, if_neg (by omega), g224]
        have lq : ∀ v : Int32, LFr k h (wI (wI g2 133 (5 * k + 4) v) 120 24 (nI (k + 1))) := fun v => (lf2.tr (LFr.wI _ _ (by omega))).tr (LFr.wI _ _ (by omega))
        have badr : ∀ j, ∃ g, b_X5_readStatement_171 (WW g2 j 1) 120 133 (nI (5 * k + 4)) (nI 0) = some (WW g j 1) ∧ g.1 120 24 = nI (k + 1) ∧ LFr k h g := fun j => ⟨_, by rw [b171 g2 j 1 _ g224, y172b _ j (q24 _)], w24f _, lq _⟩
        generalize hr : rn c (i + 4) 4 = r at *
        by_cases w2 : r < 1
        · rw [if_pos w2, if_pos (show 3 + r < 4 from by omega), y_take1, Option.bind_some, WW_23, if_neg (show ¬ nI 1 = 0 from by decide)]
          obtain ⟨g, s1, s2, s3⟩ := badr (i + 4 + r)
          exact ⟨g, s1, s2, s3, fun z => absurd z Bool.false_ne_true⟩
        · rw [if_neg w2, if_neg (show ¬ 3 + r < 4 from by omega), y_take0 hc tg2 (by omega), Option.bind_some]
          by_cases w3 : c (i + 4 + r) = 44
          · rw [if_pos w3, if_pos w3, WW_23, if_pos (show nI 0 = 0 from rfl), show i + 4 + r + 1 = i + 5 + r from by omega, y_num hc tg2 (by omega) (by omega) (by omega), Option.bind_some, b171 _ _ _ _ g224]
            have r2 := rn_le c 2 (i + 5 + r)
            generalize hm : rn c (i + 5 + r) 2 = m at *
            by_cases w4 : m < 1
            · rw [if_pos w4, if_pos w4, y172b _ _ (q24 _)]
              exact ⟨_, rfl, w24f _, lq _, fun z => absurd z Bool.false_ne_true⟩
            · rw [if_neg w4, if_neg w4, y172 hc ((lf2.tr (LFr.wI g2 _ (by omega))).ty (by omega) t) (by omega) (q24 _)]
              have vl : VL c i k (wI (wI g2 133 (5 * k + 4) (nI (nv c (i + 5 + r) m))) 120 24 (nI (k + 1))) := by
                refine ⟨?_, ?_, fun j hj => ?_, fun _ => ⟨?_, ?_⟩⟩
                · rw [rdI, if_neg (by omega), rdI, if_neg (by omega), e2, if_neg (by omega), e131]
                · rw [rdI, if_neg (by omega), rdI, if_neg (by omega), e2, if_neg (by omega), e132]
                · rw [rdI, if_neg (by omega), rdI, if_neg (by omega), e2, if_neg (by omega), k4 j (by omega) (by omega)]
                · rw [rdI, if_neg (by omega), rdI, if_neg (by omega), e2, if_pos ⟨rfl, rfl⟩, hr]
                · rw [rdI, if_neg (by omega), rdI, if_pos ⟨rfl, rfl⟩, hr, hm]
              by_cases w5 : c (i + 5 + r + m) = 59
              · rw [if_pos w5, if_pos w5, if_pos w5]
                exact ⟨_, rfl, w24f _, lq _, fun _ => vl⟩
              · rw [if_neg w5, if_neg w5, if_neg w5]
                exact ⟨_, rfl, w24f _, lq _, fun z => absurd z Bool.false_ne_true⟩
          · rw [if_neg w3, if_neg w3, WW_23, if_neg (show ¬ nI 1 = 0 from by decide)]
            obtain ⟨g, s1, s2, s3⟩ := badr (i + 4 + r)
            exact ⟨g, s1, s2, s3, fun z => absurd z Bool.false_ne_true⟩
    · rw [if_neg wp, if_neg wl]
      unfold ps
      rw [if_neg wl, if_neg wp]
      refine ⟨wI h3 120 24 (nI (k + 1)), ?_, w24f _, lf3.tr (LFr.wI _ _ (by omega)), fun z => absurd z Bool.false_ne_true⟩
      show f_X5_readStatement_86 (b_X5_readStatement_86 999) (WW h3 i 1) 120 (nI (5 * k)) (c i) (nI 0) = _
      unfold f_X5_readStatement_86
      rw [WW_23, if_neg (show ¬ nI 1 = 0 from by decide), ite_self, bad116 h3 _ _ h24']
      rfl
end SM
