/-! PURE: begins, helps -/
section BG
variable {h h' h1 h2 : Hp} {k : Nat} {X Y : St}
def tk (X : St) (i : Nat) : Nat := if X.1 1 i = 4 then nxo X i else X.1 3 i
def amB (X : St) (p : Nat) : Nat → Bool
  | 0 => false
  | i + 1 => amB X p i || (decide (i ≠ p) && decide (0 < X.1 4 i) && decide (tk X i = p))
set_option maxHeartbeats 400000 in
theorem amB_mono (X : St) (p : Nat) {i : Nat} (e : amB X p i = true) : ∀ j, i ≤ j → amB X p j = true
  | 0, hj => by rw [show (0 : Nat) = i from by omega]; exact e
  | j + 1, hj => by
    rcases Nat.lt_or_ge j i with z | z
    · rw [show j + 1 = i from by omega]
      exact e
    · show (amB X p j || _) = true
      rw [amB_mono X p e j z]
      rfl
set_option maxHeartbeats 400000 in
theorem tk_le (hI : Iv k X) {i : Nat} (hi : i < X.1 0 0) : tk X i ≤ 9 := by
  have hP := hI.2.1
  unfold tk nxo
  have := hI.2.2.2.2.2.2.2.2.2.1 i hi
  split
  · split <;> omega
  · omega
set_option maxHeartbeats 400000 in
theorem c_aim (hv : VR h 10 X) (hI : Iv k X) {p : Nat} (hp : p < 6) : sh_X3_isSomebodysTaker h 10 (nI p) = some (nI (if amB X p (X.1 0 0) then 1 else 0)) := by
  have hP := hI.2.1
  unfold sh_X3_isSomebodysTaker
  refine exE (lp (fun n (s : Int32) => b_X3_isSomebodysTaker_2 n h 10 (nI p) s) (fun i s => s = nI i ∧ amB X p i = false) (fun r => r = nI (if amB X p (X.1 0 0) then 1 else 0)) (X.1 0 0) (fun n i s hi hs => ?_) (fun n s hs => ?_) 1000 0 (0 : Int32) (by omega) ⟨rfl, rfl⟩ (by omega)) (fun r z1 z2 => by rw [← z1]; exact z2)
  · obtain ⟨rfl, hs⟩ := hs
    have h9 := (hI.2.2.2.2.2.2.2.2.1 i (by omega)).2.2.1
    have h7 := (hI.2.2.2.2.2.2.2.2.1 i (by omega)).1
    have ht := tk_le hI hi
    have st : b_X3_isSomebodysTaker_2 (n + 1) h 10 (nI p) (nI i) = b_X3_isSomebodysTaker_34 (b_X3_isSomebodysTaker_2 n) h 10 (nI p) (nI i) (nI (tk X i)) := by
      show f_X3_isSomebodysTaker_2 (b_X3_isSomebodysTaker_2 n) h 10 (nI p) (nI i) = _
      unfold f_X3_isSomebodysTaker_2 tk
      rw [hv.1, if_neg (nI_ge hi (by omega)), ld_kind v10 hv (by omega), Option.bind_some]
      by_cases w : X.1 1 i = 4
      · rw [w, if_pos (show nI 4 = (4 : Int32) from rfl), p_next hv hP (by omega), Option.bind_some, if_pos rfl]
      · rw [if_neg (show ¬ nI (X.1 1 i) = (4 : Int32) from by rw [L4, nI_eq (by omega) (by omega)]; exact w), ld_to v10 hv (by omega), Option.bind_some, if_neg w]
    have nx : b_X3_isSomebodysTaker_56 (b_X3_isSomebodysTaker_2 n) h 10 (nI p) (nI i) = b_X3_isSomebodysTaker_2 n h 10 (nI p) (nI (i + 1)) := by
      unfold b_X3_isSomebodysTaker_56
      rw [L1, nI_add]
    unfold b_X3_isSomebodysTaker_34 at st
    by_cases w1 : i = p
    · rw [if_pos (show nI i = nI p from by rw [w1]), nx] at st
      refine Or.inl ⟨nI (i + 1), ⟨rfl, ?_⟩, st⟩
      show (amB X p i || _) = false
      rw [hs, w1]
      simp
    · rw [if_neg (show ¬ nI i = nI p from by rw [nI_eq (by omega) (by omega)]; exact w1), ld_has v10 hv (by omega), Option.bind_some] at st
      by_cases w2 : X.1 4 i = 0
      · rw [if_pos (show nI (X.1 4 i) ≤ 0 from by rw [w2]; decide), nx] at st
        refine Or.inl ⟨nI (i + 1), ⟨rfl, ?_⟩, st⟩
        show (amB X p i || _) = false
        rw [hs, w2]
        simp
      · rw [if_neg (show ¬ nI (X.1 4 i) ≤ 0 from by rw [L0]; exact nI_ge (by omega) (by omega))] at st
        by_cases w3 : tk X i = p
        · rw [if_pos (show nI (tk X i) = nI p from by rw [w3])] at st
          refine Or.inr ⟨_, ?_, st⟩
          have : amB X p (i + 1) = true := by
            show (amB X p i || _) = true
            simp [w1, w3]
            omega
          rw [if_pos (amB_mono X p this _ (by omega))]
          rfl
        · rw [if_neg (show ¬ nI (tk X i) = nI p from by rw [nI_eq (by omega) (by omega)]; exact w3), nx] at st
          refine Or.inl ⟨nI (i + 1), ⟨rfl, ?_⟩, st⟩
          show (amB X p i || _) = false
          rw [hs]
          simp [w3]
  · obtain ⟨rfl, hs⟩ := hs
    refine ⟨_, rfl, ?_⟩
    show f_X3_isSomebodysTaker_2 (b_X3_isSomebodysTaker_2 n) h 10 (nI p) (nI (X.1 0 0)) = _
    unfold f_X3_isSomebodysTaker_2
    rw [hv.1, if_pos (nI_le (Nat.le_refl _) (by omega)), hs]
    rfl
set_option maxHeartbeats 400000 in
theorem m_aim (hm : MR h X) (hI : Iv k X) {p : Nat} (hp : p < 6) : sh_X5_isAimedAt h 120 (nI p) = some (nI (if amB X p (X.1 0 0) then 1 else 0)) := by
  have hP := hI.2.1
  refine lpE (fun n (s : Int32 × Int32) => b_X5_isAimedAt_4 n h 120 (nI p) s.1 s.2) (fun i => (nI (if amB X p i then 1 else 0), nI i)) _ (X.1 0 0) (fun n i hi => ?_) (fun n => ?_) 1000 0 (by omega) (by omega)
  · have h9 := (hI.2.2.2.2.2.2.2.2.1 i (by omega)).2.2.1
    have h7 := (hI.2.2.2.2.2.2.2.2.1 i (by omega)).1
    have ht := tk_le hI hi
    show f_X5_isAimedAt_4 (b_X5_isAimedAt_4 n) h 120 (nI p) (nI (if amB X p i then 1 else 0)) (nI i) = b_X5_isAimedAt_4 n h 120 (nI p) (nI (if amB X p i || (decide (i ≠ p) && decide (0 < X.1 4 i) && decide (tk X i = p)) then 1 else 0)) (nI (i + 1))
    have st : f_X5_isAimedAt_4 (b_X5_isAimedAt_4 n) h 120 (nI p) (nI (if amB X p i then 1 else 0)) (nI i) = b_X5_isAimedAt_39 (b_X5_isAimedAt_4 n) h 120 (nI p) (nI (if amB X p i then 1 else 0)) (nI i) (nI (tk X i)) := by
      unfold f_X5_isAimedAt_4 tk
      rw [hm.1 0 (by decide), if_neg (nI_ge hi (by omega)), md_kind hm (by omega), Option.bind_some]
      by_cases w : X.1 1 i = 4
      · rw [w, if_pos (show nI 4 = (4 : Int32) from rfl), L1, nI_add]
        unfold rmI nxo
        rw [if_neg (nI_ne0 (by omega) (by omega)), pk_rem (by omega) (by omega) (by omega), Option.bind_some, if_pos rfl]
        by_cases z : i + 1 < X.1 0 0
        · rw [if_pos z, Nat.mod_eq_of_lt z]
        · rw [if_neg z, show i + 1 = X.1 0 0 from by omega, Nat.mod_self]
      · rw [if_neg (show ¬ nI (X.1 1 i) = (4 : Int32) from by rw [L4, nI_eq (by omega) (by omega)]; exact w), md_to hm (by omega), Option.bind_some, if_neg w]
    rw [st]
    unfold b_X5_isAimedAt_39 b_X5_isAimedAt_69 b_X5_isAimedAt_65 b_X5_isAimedAt_70
    rw [L1, nI_add]
    by_cases w0 : amB X p i = true
    · rw [w0, if_neg (by decide)]
      rfl
    · have w0' : amB X p i = false := by simpa using w0
      rw [w0', if_pos (by decide)]
      by_cases w1 : i = p
      · rw [if_pos (show nI i = nI p from by rw [w1]), w1]
        simp
        rfl
      · rw [if_neg (show ¬ nI i = nI p from by rw [nI_eq (by omega) (by omega)]; exact w1), md_has hm (by omega), Option.bind_some]
        by_cases w2 : X.1 4 i = 0
        · rw [if_pos (show nI (X.1 4 i) ≤ 0 from by rw [w2]; decide), w2]
          simp
          rfl
        · rw [if_neg (show ¬ nI (X.1 4 i) ≤ 0 from by rw [L0]; exact nI_ge (by omega) (by omega))]
          by_cases w3 : tk X i = p
          · rw [if_pos (show nI (tk X i) = nI p from by rw [w3])]
            have : (false || (decide (i ≠ p) && decide (0 < X.1 4 i) && decide (tk X i = p))) = true := by
              simp [w1, w3]
              omega
            rw [this]
            rfl
          · rw [if_neg (show ¬ nI (tk X i) = nI p from by rw [nI_eq (by omega) (by omega)]; exact w3)]
            have : (false || (decide (i ≠ p) && decide (0 < X.1 4 i) && decide (tk X i = p))) = false := by simp [w3]
            rw [this]
            rfl
  · show f_X5_isAimedAt_4 (b_X5_isAimedAt_4 n) h 120 (nI p) (nI (if amB X p (X.1 0 0) then 1 else 0)) (nI (X.1 0 0)) = _
    unfold f_X5_isAimedAt_4 bol
    rw [hm.1 0 (by decide), if_pos (nI_le (Nat.le_refl _) (by omega))]
    cases amB X p (X.1 0 0) <;> rfl
-- who cannot begin
def skB (X : St) (i : Nat) : Bool := decide (X.1 4 i = 0) && (decide (X.1 5 i = 0) || decide (lev X i = 0)) && !(amB X i (X.1 0 0))
def sb (X : St) : Nat → Int32
  | 0 => 0
  | i + 1 => if skB X i then sb X i ||| ((1 : Int32) <<< (nI i &&& 31)) else sb X i
set_option maxHeartbeats 400000 in
theorem c_who (hv : VR h 10 X) (hI : Iv k X) : sh_X3_whoCannotBegin h 10 = some (sb X (X.1 0 0)) := by
  have hP := hI.2.1
  refine lpE (fun n (s : Int32 × Int32) => b_X3_whoCannotBegin_4 n h 10 s.1 s.2) (fun i => (sb X i, nI i)) _ (X.1 0 0) (fun n i hi => ?_) (fun n => ?_) 1000 0 (by omega) (by omega)
  · have h9 := (hI.2.2.2.2.2.2.2.2.1 i (by omega)).2.2.1
    have h5 := (hI.2.2.2.2.2.2.2.2.1 i (by omega)).2.2.2
    have hl := lev_le hI i
    show f_X3_whoCannotBegin_4 (b_X3_whoCannotBegin_4 n) h 10 (sb X i) (nI i) = b_X3_whoCannotBegin_4 n h 10 (if skB X i then sb X i ||| ((1 : Int32) <<< (nI i &&& 31)) else sb X i) (nI (i + 1))
    have st : f_X3_whoCannotBegin_4 (b_X3_whoCannotBegin_4 n) h 10 (sb X i) (nI i) = b_X3_whoCannotBegin_34 (b_X3_whoCannotBegin_4 n) h 10 (sb X i) (nI i) (nI (if X.1 5 i = 0 ∨ lev X i = 0 then 1 else 0)) := by
      unfold f_X3_whoCannotBegin_4
      rw [hv.1, if_neg (nI_ge hi (by omega)), ld_finds v10 hv (by omega), Option.bind_some]
      by_cases w : X.1 5 i = 0
      · rw [w, if_pos (show nI 0 = 0 from rfl), if_pos (Or.inl rfl)]
        rfl
      · rw [if_neg (show ¬ nI (X.1 5 i) = 0 from nI_ne0 (by omega) (by omega)), p_leave v10 hv hI (by omega), Option.bind_some]
        by_cases w2 : lev X i = 0
        · rw [w2, if_pos (show nI 0 = 0 from rfl), if_pos (Or.inr rfl)]
          rfl
        · rw [if_neg (show ¬ nI (lev X i) = 0 from nI_ne0 (by omega) (by omega)), if_neg (by omega)]
          rfl
    rw [st]
    unfold b_X3_whoCannotBegin_34 b_X3_whoCannotBegin_62
    rw [ld_has v10 hv (by omega), Option.bind_some, L1, nI_add]
    unfold skB
    by_cases w1 : X.1 4 i = 0
    · rw [w1, if_pos (show nI 0 = 0 from rfl)]
      by_cases w2 : X.1 5 i = 0 ∨ lev X i = 0
      · rw [if_pos w2, if_neg (by decide), c_aim hv hI (by omega), Option.bind_some]
        have e2 : (decide (X.1 5 i = 0) || decide (lev X i = 0)) = true := by rcases w2 with z | z <;> simp [z]
        rw [e2]
        cases amB X i (X.1 0 0) <;> rfl
      · rw [if_neg w2, if_pos (by decide)]
        have e2 : (decide (X.1 5 i = 0) || decide (lev X i = 0)) = false := by
          simp
          omega
        rw [e2]
        rfl
    · rw [if_neg (show ¬ nI (X.1 4 i) = 0 from nI_ne0 (by omega) (by omega))]
      have e1 : decide (X.1 4 i = 0) = false := by simpa using w1
      rw [e1]
      rfl
  · show f_X3_whoCannotBegin_4 (b_X3_whoCannotBegin_4 n) h 10 (sb X (X.1 0 0)) (nI (X.1 0 0)) = _
    unfold f_X3_whoCannotBegin_4
    rw [hv.1, if_pos (nI_le (Nat.le_refl _) (by omega))]
set_option maxHeartbeats 400000 in
theorem m_stuck (hm : MR h X) (hI : Iv k X) : sh_X5_stuck h 120 = some (sb X (X.1 0 0)) := by
  have hP := hI.2.1
  refine lpE (fun n (s : Int32 × Int32) => b_X5_stuck_4 n h 120 s.1 s.2) (fun i => (sb X i, nI i)) _ (X.1 0 0) (fun n i hi => ?_) (fun n => ?_) 1000 0 (by omega) (by omega)
  · have h9 := (hI.2.2.2.2.2.2.2.2.1 i (by omega)).2.2.1
    have h5 := (hI.2.2.2.2.2.2.2.2.1 i (by omega)).2.2.2
    have hl := lev_le hI i
    show f_X5_stuck_4 (b_X5_stuck_4 n) h 120 (sb X i) (nI i) = b_X5_stuck_4 n h 120 (if skB X i then sb X i ||| ((1 : Int32) <<< (nI i &&& 31)) else sb X i) (nI (i + 1))
    have aim : b_X5_stuck_38 (b_X5_stuck_4 n) h 120 (sb X i) (nI i) = b_X5_stuck_4 n h 120 (if !(amB X i (X.1 0 0)) then sb X i ||| ((1 : Int32) <<< (nI i &&& 31)) else sb X i) (nI (i + 1)) := by
      unfold b_X5_stuck_38 b_X5_stuck_50 b_X5_stuck_51 b_X5_stuck_65
      rw [m_aim hm hI (by omega), Option.bind_some, ← nI_add]
      cases amB X i (X.1 0 0) <;> rfl
    have no : b_X5_stuck_50 (b_X5_stuck_4 n) h 120 (sb X i) (nI i) = b_X5_stuck_4 n h 120 (sb X i) (nI (i + 1)) := by
      unfold b_X5_stuck_50 b_X5_stuck_51 b_X5_stuck_65
      rw [if_pos (by decide), L1, nI_add]
    unfold f_X5_stuck_4 skB
    rw [hm.1 0 (by decide), if_neg (nI_ge hi (by omega)), md_has hm (by omega), Option.bind_some, aim, no]
    by_cases w1 : X.1 4 i = 0
    · rw [w1, if_pos (show nI 0 = 0 from rfl), md_finds hm (by omega), Option.bind_some]
      by_cases w2 : X.1 5 i = 0
      · rw [w2, if_pos (show nI 0 = 0 from rfl)]
        simp
      · rw [if_neg (show ¬ nI (X.1 5 i) = 0 from nI_ne0 (by omega) (by omega)), m_leave hm hI (by omega), Option.bind_some]
        by_cases w3 : lev X i = 0
        · rw [w3, if_pos (show nI 0 = 0 from rfl)]
          simp
        · rw [if_neg (show ¬ nI (lev X i) = 0 from nI_ne0 (by omega) (by omega))]
          simp [w2, w3]
    · rw [if_neg (show ¬ nI (X.1 4 i) = 0 from nI_ne0 (by omega) (by omega))]
      simp [w1]
  · show f_X5_stuck_4 (b_X5_stuck_4 n) h 120 (sb X (X.1 0 0)) (nI (X.1 0 0)) = _
    unfold f_X5_stuck_4
    rw [hm.1 0 (by decide), if_pos (nI_le (Nat.le_refl _) (by omega))]
set_option maxHeartbeats 400000 in
theorem a_begins : Same k (fun h => Option.bind (sh_X4_begins h 0) fun v => some (v, h)) (fun h => sh_X5_begins h 120) := by
  intro h X Y g hk
  have g1 := g.th
  refine s_ok g hk (r := sb X (X.1 0 0)) (h1 := h) (h2 := th h) ?_ (Eq1.rf h) ?_ (Eq1.rf _)
  · show Option.bind (sh_X4_begins h 0) _ = _
    unfold sh_X4_begins
    rw [xf0, c_who g.2.1 g.1]
    rfl
  · show Option.bind (sh_X5_stuck (th h) 120) _ = _
    rw [m_stuck g1.2.2.1 g1.1]
    rfl
-- bits
def pc (m : Nat) : Nat → Nat := sm (fun i => m / 2 ^ i % 2)
def hp0 : Hp := (fun _ _ => 0, fun _ _ => 0, none)
set_option maxHeartbeats 400000 in
theorem bc_ok : ∀ m, m < 64 → sh_J6_bitCount_0f7a4 hp0 (nI m) = some (nI (pc m 6)) := by decide +kernel
set_option maxHeartbeats 400000 in
theorem bit_or : ∀ i, i < 6 → ∀ m, m < 64 → m < 2 ^ i → nI m ||| ((1 : Int32) <<< (nI i &&& 31)) = nI (m + 2 ^ i) := by decide +kernel
set_option maxHeartbeats 400000 in
theorem bit_at : ∀ m, m < 64 → ∀ i, i < 6 → (nI m >>> (nI i &&& 31)) &&& (1 : Int32) = nI (m / 2 ^ i % 2) := by decide +kernel
set_option maxHeartbeats 400000 in
theorem pc_le : ∀ m, m < 64 → pc m 6 ≤ 6 := by decide +kernel
set_option maxHeartbeats 400000 in
theorem sb_nat (X : St) : ∀ i, i ≤ 6 → ∃ m, m < 2 ^ i ∧ sb X i = nI m
  | 0, _ => ⟨0, by decide, rfl⟩
  | i + 1, hi => by
    obtain ⟨m, h1, h2⟩ := sb_nat X i (by omega)
    have hle : 2 ^ i ≤ 2 ^ 5 := Nat.pow_le_pow_right (by decide) (by omega)
    have hs : 2 ^ (i + 1) = 2 ^ i + 2 ^ i := by rw [Nat.pow_succ]; omega
    show ∃ m, m < 2 ^ (i + 1) ∧ (if skB X i then sb X i ||| ((1 : Int32) <<< (nI i &&& 31)) else sb X i) = nI m
    by_cases w : skB X i = true
    · rw [if_pos w, h2, bit_or i (by omega) m (by omega) h1]
      exact ⟨m + 2 ^ i, by omega, rfl⟩
    · rw [if_neg w, h2]
      exact ⟨m, by omega, rfl⟩
set_option maxHeartbeats 400000 in
theorem a_helps : Same k (fun h => Option.bind (sh_X4_helps h 0) fun v => some (v, h)) (fun h => sh_X5_helps h 120) := by
  intro h X Y g hk
  have hP := g.P
  have g1 := g.th
  have hm := g1.2.2.1
  obtain ⟨m, hm1, hm2⟩ := sb_nat X (X.1 0 0) hP
  have h64 : m < 64 := by
    have : 2 ^ (X.1 0 0) ≤ 2 ^ 6 := Nat.pow_le_pow_right (by decide) hP
    omega
  have hpc := pc_le m h64
  have hbc : sh_J6_bitCount_0f7a4 h (nI m) = some (nI (pc m 6)) := bc_ok m h64
  have hl : b_X5_helps_14 1000 (th h) 120 (nI m) (0 : Int32) (0 : Int32) = f_X5_helps_14 (b_X5_helps_14 993) (th h) 120 (nI m) (nI (pc m 6)) (nI 6) := by
    have key : ∀ (f i : Nat), f + i = 6 → b_X5_helps_14 (994 + f) (th h) 120 (nI m) (nI (pc m i)) (nI i) = f_X5_helps_14 (b_X5_helps_14 993) (th h) 120 (nI m) (nI (pc m 6)) (nI 6) := by
      intro f
      induction f with
      | zero =>
        intro i e
        have e' : i = 6 := by omega
        subst e'
        rfl
      | succ f ih =>
        intro i e
        show f_X5_helps_14 (b_X5_helps_14 (994 + f)) (th h) 120 (nI m) (nI (pc m i)) (nI i) = _
        rw [← ih (i + 1) (by omega)]
        unfold f_X5_helps_14
        rw [L6, if_neg (nI_ge (by omega) (by omega)), bit_at m h64 i (by omega), L1, nI_add, nI_add]
        rfl
    exact key 6 0 rfl
  have hr := rcs_le X (X.1 0 0)
  refine s_ok g hk (r := if pc m 6 = 0 then -9 else rcI (raf X (some (pc m 6)) (X.1 0 0))) (h1 := h) (h2 := th h) ?_ (Eq1.rf h) ?_ (Eq1.rf _)
  · show Option.bind (sh_X4_helps h 0) _ = _
    unfold sh_X4_helps b_X4_helps_28
    rw [xf0, c_who g.2.1 g.1, Option.bind_some, hm2, hbc, Option.bind_some]
    by_cases w : pc m 6 = 0
    · rw [w, if_pos (show nI 0 = 0 from rfl), if_pos rfl]
      rfl
    · have := p_richest v10 g.2.1 g.1 (some (pc m 6)) (fun n e => by cases e; omega)
      have this' : sh_X3_richestAbove h 10 (nI (pc m 6)) = some (rcI (raf X (some (pc m 6)) (X.1 0 0))) := this
      rw [if_neg (show ¬ nI (pc m 6) = 0 from nI_ne0 (by omega) (by omega)), this', if_neg w]
      rfl
  · show Option.bind (sh_X5_stuck (th h) 120) (fun v1 => b_X5_helps_14 1000 (th h) 120 v1 (0 : Int32) (0 : Int32)) = _
    rw [m_stuck hm g.1, Option.bind_some, hm2, hl]
    unfold f_X5_helps_14 b_X5_helps_61 b_X5_helps_63
    rw [L6, if_pos (nI_le (Nat.le_refl _) (by omega)), m_richest hm g.1, Option.bind_some]
    by_cases w : pc m 6 = 0
    · rw [w, if_pos (show nI 0 ≤ 0 from by decide), if_pos rfl]
    · rw [if_neg (show ¬ nI (pc m 6) ≤ 0 from by rw [L0]; exact nI_ge (by omega) (by omega)), if_neg w]
      rw [show raf X (some (pc m 6)) (X.1 0 0) = if rcs X (X.1 0 0) ≠ 0 ∧ pc m 6 < X.1 4 (rcs X (X.1 0 0) - 1) then rcs X (X.1 0 0) else 0 from rfl]
      unfold rcI
      by_cases z : rcs X (X.1 0 0) = 0
      · rw [if_pos z, if_pos (show (-9 : Int32) < 0 from by decide), if_neg (show ¬ (rcs X (X.1 0 0) ≠ 0 ∧ pc m 6 < X.1 4 (rcs X (X.1 0 0) - 1)) from by omega), if_pos rfl]
      · have h9 := (g.1.2.2.2.2.2.2.2.2.1 (rcs X (X.1 0 0) - 1) (by omega)).2.2.1
        rw [if_neg z, if_neg (show ¬ nI (rcs X (X.1 0 0) - 1) < 0 from nI_pos (by omega)), md_has hm (by omega), Option.bind_some]
        by_cases y : pc m 6 < X.1 4 (rcs X (X.1 0 0) - 1)
        · rw [if_neg (show ¬ nI (X.1 4 (rcs X (X.1 0 0) - 1)) ≤ nI (pc m 6) from nI_ge y (by omega)), if_pos (show rcs X (X.1 0 0) ≠ 0 ∧ pc m 6 < X.1 4 (rcs X (X.1 0 0) - 1) from ⟨z, y⟩), if_neg z]
        · rw [if_pos (show nI (X.1 4 (rcs X (X.1 0 0) - 1)) ≤ nI (pc m 6) from nI_le (by omega) (by omega)), if_neg (show ¬ (rcs X (X.1 0 0) ≠ 0 ∧ pc m 6 < X.1 4 (rcs X (X.1 0 0) - 1)) from by omega), if_pos rfl]
end BG
