/-! PURE: where both begin -/
def X00 : St := (fun k i => if k = 0 ∧ i = 3 then 3 else if k = 0 ∧ i = 5 then 1 else 0, fun _ _ _ => 0)
set_option maxHeartbeats 400000 in
theorem X00_1 {k : Nat} (hk : k ≠ 0) (i : Nat) : X00.1 k i = 0 := by
  show (if k = 0 ∧ i = 3 then 3 else if k = 0 ∧ i = 5 then 1 else 0) = 0
  rw [if_neg (fun h => hk h.1), if_neg (fun h => hk h.1)]
set_option maxHeartbeats 400000 in
theorem sm_0 : ∀ n, sm (fun _ => 0) n = 0
  | 0 => rfl
  | n + 1 => by
    show sm (fun _ => 0) n + 0 = 0
    rw [sm_0 n]
set_option maxHeartbeats 400000 in
theorem cnt_0 (a p : Nat) : cnt X00 a p = 0 := by
  have e : (fun q => if cb X00 a p q then 0 else X00.2 a p q) = (fun _ => 0) := funext fun q => by
    show (if cb X00 a p q then 0 else 0) = 0
    split <;> rfl
  show 0 + sm (fun q => if cb X00 a p q then 0 else X00.2 a p q) 6 = 0
  rw [e, sm_0]
set_option maxHeartbeats 400000 in
theorem iv_0 : Iv 0 X00 := ⟨by decide, by decide, by decide, by decide, by decide, by decide, by decide, by decide, fun p _ => ⟨by rw [X00_1 (by decide)]; decide, by rw [X00_1 (by decide)]; decide, by rw [X00_1 (by decide)]; decide, by rw [X00_1 (by decide)]; decide⟩, fun p hp => absurd hp (Nat.not_lt_zero p), fun _ _ _ => Nat.zero_le _, fun _ _ _ _ => rfl⟩
set_option maxHeartbeats 400000 in
theorem vr_0 : VR h00 10 X00 := by
  refine ⟨rfl, rfl, fun j hj => ?_, fun k p h1 h2 h3 => ?_, fun a p q h1 h2 h3 => rfl, fun a p h1 h2 h3 => ?_, fun a p q h1 h2 h3 => ?_⟩
  · rcases (show j = 0 ∨ j = 1 ∨ j = 2 ∨ j = 3 by omega) with rfl | rfl | rfl | rfl <;> decide
  · rw [X00_1 (by omega)]
    rcases (show k = 1 ∨ k = 2 ∨ k = 3 ∨ k = 4 ∨ k = 5 by omega) with rfl | rfl | rfl | rfl | rfl <;> rfl
  · rw [cnt_0]
    rfl
  · refine ⟨fun _ => rfl, fun _ => ?_⟩
    show (0 : Int64) &&& _ = 0
    exact Int64.zero_and
set_option maxHeartbeats 400000 in
theorem mr_0 : MR h00 X00 := by
  refine ⟨fun j hj => ?_, fun p hp => ?_, fun a p q h1 h2 h3 h4 => rfl⟩
  · rcases (show j = 0 ∨ j = 1 ∨ j = 2 ∨ j = 3 ∨ j = 4 ∨ j = 5 by omega) with rfl | rfl | rfl | rfl | rfl | rfl <;> decide
  · rw [X00_1 (by decide), X00_1 (by decide), X00_1 (by decide), X00_1 (by decide), X00_1 (by decide)]
    exact ⟨rfl, rfl, rfl, rfl, rfl⟩
set_option maxHeartbeats 400000 in
theorem gi_0 : Gi 0 h00 X00 X00 := ⟨iv_0, vr_0, mr_0, Or.inl ⟨rfl, rfl⟩, ⟨0, by decide, rfl, rfl, fun j h => absurd h (Nat.not_lt_zero j)⟩, ⟨0, by decide, rfl, rfl, fun j h => absurd h (Nat.not_lt_zero j)⟩, fun j hj => rfl⟩
