/-! PURE: what a village is in numbers, and what days do to it. -/
theorem L0 : (0 : Int32) = nI 0 := rfl
theorem L1 : (1 : Int32) = nI 1 := rfl
theorem L2 : (2 : Int32) = nI 2 := rfl
theorem L3 : (3 : Int32) = nI 3 := rfl
theorem L4 : (4 : Int32) = nI 4 := rfl
theorem L5 : (5 : Int32) = nI 5 := rfl
theorem L6 : (6 : Int32) = nI 6 := rfl
theorem L7 : (7 : Int32) = nI 7 := rfl
theorem L8 : (8 : Int32) = nI 8 := rfl
theorem L9 : (9 : Int32) = nI 9 := rfl
theorem L10 : (10 : Int32) = nI 10 := rfl
theorem L11 : (11 : Int32) = nI 11 := rfl
theorem L12 : (12 : Int32) = nI 12 := rfl
theorem L13 : (13 : Int32) = nI 13 := rfl
theorem L14 : (14 : Int32) = nI 14 := rfl
theorem L15 : (15 : Int32) = nI 15 := rfl
theorem L16 : (16 : Int32) = nI 16 := rfl
theorem L20 : (20 : Int32) = nI 20 := rfl
theorem L21 : (21 : Int32) = nI 21 := rfl
theorem L42 : (42 : Int32) = nI 42 := rfl
theorem L44 : (44 : Int32) = nI 44 := rfl
theorem L48 : (48 : Int32) = nI 48 := rfl
theorem L57 : (57 : Int32) = nI 57 := rfl
theorem L59 : (59 : Int32) = nI 59 := rfl
theorem L60 : (60 : Int32) = nI 60 := rfl
theorem L63 : (63 : Int32) = nI 63 := rfl
theorem L64 : (64 : Int32) = nI 64 := rfl
theorem L99 : (99 : Int32) = nI 99 := rfl
theorem L108 : (108 : Int32) = nI 108 := rfl
theorem L112 : (112 : Int32) = nI 112 := rfl
theorem L255 : (255 : Int32) = nI 255 := rfl
theorem L462 : (462 : Int32) = nI 462 := rfl
theorem L999 : (999 : Int32) = nI 999 := rfl
theorem L9999 : (9999 : Int32) = nI 9999 := rfl
theorem L12345 : (12345 : Int32) = nI 12345 := rfl
theorem L65536 : (65536 : Int32) = nI 65536 := rfl
theorem L252645135 : (252645135 : Int32) = nI 252645135 := rfl
theorem L858993459 : (858993459 : Int32) = nI 858993459 := rfl
theorem L1000000000 : (1000000000 : Int32) = nI 1000000000 := rfl
theorem L1103515245 : (1103515245 : Int32) = nI 1103515245 := rfl
theorem L1431655765 : (1431655765 : Int32) = nI 1431655765 := rfl
theorem L2147483647 : (2147483647 : Int32) = nI 2147483647 := rfl
def sm (f : Nat → Nat) : Nat → Nat
  | 0 => 0
  | n + 1 => sm f n + f n
def mx (f : Nat → Nat) : Nat → Nat
  | 0 => 0
  | n + 1 => max (mx f n) (f n)
theorem sm_congr {f g : Nat → Nat} : ∀ {n : Nat}, (∀ i, i < n → f i = g i) → sm f n = sm g n
  | 0, _ => rfl
  | n + 1, h => by
    show sm f n + f n = sm g n + g n
    rw [sm_congr (fun i hi => h i (Nat.lt_succ_of_lt hi)), h n (Nat.lt_succ_self n)]
theorem mx_congr {f g : Nat → Nat} : ∀ {n : Nat}, (∀ i, i < n → f i = g i) → mx f n = mx g n
  | 0, _ => rfl
  | n + 1, h => by
    show max (mx f n) (f n) = max (mx g n) (g n)
    rw [mx_congr (fun i hi => h i (Nat.lt_succ_of_lt hi)), h n (Nat.lt_succ_self n)]
theorem sm_le {f : Nat → Nat} {B : Nat} : ∀ {n : Nat}, (∀ i, i < n → f i ≤ B) → sm f n ≤ n * B
  | 0, _ => by simp [sm]
  | n + 1, h => by
    have h1 := sm_le (n := n) (fun i hi => h i (Nat.lt_succ_of_lt hi))
    have h2 := h n (Nat.lt_succ_self n)
    show sm f n + f n ≤ (n + 1) * B
    rw [Nat.succ_mul]
    omega
theorem mx_le {f : Nat → Nat} {B : Nat} : ∀ {n : Nat}, (∀ i, i < n → f i ≤ B) → mx f n ≤ B
  | 0, _ => by simp [mx]
  | n + 1, h => by
    have h1 := mx_le (n := n) (fun i hi => h i (Nat.lt_succ_of_lt hi))
    have h2 := h n (Nat.lt_succ_self n)
    show max (mx f n) (f n) ≤ B
    omega
theorem sm_ext {f : Nat → Nat} {m : Nat} : ∀ {n : Nat}, m ≤ n → (∀ i, m ≤ i → i < n → f i = 0) → sm f n = sm f m
  | 0, h, _ => by rw [Nat.le_zero.mp h]
  | n + 1, h, hz => by
    rcases Nat.lt_or_ge m (n + 1) with q | q
    · show sm f n + f n = sm f m
      rw [sm_ext (n := n) (by omega) (fun i h1 h2 => hz i h1 (by omega)), hz n (by omega) (by omega)]
      rfl
    · rw [Nat.le_antisymm h q]
/-- loops: a state that moves on till P, or an early end -/
theorem lp {σ ρ : Type} (B : Nat → σ → Option ρ) (I : Nat → σ → Prop) (Post : ρ → Prop) (P : Nat)
    (hs : ∀ n p s, p < P → I p s → (∃ s', I (p + 1) s' ∧ B (n + 1) s = B n s') ∨ (∃ r, Post r ∧ B (n + 1) s = some r))
    (he : ∀ n s, I P s → ∃ r, Post r ∧ B (n + 1) s = some r) : ∀ n p s, p ≤ P → I p s → P - p < n → ∃ r, Post r ∧ B n s = some r := by
  intro n
  induction n with
  | zero => intro p s _ _ h; omega
  | succ n ih =>
    intro p s hp hI hn
    rcases Nat.lt_or_ge p P with q | q
    · rcases hs n p s q hI with ⟨s', h1, h2⟩ | h
      · obtain ⟨r, h3, h4⟩ := ih (p + 1) s' q h1 (by omega)
        exact ⟨r, h3, h2.trans h4⟩
      · exact h
    · have e : p = P := Nat.le_antisymm hp q
      subst e
      exact he n s hI
theorem lpE {σ ρ : Type} (B : Nat → σ → Option ρ) (st : Nat → σ) (r : ρ) (P : Nat) (hs : ∀ n p, p < P → B (n + 1) (st p) = B n (st (p + 1))) (he : ∀ n, B (n + 1) (st P) = some r) : ∀ n p, p ≤ P → P - p < n → B n (st p) = some r := by
  intro n p hp hn
  obtain ⟨r', h1, h2⟩ := lp B (fun p s => s = st p) (fun x => x = r) P (fun n p s h e => Or.inl ⟨st (p + 1), rfl, by rw [e]; exact hs n p h⟩) (fun n s e => ⟨r, rfl, by rw [e]; exact he n⟩) n p (st p) hp rfl hn
  rw [h2, h1]
/-! a village: S 0 0 people, 0 1 day, 0 2 law, 0 3 span, 0 4 back, 0 5 free; S 1 p kind, 2 figure, 3 to, 4 has, 5 finds; G a p q: what p gave a days ago to q (6: takers) -/
abbrev St : Type := (Nat → Nat → Nat) × (Nat → Nat → Nat → Nat)
def cb (X : St) (a p q : Nat) : Bool := decide (0 < X.1 0 4) && (List.range (X.1 0 4 + 1)).any (fun i => decide (0 < X.2 (a + i) q p))
def cnt (X : St) (a p : Nat) : Nat := X.2 a p 6 + sm (fun q => if cb X a p q then 0 else X.2 a p q) 6
def got (X : St) (a q : Nat) : Nat := sm (fun p => X.2 a p q) 6
def gvn (X : St) (p : Nat) : Nat := sm (fun q => X.2 0 p q) 7
def lwv (X : St) (p : Nat) : Nat := if X.1 0 2 = 1 then (cnt X 1 p + 1) / 2 else if X.1 0 2 = 2 then cnt X 1 p * 2 else if X.1 0 2 = 3 then sm (fun i => cnt X (i + 1) p) (X.1 0 3) else if X.1 0 2 = 4 then mx (fun i => cnt X (i + 1) p) (X.1 0 3) else if X.1 0 2 = 5 then (cnt X 1 p + 1) / 2 + X.1 2 p else cnt X 1 p
def lev (X : St) (p : Nat) : Nat := if X.1 1 p = 7 then 9999 else max (X.1 0 5) (min 9999 (lwv X p))
def nxo (X : St) (p : Nat) : Nat := if p + 1 < X.1 0 0 then p + 1 else 0
def tgt (X : St) (p : Nat) : Nat := if X.1 1 p = 4 then nxo X p else if X.1 1 p = 6 ∧ X.1 0 1 % 2 = 1 then 9 else X.1 3 p
def grw (X : St) (p : Nat) : Nat := min (X.1 4 p) (X.1 5 p + got X 1 p)
def amt (X : St) (p : Nat) : Nat := if X.1 1 p = 1 ∨ X.1 1 p = 4 ∨ X.1 1 p = 6 then X.1 4 p else if X.1 1 p = 2 then X.1 4 p / 2 else if X.1 1 p = 3 then grw X p else if X.1 1 p = 5 then (if X.1 0 1 < 10 * X.1 2 p then grw X p else 0) else if X.1 1 p = 7 then (if X.1 0 1 % (X.1 2 p + 1) = 0 then X.1 4 p / 2 else 0) else 0
def gft (X : St) (p : Nat) : Nat := if tgt X p = p then 0 else amt X p
def col (q : Nat) : Nat := if q = 9 then 6 else q
def up1 (f : Nat → Nat → Nat) (k i v : Nat) : Nat → Nat → Nat := fun k' i' => if k' = k ∧ i' = i then v else f k' i'
def up3 (g : Nat → Nat → Nat → Nat) (a p q v : Nat) : Nat → Nat → Nat → Nat := fun a' p' q' => if a' = a ∧ p' = p ∧ q' = q then v else g a' p' q'
def adG (X : St) (p q n : Nat) : St := (up1 X.1 4 p (X.1 4 p - n), up3 X.2 0 p q (X.2 0 p q + n))
/-- p gives n to q (9: takers), if that is not itself and not nothing -/
def giv (X : St) (p q n : Nat) : St := if q = p ∨ n = 0 then X else adG X p (col q) n
def mor (X : St) : Nat → St
  | 0 => X
  | i + 1 => giv (mor X i) i (tgt (mor X i) i) (amt (mor X i) i)
def lyi (X : St) (p : Nat) : Nat := got X 0 p + X.1 5 p
def car (X : St) (p : Nat) : Nat := min (min (lev X p) (lyi X p)) (9999 - X.1 4 p)
def lst (X : St) : Nat := sm (fun p => lyi X p - car X p) (X.1 0 0)
def eve (X : St) : St := (fun k i => if k = 4 ∧ i < X.1 0 0 then X.1 4 i + car X i else if k = 0 ∧ i = 1 then X.1 0 1 + 1 else X.1 k i, fun a p q => if a = 0 then 0 else X.2 (a - 1) p q)
def dyS (X : St) : St := eve (mor X (X.1 0 0))
def dLo (X : St) : Nat := lst (mor X (X.1 0 0))
def itD (X : St) : Nat → St
  | 0 => X
  | n + 1 => dyS (itD X n)
/-- within its bounds; k: how many calls and days there were -/
def Iv (k : Nat) (X : St) : Prop := k ≤ 1000 ∧ X.1 0 0 ≤ 6 ∧ X.1 0 1 ≤ k ∧ X.1 0 2 ≤ 5 ∧ 1 ≤ X.1 0 3 ∧ X.1 0 3 ≤ 5 ∧ X.1 0 4 ≤ 5 ∧ X.1 0 5 ≤ 99 ∧ (∀ p, p < 6 → X.1 1 p ≤ 7 ∧ X.1 2 p ≤ 9 ∧ X.1 4 p ≤ 9999 ∧ X.1 5 p ≤ 99) ∧ (∀ p, p < X.1 0 0 → X.1 3 p = 9 ∨ X.1 3 p < X.1 0 0) ∧ (∀ a p q, X.2 a p q ≤ 9999 * k) ∧ (∀ a p q, (X.1 0 0 ≤ p ∨ (X.1 0 0 ≤ q ∧ q < 6) ∨ X.1 0 1 < a) → X.2 a p q = 0)
/-! where a village lies -/
def isV (b : Nat) : Prop := ∃ i, i < 10 ∧ b = 10 + 11 * i
def bitm (k : Nat) : Int64 := (1 : Int64) <<< ((nI k).toInt64 &&& 63)
def VR (h : Hp) (b : Nat) (X : St) : Prop :=
  h.1 b 7 = nI (X.1 0 0) ∧ h.1 b 8 = nI (X.1 0 1) ∧ (∀ j, j < 4 → h.1 (b + 6) j = nI (X.1 0 (2 + j))) ∧ (∀ k p, 1 ≤ k → k ≤ 5 → p < 6 → h.1 (b + k) p = nI (X.1 k p)) ∧
  (∀ a p q, a < 6 → p < 6 → q < 7 → h.1 (b + 8) (a * 42 + p * 7 + q) = nI (X.2 a p q)) ∧ (∀ a p, 1 ≤ a → a < 6 → p < 6 → h.1 (b + 9) (a * 6 + p) = nI (cnt X a p)) ∧
  (∀ a p q, a < 11 → p < 6 → q < 6 → (h.2.1 (b + 10) a &&& bitm (p * 6 + q) = 0 ↔ X.2 a p q = 0))
def VF (b : Nat) (h h' : Hp) : Prop := (∀ k j, (k < b ∨ b + 11 ≤ k) → h'.1 k j = h.1 k j) ∧ (∀ k j, (k < b ∨ b + 11 ≤ k) → h'.2.1 k j = h.2.1 k j) ∧ h'.2.2 = h.2.2
theorem VF.rf (b : Nat) (h : Hp) : VF b h h := ⟨fun _ _ _ => rfl, fun _ _ _ => rfl, rfl⟩
theorem VF.tr {b : Nat} {h h1 h2 : Hp} (a : VF b h h1) (c : VF b h1 h2) : VF b h h2 := ⟨fun k j q => (c.1 k j q).trans (a.1 k j q), fun k j q => (c.2.1 k j q).trans (a.2.1 k j q), c.2.2.trans a.2.2⟩
theorem rdI (h : Hp) (a j : Nat) (v : Int32) (k i : Nat) : (wI h a j v).1 k i = if k = a ∧ i = j then v else h.1 k i := by
  unfold wI upd2 upd
  by_cases h1 : k = a
  · by_cases h2 : i = j <;> simp [h1, h2]
  · simp [h1]
theorem rdJ (h : Hp) (a j : Nat) (v : Int64) (k i : Nat) : (wJ h a j v).2.1 k i = if k = a ∧ i = j then v else h.2.1 k i := by
  unfold wJ upd2L vp_updL
  by_cases h1 : k = a
  · by_cases h2 : i = j <;> simp [h1, h2]
  · simp [h1]
theorem wI_2 (h : Hp) (a j : Nat) (v : Int32) : (wI h a j v).2 = h.2 := rfl
theorem wJ_1 (h : Hp) (a j : Nat) (v : Int64) : (wJ h a j v).1 = h.1 := rfl
theorem wJ_22 (h : Hp) (a j : Nat) (v : Int64) : (wJ h a j v).2.2 = h.2.2 := rfl
theorem VF.wI {b : Nat} (h : Hp) {a : Nat} (j : Nat) (v : Int32) (h1 : b ≤ a) (h2 : a < b + 11) : VF b h (wI h a j v) := ⟨fun k i q => by rw [rdI, if_neg (by omega)], fun k i _ => rfl, rfl⟩
theorem VF.wJ {b : Nat} (h : Hp) {a : Nat} (j : Nat) (v : Int64) (h1 : b ≤ a) (h2 : a < b + 11) : VF b h (wJ h a j v) := ⟨fun k i _ => rfl, fun k i q => by rw [rdJ, if_neg (by omega)], rfl⟩
theorem ldI_n {h : Hp} {a j : Nat} (hj : j < len a) (h2 : j < 1000) : ldI h a (nI j) = some (h.1 a j) := by
  unfold ldI
  rw [nI_clamp (by omega), if_neg (nI_in' hj (by omega))]
where
  nI_in' {c N : Nat} (h : c < N) (hc : c < 2 ^ 31) : ¬ (nI c < 0 ∨ N ≤ c) := fun z => z.elim (fun z => nI_pos hc z) (fun z => by omega)
