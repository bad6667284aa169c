/-! MADE by g6.py: the world at the start -/
def setF : Nat → Int32 := upd (upd (upd (upd (fun _ => 0) (0 : Int32).toNatClampNeg (0 : Int32)) (1 : Int32).toNatClampNeg (3 : Int32)) (2 : Int32).toNatClampNeg (0 : Int32)) (3 : Int32).toNatClampNeg (1 : Int32)
def refF (j : Nat) : Int32 := if j = 3 then 3 else if j = 5 then 1 else 0
def zF : Nat → Int32 := fun _ => 0
def zJ : Nat → Int64 := fun _ => 0
def h00 : Hp := (fun k => if k < 10 then zF else if k < 120 then (if (k - 10) % 11 = 6 then setF else zF) else if k = 120 then refF else zF, fun _ => zJ, none)
def mkV (f : Nat → Nat) (g : Nat → ClassId) : va_W := [(f 0, .inr (3, [.ref (f 1), .ref (f 2), .ref (f 3), .ref (f 4), .ref (f 5), .ref (f 6), .ref (f 7), .int 0, .int 0])), (f 1, .inl (g 1, 6, .inl zF)), (f 2, .inl (g 2, 6, .inl zF)), (f 3, .inl (g 3, 6, .inl zF)), (f 4, .inl (g 4, 6, .inl zF)), (f 5, .inl (g 5, 6, .inl zF)), (f 6, .inl (g 6, 4, .inl setF)), (f 7, .inr (0, [.ref (f 8), .ref (f 9), .ref (f 10)])), (f 8, .inl (g 8, 252, .inl zF)), (f 9, .inl (g 9, 36, .inl zF)), (f 10, .inl (g 10, 11, .inr (.inl zJ)))]
def mtV (g : Nat → ClassId) : List (ClassId × FieldType) := [(g 1, .int), (g 2, .int), (g 3, .int), (g 4, .int), (g 5, .int), (g 6, .int), (g 8, .int), (g 9, .int), (g 10, .long)]
def mk2 (a q1 q2 q3 : Nat) (c1 c2 c3 : ClassId) (v : Nat → Option Nat) : va_W := [(a, .inr (2, [.ref q1, .ref q2, .ref q3, .int 0, .int 0, .int 0, .int 0, .int 0])), (q1, .inl (c1, 7, .inr (.inr (.inr (.inr v))))), (q2, .inl (c2, 6, .inl zF)), (q3, .inl (c3, 6, .inl zF))]
def mk1 (f : Nat → Nat) (g : Nat → ClassId) : va_W := [(f 0, .inr (1, [.ref (f 1), .int 0, .int 0])), (f 1, .inl (g 1, 64, .inl zF))]
def mt1 (g : Nat → ClassId) : List (ClassId × FieldType) := [(g 1, .int)]
def mk5 (f : Nat → Nat) (g : Nat → ClassId) : va_W := [(f 0, .inr (5, [.int 0, .int 0, .int 0, .int 3, .int 0, .int 1, .ref (f 1), .ref (f 2), .ref (f 3), .ref (f 4), .ref (f 5), .ref (f 6), .int 0, .int 0, .ref (f 7), .ref (f 8), .ref (f 9), .int 0, .int 0, .null, .ref (f 10), .int 0, .int 0, .int 0, .int 0, .ref (f 11), .ref (f 12), .ref (f 13), .int 0, .ref (f 14), .int 0, .int 0, .int 0, .ref (f 15), .int 0, .int 0, .int 0, .ref (f 16), .ref (f 17)])), (f 1, .inl (g 1, 6, .inl zF)), (f 2, .inl (g 2, 6, .inl zF)), (f 3, .inl (g 3, 6, .inl zF)), (f 4, .inl (g 4, 6, .inl zF)), (f 5, .inl (g 5, 6, .inl zF)), (f 6, .inl (g 6, 462, .inl zF)), (f 7, .inl (g 7, 7, .inl zF)), (f 8, .inl (g 8, 6, .inl zF)), (f 9, .inl (g 9, 480, .inl zF)), (f 10, .inl (g 10, 64, .inl zF)), (f 11, .inl (g 11, 33, .inl zF)), (f 12, .inl (g 12, 33, .inl zF)), (f 13, .inl (g 13, 165, .inl zF)), (f 14, .inl (g 14, 6, .inl zF)), (f 15, .inl (g 15, 12, .inl zF)), (f 16, .inl (g 16, 480, .inl zF)), (f 17, .inl (g 17, 27, .inl zF))]
def mt5 (g : Nat → ClassId) : List (ClassId × FieldType) := [(g 1, .int), (g 2, .int), (g 3, .int), (g 4, .int), (g 5, .int), (g 6, .int), (g 7, .int), (g 8, .int), (g 9, .int), (g 10, .int), (g 11, .int), (g 12, .int), (g 13, .int), (g 14, .int), (g 15, .int), (g 16, .int), (g 17, .int)]
set_option maxHeartbeats 400000 in
set_option maxRecDepth 20000 in
theorem to_X3 {a : Nat} {u : TW} (h : PoX3 a u) : ∃ (f : Nat → Nat) (g : Nat → ClassId), f 0 = a ∧ u = (mtV g, mkV f g) := by
  obtain ⟨q7, c7, q15, c15, q23, c23, q31, c31, q39, c39, q46, c46, q68, q8_72, c8_72, q16_72, c16_72, q24_72, c24_72, rfl⟩ := h
  exact ⟨fun i => ([a, q7, q15, q23, q31, q39, q46, q68, q8_72, q16_72, q24_72] : List Nat).getD i 0, fun i => ([c7, c7, c15, c23, c31, c39, c46, c7, c8_72, c16_72, c24_72] : List ClassId).getD i c7, rfl, rfl⟩
set_option maxHeartbeats 400000 in
set_option maxRecDepth 20000 in
theorem to_X1 {a : Nat} {u : TW} (h : PoX1 a u) : ∃ (f : Nat → Nat) (g : Nat → ClassId), f 0 = a ∧ u = (mt1 g, mk1 f g) := by
  obtain ⟨q7, c7, rfl⟩ := h
  exact ⟨fun i => ([a, q7] : List Nat).getD i 0, fun i => ([c7, c7] : List ClassId).getD i c7, rfl, rfl⟩
set_option maxHeartbeats 400000 in
set_option maxRecDepth 20000 in
theorem to_X5 {a : Nat} {u : TW} (h : PoX5 a u) : ∃ (f : Nat → Nat) (g : Nat → ClassId), f 0 = a ∧ u = (mt5 g, mk5 f g) := by
  obtain ⟨q17, c17, q25, c25, q33, c33, q41, c41, q49, c49, q58, c58, q66, c66, q74, c74, q83, c83, q91, c91, q99, c99, q107, c107, q116, c116, q124, c124, q132, c132, q141, c141, q149, c149, rfl⟩ := h
  exact ⟨fun i => ([a, q17, q25, q33, q41, q49, q58, q66, q74, q83, q91, q99, q107, q116, q124, q132, q141, q149] : List Nat).getD i 0, fun i => ([c17, c17, c25, c33, c41, c49, c58, c66, c74, c83, c91, c99, c107, c116, c124, c132, c141, c149] : List ClassId).getD i c17, rfl, rfl⟩
abbrev Zt : Type := ((Nat → ClassId) × (Nat → Nat → Nat)) × (Nat × Nat × Nat × Nat × Nat × Nat) × (Nat × Nat × Nat × Nat) × (Nat → Nat → Nat) × (Nat → Nat → ClassId) × (Nat → Nat) × (Nat → ClassId) × (Nat → Nat) × (Nat → ClassId) × (ClassId × ClassId × ClassId) × (ClassId × ClassId × ClassId)
def aE (Z : Zt) (k : Nat) : Nat := match Z with
  | (_, (a, q7, q8, q9, s1, s2), (qs, q1, q2, q3), F, G, f1, g1, f5, g5, (c7, c8, c9), (c1, c2, c3)) => if k < 5 then (if k = 0 then a else if k = 1 then qs else if k = 2 then q1 else if k = 3 then q2 else q3) else if k < 10 then (if k < 7 then f1 (k - 5) else if k = 7 then q7 else if k = 8 then q8 else q9) else if k < 120 then F ((k - 10) / 11) ((k - 10) % 11) else if k < 138 then f5 (k - 120) else if k = 138 then s1 else s2
def cF (Z : Zt) (k : Nat) : ClassId := match Z with
  | (_, (a, q7, q8, q9, s1, s2), (qs, q1, q2, q3), F, G, f1, g1, f5, g5, (c7, c8, c9), (c1, c2, c3)) => if k < 5 then (if k = 2 then c1 else if k = 3 then c2 else c3) else if k < 10 then (if k < 7 then g1 (k - 5) else if k = 7 then c7 else if k = 8 then c8 else c9) else if k < 120 then G ((k - 10) / 11) ((k - 10) % 11) else g5 (k - 120)
def mE (Z : Zt) : Ep := (Z.1.1, Z.1.2, aE Z, cF Z)
def lvF (F : Nat → Nat → Nat) : Nat → Option Nat := (va_up (va_up (va_up (va_up (va_up (va_up (va_up (fun _ => none) (0 : Int32).toNatClampNeg (some (F 3 0))) (1 : Int32).toNatClampNeg (some (F 4 0))) (2 : Int32).toNatClampNeg (some (F 5 0))) (3 : Int32).toNatClampNeg (some (F 6 0))) (4 : Int32).toNatClampNeg (some (F 7 0))) (5 : Int32).toNatClampNeg (some (F 8 0))) (6 : Int32).toNatClampNeg (some (F 9 0)))
def wT (Z : Zt) : va_W := match Z with
  | (_, (a, q7, q8, q9, s1, s2), (qs, q1, q2, q3), F, G, f1, g1, f5, g5, (c7, c8, c9), (c1, c2, c3)) => ([(a, .inr (4, [.ref (F 0 0), .ref (F 1 0), .ref (F 2 0), .ref qs, .ref (f1 0), .ref q7, .ref q8, .ref q9, .int 0, .int 0]))] ++ mkV (F 0) (G 0) ++ mkV (F 1) (G 1) ++ mkV (F 2) (G 2) ++ (mk2 qs q1 q2 q3 c1 c2 c3 (lvF F) ++ mkV (F 3) (G 3) ++ mkV (F 4) (G 4) ++ mkV (F 5) (G 5) ++ mkV (F 6) (G 6) ++ mkV (F 7) (G 7) ++ mkV (F 8) (G 8) ++ mkV (F 9) (G 9)) ++ mk1 f1 g1 ++ [(q7, .inl (c7, 6, .inl (fun _ => 0)))] ++ [(q8, .inl (c8, 12, .inl (fun _ => 0)))] ++ [(q9, .inl (c9, 7, .inl (fun _ => 0)))]) ++ mk5 f5 g5
def tT (Z : Zt) : List (ClassId × FieldType) := match Z with
  | (_, (a, q7, q8, q9, s1, s2), (qs, q1, q2, q3), F, G, f1, g1, f5, g5, (c7, c8, c9), (c1, c2, c3)) => ([] ++ ([] ++ mtV (G 0) ++ mtV (G 1) ++ mtV (G 2) ++ ([(c1, .object RX3), (c2, .int), (c3, .int)] ++ mtV (G 3) ++ mtV (G 4) ++ mtV (G 5) ++ mtV (G 6) ++ mtV (G 7) ++ mtV (G 8) ++ mtV (G 9)) ++ mt1 g1 ++ [(c7, .int)] ++ [(c8, .int)] ++ [(c9, .int)])) ++ mt5 g5
theorem at_l {α : Type} {A B : List α} {i : Nat} {q : α} (h : A[i]? = some q) : (A ++ B)[i]? = some q := by
  rw [List.getElem?_append_left (List.getElem?_eq_some_iff.mp h).1]
  exact h
theorem at_r {α : Type} {A B : List α} {i j : Nat} (m : Nat) {q : α} (hm : A.length = m) (he : j = m + i) (h : B[i]? = some q) : (A ++ B)[j]? = some q := by
  subst he
  subst hm
  rw [List.getElem?_append_right (Nat.le_add_right _ _), Nat.add_sub_cancel_left]
  exact h
theorem len_V (f : Nat → Nat) (g : Nat → ClassId) : (mkV f g).length = 11 := rfl
theorem len_2 (a q1 q2 q3 : Nat) (c1 c2 c3 : ClassId) (v : Nat → Option Nat) : (mk2 a q1 q2 q3 c1 c2 c3 v).length = 4 := rfl
theorem len_1 (f : Nat → Nat) (g : Nat → ClassId) : (mk1 f g).length = 2 := rfl
theorem len_5 (f : Nat → Nat) (g : Nat → ClassId) : (mk5 f g).length = 18 := rfl
def gix (k : Nat) : Nat := if k = 0 then 0 else if k < 5 then k + 33 else if k < 10 then k + 110 else if k < 43 then k - 9 else if k < 120 then k - 5 else k
theorem gix_inj {i j : Nat} (hi : i < 138) (hj : j < 138) (h : gix i = gix j) : i = j := by
  unfold gix at h
  split at h <;> split at h <;> (repeat' split at h) <;> omega
abbrev sF (Z : Zt) : Nat → Nat → Nat := Z.2.2.2.1
abbrev sG (Z : Zt) : Nat → Nat → ClassId := Z.2.2.2.2.1
abbrev sf1 (Z : Zt) : Nat → Nat := Z.2.2.2.2.2.1
abbrev sg1 (Z : Zt) : Nat → ClassId := Z.2.2.2.2.2.2.1
abbrev sf5 (Z : Zt) : Nat → Nat := Z.2.2.2.2.2.2.2.1
abbrev sg5 (Z : Zt) : Nat → ClassId := Z.2.2.2.2.2.2.2.2.1
section WT
variable (Z : Zt)
theorem wT_v {n i : Nat} {q : Nat × va_E} (hn : n < 10) (h : (mkV (sF Z n) (sG Z n))[i]? = some q) : (wT Z)[(if n < 3 then 1 else 5) + 11 * n + i]? = some q := by
  obtain ⟨d, ⟨a, q7, q8, q9, s1, s2⟩, ⟨qs, q1, q2, q3⟩, F, G, f1, g1, f5, g5, ⟨c7, c8, c9⟩, ⟨c1, c2, c3⟩⟩ := Z
  rcases (show n = 0 ∨ n = 1 ∨ n = 2 ∨ n = 3 ∨ n = 4 ∨ n = 5 ∨ n = 6 ∨ n = 7 ∨ n = 8 ∨ n = 9 by omega) with rfl | rfl | rfl | rfl | rfl | rfl | rfl | rfl | rfl | rfl
  · rw [show (if (0 : Nat) < 3 then 1 else 5) = 1 from rfl]
    exact at_l (at_l (at_l (at_l (at_l (at_l (at_l (at_l (at_r 1 (by simp only [List.length_append, List.length_cons, List.length_nil, len_V, len_2, len_1, len_5]) (by omega) h))))))))
  · rw [show (if (1 : Nat) < 3 then 1 else 5) = 1 from rfl]
    exact at_l (at_l (at_l (at_l (at_l (at_l (at_l (at_r 12 (by simp only [List.length_append, List.length_cons, List.length_nil, len_V, len_2, len_1, len_5]) (by omega) h)))))))
  · rw [show (if (2 : Nat) < 3 then 1 else 5) = 1 from rfl]
    exact at_l (at_l (at_l (at_l (at_l (at_l (at_r 23 (by simp only [List.length_append, List.length_cons, List.length_nil, len_V, len_2, len_1, len_5]) (by omega) h))))))
  · rw [show (if (3 : Nat) < 3 then 1 else 5) = 5 from rfl]
    exact at_l (at_l (at_l (at_l (at_l (at_r (i := 4 + i) 34 (by simp only [List.length_append, List.length_cons, List.length_nil, len_V, len_2, len_1, len_5]) (by omega) (at_l (at_l (at_l (at_l (at_l (at_l (at_r 4 (by simp only [List.length_append, List.length_cons, List.length_nil, len_V, len_2, len_1, len_5]) (by omega) h))))))))))))
  · rw [show (if (4 : Nat) < 3 then 1 else 5) = 5 from rfl]
    exact at_l (at_l (at_l (at_l (at_l (at_r (i := 15 + i) 34 (by simp only [List.length_append, List.length_cons, List.length_nil, len_V, len_2, len_1, len_5]) (by omega) (at_l (at_l (at_l (at_l (at_l (at_r 15 (by simp only [List.length_append, List.length_cons, List.length_nil, len_V, len_2, len_1, len_5]) (by omega) h)))))))))))
  · rw [show (if (5 : Nat) < 3 then 1 else 5) = 5 from rfl]
    exact at_l (at_l (at_l (at_l (at_l (at_r (i := 26 + i) 34 (by simp only [List.length_append, List.length_cons, List.length_nil, len_V, len_2, len_1, len_5]) (by omega) (at_l (at_l (at_l (at_l (at_r 26 (by simp only [List.length_append, List.length_cons, List.length_nil, len_V, len_2, len_1, len_5]) (by omega) h))))))))))
  · rw [show (if (6 : Nat) < 3 then 1 else 5) = 5 from rfl]
    exact at_l (at_l (at_l (at_l (at_l (at_r (i := 37 + i) 34 (by simp only [List.length_append, List.length_cons, List.length_nil, len_V, len_2, len_1, len_5]) (by omega) (at_l (at_l (at_l (at_r 37 (by simp only [List.length_append, List.length_cons, List.length_nil, len_V, len_2, len_1, len_5]) (by omega) h)))))))))
  · rw [show (if (7 : Nat) < 3 then 1 else 5) = 5 from rfl]
    exact at_l (at_l (at_l (at_l (at_l (at_r (i := 48 + i) 34 (by simp only [List.length_append, List.length_cons, List.length_nil, len_V, len_2, len_1, len_5]) (by omega) (at_l (at_l (at_r 48 (by simp only [List.length_append, List.length_cons, List.length_nil, len_V, len_2, len_1, len_5]) (by omega) h))))))))
  · rw [show (if (8 : Nat) < 3 then 1 else 5) = 5 from rfl]
    exact at_l (at_l (at_l (at_l (at_l (at_r (i := 59 + i) 34 (by simp only [List.length_append, List.length_cons, List.length_nil, len_V, len_2, len_1, len_5]) (by omega) (at_l (at_r 59 (by simp only [List.length_append, List.length_cons, List.length_nil, len_V, len_2, len_1, len_5]) (by omega) h)))))))
  · rw [show (if (9 : Nat) < 3 then 1 else 5) = 5 from rfl]
    exact at_l (at_l (at_l (at_l (at_l (at_r (i := 70 + i) 34 (by simp only [List.length_append, List.length_cons, List.length_nil, len_V, len_2, len_1, len_5]) (by omega) (at_r 70 (by simp only [List.length_append, List.length_cons, List.length_nil, len_V, len_2, len_1, len_5]) (by omega) h))))))
theorem wT_0 {q : Nat × va_E} (h : q = (ad (mE Z) 0, cel (mE Z) h00 0)) : (wT Z)[0]? = some q := by
  subst h
  obtain ⟨d, ⟨a, q7, q8, q9, s1, s2⟩, ⟨qs, q1, q2, q3⟩, F, G, f1, g1, f5, g5, ⟨c7, c8, c9⟩, ⟨c1, c2, c3⟩⟩ := Z
  exact at_l (at_l (at_l (at_l (at_l (at_l (at_l (at_l (at_l (rfl)))))))))
theorem wT_s {i : Nat} {q : Nat × va_E} (h : (mk2 (aE Z 1) (aE Z 2) (aE Z 3) (aE Z 4) (cF Z 2) (cF Z 3) (cF Z 4) (lvF (sF Z)))[i]? = some q) : (wT Z)[34 + i]? = some q := by
  obtain ⟨d, ⟨a, q7, q8, q9, s1, s2⟩, ⟨qs, q1, q2, q3⟩, F, G, f1, g1, f5, g5, ⟨c7, c8, c9⟩, ⟨c1, c2, c3⟩⟩ := Z
  exact at_l (at_l (at_l (at_l (at_l (at_r 34 (by simp only [List.length_append, List.length_cons, List.length_nil, len_V, len_2, len_1, len_5]) (by omega) (at_l (at_l (at_l (at_l (at_l (at_l (at_l (h)))))))))))))
theorem wT_l {i : Nat} {q : Nat × va_E} (h : (mk1 (sf1 Z) (sg1 Z))[i]? = some q) : (wT Z)[115 + i]? = some q := by
  obtain ⟨d, ⟨a, q7, q8, q9, s1, s2⟩, ⟨qs, q1, q2, q3⟩, F, G, f1, g1, f5, g5, ⟨c7, c8, c9⟩, ⟨c1, c2, c3⟩⟩ := Z
  exact at_l (at_l (at_l (at_l (at_r 115 (by simp only [List.length_append, List.length_cons, List.length_nil, len_V, len_2, len_1, len_5]) rfl h))))
theorem wT_7 {q : Nat × va_E} (h : q = (ad (mE Z) 7, cel (mE Z) h00 7)) : (wT Z)[117]? = some q := by
  subst h
  obtain ⟨d, ⟨a, q7, q8, q9, s1, s2⟩, ⟨qs, q1, q2, q3⟩, F, G, f1, g1, f5, g5, ⟨c7, c8, c9⟩, ⟨c1, c2, c3⟩⟩ := Z
  exact at_l (at_l (at_l (at_r (i := 0) 117 (by simp only [List.length_append, List.length_cons, List.length_nil, len_V, len_2, len_1, len_5]) rfl rfl)))
theorem wT_8 {q : Nat × va_E} (h : q = (ad (mE Z) 8, cel (mE Z) h00 8)) : (wT Z)[118]? = some q := by
  subst h
  obtain ⟨d, ⟨a, q7, q8, q9, s1, s2⟩, ⟨qs, q1, q2, q3⟩, F, G, f1, g1, f5, g5, ⟨c7, c8, c9⟩, ⟨c1, c2, c3⟩⟩ := Z
  exact at_l (at_l (at_r (i := 0) 118 (by simp only [List.length_append, List.length_cons, List.length_nil, len_V, len_2, len_1, len_5]) rfl rfl))
theorem wT_9 {q : Nat × va_E} (h : q = (ad (mE Z) 9, cel (mE Z) h00 9)) : (wT Z)[119]? = some q := by
  subst h
  obtain ⟨d, ⟨a, q7, q8, q9, s1, s2⟩, ⟨qs, q1, q2, q3⟩, F, G, f1, g1, f5, g5, ⟨c7, c8, c9⟩, ⟨c1, c2, c3⟩⟩ := Z
  exact at_l (at_r (i := 0) 119 (by simp only [List.length_append, List.length_cons, List.length_nil, len_V, len_2, len_1, len_5]) rfl rfl)
theorem wT_m {i : Nat} {q : Nat × va_E} (h : (mk5 (sf5 Z) (sg5 Z))[i]? = some q) : (wT Z)[120 + i]? = some q := by
  obtain ⟨d, ⟨a, q7, q8, q9, s1, s2⟩, ⟨qs, q1, q2, q3⟩, F, G, f1, g1, f5, g5, ⟨c7, c8, c9⟩, ⟨c1, c2, c3⟩⟩ := Z
  exact at_r 120 (by simp only [List.length_append, List.length_cons, List.length_nil, len_V, len_2, len_1, len_5]) rfl h
theorem ad_v {n i : Nat} (hn : n < 10) (hi : i < 11) : ad (mE Z) (10 + 11 * n + i) = sF Z n i := by
  obtain ⟨d, ⟨a, q7, q8, q9, s1, s2⟩, ⟨qs, q1, q2, q3⟩, F, G, f1, g1, f5, g5, ⟨c7, c8, c9⟩, ⟨c1, c2, c3⟩⟩ := Z
  show (if 10 + 11 * n + i < 5 then _ else if 10 + 11 * n + i < 10 then _ else if 10 + 11 * n + i < 120 then F ((10 + 11 * n + i - 10) / 11) ((10 + 11 * n + i - 10) % 11) else _) = F n i
  rw [if_neg (by omega), if_neg (by omega), if_pos (by omega), show (10 + 11 * n + i - 10) / 11 = n by omega, show (10 + 11 * n + i - 10) % 11 = i by omega]
theorem cid_v {n i : Nat} (hn : n < 10) (hi : i < 11) : cid (mE Z) (10 + 11 * n + i) = sG Z n i := by
  obtain ⟨d, ⟨a, q7, q8, q9, s1, s2⟩, ⟨qs, q1, q2, q3⟩, F, G, f1, g1, f5, g5, ⟨c7, c8, c9⟩, ⟨c1, c2, c3⟩⟩ := Z
  show (if 10 + 11 * n + i < 5 then _ else if 10 + 11 * n + i < 10 then _ else if 10 + 11 * n + i < 120 then G ((10 + 11 * n + i - 10) / 11) ((10 + 11 * n + i - 10) % 11) else _) = G n i
  rw [if_neg (by omega), if_neg (by omega), if_pos (by omega), show (10 + 11 * n + i - 10) / 11 = n by omega, show (10 + 11 * n + i - 10) % 11 = i by omega]
theorem kd_v : ∀ n, n < 10 → ∀ i, i < 11 → kd (10 + 11 * n + i) = ([3,6,6,6,6,6,6,0,6,6,7] : List Nat).getD i 99 := by decide +kernel
theorem len_v : ∀ n, n < 10 → ∀ i, i < 11 → len (10 + 11 * n + i) = ([0,6,6,6,6,6,4,0,252,36,11] : List Nat).getD i 0 := by decide +kernel
theorem rf_v : ∀ n, n < 10 → ∀ j, j < 7 → rf (10 + 11 * n + 0) j = 10 + 11 * n + (j + 1) := by decide +kernel
theorem rf_g : ∀ n, n < 10 → ∀ j, j < 3 → rf (10 + 11 * n + 7) j = 10 + 11 * n + (j + 8) := by decide +kernel
theorem h_v {n i : Nat} (hn : n < 10) (hi : i < 11) : h00.1 (10 + 11 * n + i) = if i = 6 then setF else zF := by
  show (if 10 + 11 * n + i < 10 then zF else if 10 + 11 * n + i < 120 then (if (10 + 11 * n + i - 10) % 11 = 6 then setF else zF) else _) = _
  rw [if_neg (by omega), if_pos (by omega), show (10 + 11 * n + i - 10) % 11 = i by omega]
theorem at_v {n i : Nat} (hn : n < 10) (hi : i < 11) : (mkV (sF Z n) (sG Z n))[i]? = some (ad (mE Z) (10 + 11 * n + i), cel (mE Z) h00 (10 + 11 * n + i)) := by
  have k1 := kd_v n hn i hi
  have k2 := len_v n hn i hi
  have k3 := h_v hn hi
  rw [ad_v Z hn hi]
  rcases (show i = 0 ∨ i = 1 ∨ i = 2 ∨ i = 3 ∨ i = 4 ∨ i = 5 ∨ i = 6 ∨ i = 7 ∨ i = 8 ∨ i = 9 ∨ i = 10 by omega) with rfl | rfl | rfl | rfl | rfl | rfl | rfl | rfl | rfl | rfl | rfl
  · rw [ce3 _ _ k1, k3, rf_v n hn 0 (by decide), rf_v n hn 1 (by decide), rf_v n hn 2 (by decide), rf_v n hn 3 (by decide), rf_v n hn 4 (by decide), rf_v n hn 5 (by decide), rf_v n hn 6 (by decide), ad_v Z hn (by decide), ad_v Z hn (by decide), ad_v Z hn (by decide), ad_v Z hn (by decide), ad_v Z hn (by decide), ad_v Z hn (by decide), ad_v Z hn (by decide)]
    rfl
  · rw [ce6 _ _ k1, k2, k3, cid_v Z hn (by decide)]
    rfl
  · rw [ce6 _ _ k1, k2, k3, cid_v Z hn (by decide)]
    rfl
  · rw [ce6 _ _ k1, k2, k3, cid_v Z hn (by decide)]
    rfl
  · rw [ce6 _ _ k1, k2, k3, cid_v Z hn (by decide)]
    rfl
  · rw [ce6 _ _ k1, k2, k3, cid_v Z hn (by decide)]
    rfl
  · rw [ce6 _ _ k1, k2, k3, cid_v Z hn (by decide)]
    rfl
  · rw [ce0 _ _ k1, rf_g n hn 0 (by decide), rf_g n hn 1 (by decide), rf_g n hn 2 (by decide), ad_v Z hn (by decide), ad_v Z hn (by decide), ad_v Z hn (by decide)]
    rfl
  · rw [ce6 _ _ k1, k2, k3, cid_v Z hn (by decide)]
    rfl
  · rw [ce6 _ _ k1, k2, k3, cid_v Z hn (by decide)]
    rfl
  · rw [ce7 _ _ k1, k2, cid_v Z hn (by decide)]
    rfl
theorem at_m {i : Nat} (hi : i < 18) : (mk5 (sf5 Z) (sg5 Z))[i]? = some (ad (mE Z) (120 + i), cel (mE Z) h00 (120 + i)) := by
  obtain ⟨d, ⟨a, q7, q8, q9, s1, s2⟩, ⟨qs, q1, q2, q3⟩, F, G, f1, g1, f5, g5, ⟨c7, c8, c9⟩, ⟨c1, c2, c3⟩⟩ := Z
  rcases (show i = 0 ∨ i = 1 ∨ i = 2 ∨ i = 3 ∨ i = 4 ∨ i = 5 ∨ i = 6 ∨ i = 7 ∨ i = 8 ∨ i = 9 ∨ i = 10 ∨ i = 11 ∨ i = 12 ∨ i = 13 ∨ i = 14 ∨ i = 15 ∨ i = 16 ∨ i = 17 by omega) with rfl | rfl | rfl | rfl | rfl | rfl | rfl | rfl | rfl | rfl | rfl | rfl | rfl | rfl | rfl | rfl | rfl | rfl <;> rfl
def celR (k : Nat) : va_E := if k = 2 then .inl (cid (mE Z) 2, 7, .inr (.inr (.inr (.inr (lvF (sF Z)))))) else cel (mE Z) h00 k
theorem at_s {i : Nat} (hi : i < 4) : (mk2 (aE Z 1) (aE Z 2) (aE Z 3) (aE Z 4) (cF Z 2) (cF Z 3) (cF Z 4) (lvF (sF Z)))[i]? = some (ad (mE Z) (1 + i), celR Z (1 + i)) := by
  rcases (show i = 0 ∨ i = 1 ∨ i = 2 ∨ i = 3 by omega) with rfl | rfl | rfl | rfl <;> rfl
theorem at_1 {i : Nat} (hi : i < 2) : (mk1 (sf1 Z) (sg1 Z))[i]? = some (ad (mE Z) (5 + i), cel (mE Z) h00 (5 + i)) := by
  obtain ⟨d, ⟨a, q7, q8, q9, s1, s2⟩, ⟨qs, q1, q2, q3⟩, F, G, f1, g1, f5, g5, ⟨c7, c8, c9⟩, ⟨c1, c2, c3⟩⟩ := Z
  rcases (show i = 0 ∨ i = 1 by omega) with rfl | rfl <;> rfl
theorem wP_all {k : Nat} (hk : k < 138) : (wT Z)[gix k]? = some (ad (mE Z) k, celR Z k) := by
  rcases (show k = 0 ∨ (1 ≤ k ∧ k < 5) ∨ (5 ≤ k ∧ k < 7) ∨ k = 7 ∨ k = 8 ∨ k = 9 ∨ (10 ≤ k ∧ k < 120) ∨ 120 ≤ k by omega) with rfl | h | h | rfl | rfl | rfl | h | h
  · exact wT_0 Z rfl
  · obtain ⟨i, rfl⟩ : ∃ i, k = 1 + i := ⟨k - 1, by omega⟩
    have e : gix (1 + i) = 34 + i := by unfold gix; rw [if_neg (by omega), if_pos (by omega)]; omega
    rw [e]
    exact wT_s Z (at_s Z (by omega))
  · obtain ⟨i, rfl⟩ : ∃ i, k = 5 + i := ⟨k - 5, by omega⟩
    have e : gix (5 + i) = 115 + i := by unfold gix; rw [if_neg (by omega), if_neg (by omega), if_pos (by omega)]; omega
    rw [e, show celR Z (5 + i) = cel (mE Z) h00 (5 + i) from if_neg (by omega)]
    exact wT_l Z (at_1 Z (by omega))
  · exact wT_7 Z rfl
  · exact wT_8 Z rfl
  · exact wT_9 Z rfl
  · obtain ⟨n, i, hn, hi, rfl⟩ : ∃ n i, n < 10 ∧ i < 11 ∧ k = 10 + 11 * n + i := ⟨(k - 10) / 11, (k - 10) % 11, by omega, by omega, by omega⟩
    have e : gix (10 + 11 * n + i) = (if n < 3 then 1 else 5) + 11 * n + i := by
      unfold gix
      rw [if_neg (by omega), if_neg (by omega), if_neg (by omega)]
      by_cases q : n < 3
      · rw [if_pos (by omega), if_pos q]; omega
      · rw [if_neg (by omega), if_pos (by omega), if_neg q]; omega
    rw [e, show celR Z (10 + 11 * n + i) = cel (mE Z) h00 (10 + 11 * n + i) from if_neg (by omega)]
    exact wT_v Z hn (at_v Z hn hi)
  · obtain ⟨i, rfl⟩ : ∃ i, k = 120 + i := ⟨k - 120, by omega⟩
    have e : gix (120 + i) = 120 + i := by unfold gix; rw [if_neg (by omega), if_neg (by omega), if_neg (by omega), if_neg (by omega), if_neg (by omega)]
    rw [e, show celR Z (120 + i) = cel (mE Z) h00 (120 + i) from if_neg (by omega)]
    exact wT_m Z (at_m Z (by omega))
theorem tT_v {n : Nat} (hn : n < 10) {q : ClassId × FieldType} (h : q ∈ mtV (sG Z n)) : q ∈ tT Z := by
  obtain ⟨d, ⟨a, q7, q8, q9, s1, s2⟩, ⟨qs, q1, q2, q3⟩, F, G, f1, g1, f5, g5, ⟨c7, c8, c9⟩, ⟨c1, c2, c3⟩⟩ := Z
  rcases (show n = 0 ∨ n = 1 ∨ n = 2 ∨ n = 3 ∨ n = 4 ∨ n = 5 ∨ n = 6 ∨ n = 7 ∨ n = 8 ∨ n = 9 by omega) with rfl | rfl | rfl | rfl | rfl | rfl | rfl | rfl | rfl | rfl <;> simp only [tT, List.mem_append, List.nil_append] <;> simp only [h, true_or, or_true]
theorem tT_o {q : ClassId × FieldType} (h : q ∈ mt5 (sg5 Z) ∨ q ∈ mt1 (sg1 Z) ∨ q = (cF Z 2, .object RX3) ∨ q = (cF Z 3, .int) ∨ q = (cF Z 4, .int) ∨ q = (cF Z 7, .int) ∨ q = (cF Z 8, .int) ∨ q = (cF Z 9, .int)) : q ∈ tT Z := by
  obtain ⟨d, ⟨a, q7, q8, q9, s1, s2⟩, ⟨qs, q1, q2, q3⟩, F, G, f1, g1, f5, g5, ⟨c7, c8, c9⟩, ⟨c1, c2, c3⟩⟩ := Z
  rcases h with h | h | h | h | h | h | h | h
  · exact List.mem_append_right _ h
  · refine List.mem_append_left _ ?_
    simp only [List.mem_append, List.nil_append]
    simp only [h, true_or, or_true]
  all_goals
    subst h
    refine List.mem_append_left _ ?_
    simp only [List.mem_append, List.nil_append, List.mem_cons, List.not_mem_nil, or_false]
    first | exact Or.inl (Or.inl (Or.inl (Or.inl (Or.inr (Or.inl (Or.inl (Or.inl (Or.inl (Or.inl (Or.inl (Or.inl (Or.inl rfl)))))))))))) | exact Or.inl (Or.inl (Or.inl (Or.inl (Or.inr (Or.inl (Or.inl (Or.inl (Or.inl (Or.inl (Or.inl (Or.inl (Or.inr (Or.inl rfl))))))))))))) | exact Or.inl (Or.inl (Or.inl (Or.inl (Or.inr (Or.inl (Or.inl (Or.inl (Or.inl (Or.inl (Or.inl (Or.inl (Or.inr (Or.inr rfl))))))))))))) | exact Or.inl (Or.inl (Or.inr rfl)) | exact Or.inl (Or.inr rfl) | exact Or.inr rfl
theorem tP_all {k : Nat} (hk : k < 138) (h6 : 6 ≤ kd k) : (cid (mE Z) k, if kd k = 6 then FieldType.int else if kd k = 7 then .long else .object RX3) ∈ tT Z := by
  rcases (show (k = 0 ∨ k = 1 ∨ k = 2 ∨ k = 3 ∨ k = 4 ∨ k = 5 ∨ k = 6 ∨ k = 7 ∨ k = 8 ∨ k = 9) ∨ (10 ≤ k ∧ k < 120) ∨ k = 120 ∨ 121 ≤ k by omega) with h | h | h | h
  · rcases h with rfl | rfl | rfl | rfl | rfl | rfl | rfl | rfl | rfl | rfl
    · exact absurd h6 (by decide)
    · exact absurd h6 (by decide)
    · exact tT_o Z (Or.inr (Or.inr (Or.inl rfl)))
    · exact tT_o Z (Or.inr (Or.inr (Or.inr (Or.inl rfl))))
    · exact tT_o Z (Or.inr (Or.inr (Or.inr (Or.inr (Or.inl rfl)))))
    · exact absurd h6 (by decide)
    · exact tT_o Z (Or.inr (Or.inl (List.mem_singleton.mpr rfl)))
    · exact tT_o Z (Or.inr (Or.inr (Or.inr (Or.inr (Or.inr (Or.inl rfl))))))
    · exact tT_o Z (Or.inr (Or.inr (Or.inr (Or.inr (Or.inr (Or.inr (Or.inl rfl)))))))
    · exact tT_o Z (Or.inr (Or.inr (Or.inr (Or.inr (Or.inr (Or.inr (Or.inr rfl)))))))
  · obtain ⟨n, i, hn, hi, rfl⟩ : ∃ n i, n < 10 ∧ i < 11 ∧ k = 10 + 11 * n + i := ⟨(k - 10) / 11, (k - 10) % 11, by omega, by omega, by omega⟩
    have k1 := kd_v n hn i hi
    rw [k1] at h6
    rw [k1, cid_v Z hn hi]
    refine tT_v Z hn ?_
    rcases (show i = 0 ∨ i = 1 ∨ i = 2 ∨ i = 3 ∨ i = 4 ∨ i = 5 ∨ i = 6 ∨ i = 7 ∨ i = 8 ∨ i = 9 ∨ i = 10 by omega) with rfl | rfl | rfl | rfl | rfl | rfl | rfl | rfl | rfl | rfl | rfl
    · exact absurd h6 (by decide)
    · exact List.mem_of_getElem? (i := 0) rfl
    · exact List.mem_of_getElem? (i := 1) rfl
    · exact List.mem_of_getElem? (i := 2) rfl
    · exact List.mem_of_getElem? (i := 3) rfl
    · exact List.mem_of_getElem? (i := 4) rfl
    · exact List.mem_of_getElem? (i := 5) rfl
    · exact absurd h6 (by decide)
    · exact List.mem_of_getElem? (i := 6) rfl
    · exact List.mem_of_getElem? (i := 7) rfl
    · exact List.mem_of_getElem? (i := 8) rfl
  · subst h
    exact absurd h6 (by decide)
  · have e : kd k = 6 := by unfold kd; rw [if_neg (by omega), if_neg (by omega), if_neg (by omega), if_pos (by omega)]
    rw [if_pos e]
    obtain ⟨i, hi, rfl⟩ : ∃ i, i < 17 ∧ k = 121 + i := ⟨k - 121, by omega, by omega⟩
    refine tT_o Z (Or.inl ?_)
    have e2 : cid (mE Z) (121 + i) = sg5 Z (i + 1) := by
      obtain ⟨d, ⟨a, q7, q8, q9, s1, s2⟩, ⟨qs, q1, q2, q3⟩, F, G, f1, g1, f5, g5, ⟨c7, c8, c9⟩, ⟨c1, c2, c3⟩⟩ := Z
      show (if 121 + i < 5 then _ else if 121 + i < 10 then _ else if 121 + i < 120 then _ else g5 (121 + i - 120)) = g5 (i + 1)
      rw [if_neg (by omega), if_neg (by omega), if_neg (by omega), show 121 + i - 120 = i + 1 by omega]
    rw [e2]
    rcases (show i = 0 ∨ i = 1 ∨ i = 2 ∨ i = 3 ∨ i = 4 ∨ i = 5 ∨ i = 6 ∨ i = 7 ∨ i = 8 ∨ i = 9 ∨ i = 10 ∨ i = 11 ∨ i = 12 ∨ i = 13 ∨ i = 14 ∨ i = 15 ∨ i = 16 by omega) with rfl | rfl | rfl | rfl | rfl | rfl | rfl | rfl | rfl | rfl | rfl | rfl | rfl | rfl | rfl | rfl | rfl <;> simp only [mt5, List.mem_cons, true_or, or_true]
end WT
theorem arrV_ext {cA : ClassId} {n : Nat} {f g : Nat → Value} (h : ∀ j, j < n → f j = g j) : arrV cA n f = arrV cA n g := by
  have e : (fun j : _root_.Fin n => f j) = (fun j : _root_.Fin n => g j) := funext fun j => h j j.2
  unfold arrV
  first | rw [e] | simp [e] | (congr 1; exact congrArg _ e)
theorem lvF_at (F : Nat → Nat → Nat) {j : Nat} (hj : j < 7) : lvF F j = some (F (3 + j) 0) := by
  rcases (show j = 0 ∨ j = 1 ∨ j = 2 ∨ j = 3 ∨ j = 4 ∨ j = 5 ∨ j = 6 by omega) with rfl | rfl | rfl | rfl | rfl | rfl | rfl <;> rfl
theorem mE_P {Z : Zt} {H : Heap} (h : va_P Z.1 vwCl (wT Z) H) : Rp (mE Z) h00 H := by
  intro k q hk
  obtain ⟨hl, rfl⟩ := wsH_lt hk
  have h1 := h _ _ (wP_all Z hl)
  by_cases e : k = 2
  · subst e
    have h2 : H[ad (mE Z) 2]? = some (vp_cell (cid (mE Z) 2) (7, .inr (.inr (.inr (.inr (lvF (sF Z))))))) := h1
    show H[ad (mE Z) 2]? = some (vp_cell (cid (mE Z) 2) (7, .inr (.inr (.inr (.inr (fun j => some (ad (mE Z) (rf 2 j))))))))
    rw [h2, vp_cell_q, vp_cell_q]
    refine congrArg some (arrV_ext fun j hj => ?_)
    rw [lvF_at _ hj]
    obtain ⟨d, ⟨a, q7, q8, q9, s1, s2⟩, ⟨qs, q1, q2, q3⟩, F, G, f1, g1, f5, g5, ⟨c7, c8, c9⟩, ⟨c1, c2, c3⟩⟩ := Z
    rcases (show j = 0 ∨ j = 1 ∨ j = 2 ∨ j = 3 ∨ j = 4 ∨ j = 5 ∨ j = 6 by omega) with rfl | rfl | rfl | rfl | rfl | rfl | rfl <;> rfl
  · have e2 : celR Z k = cel (mE Z) h00 k := if_neg e
    rw [e2] at h1
    exact h1
theorem mE_I {Z : Zt} {A : Nat → Prop} (h : va_D A (wT Z)) : Inj (mE Z) := fun i j hi hj hij => gix_inj hi hj (h.1 _ _ _ _ (wP_all Z hi) (wP_all Z hj) hij)
theorem mE_A {Z : Zt} {A : Nat → Prop} (h : va_D A (wT Z)) {q : Nat} (hq : AD (mE Z) q) : A q := by
  obtain ⟨k, hk, rfl⟩ := hq
  exact h.2 _ _ (wP_all Z hk)
theorem mE_K {Z : Zt} {s : State} (h : va_K Z.1 vwCl (tT Z) s) {k : Nat} {ty : FieldType} (hk : k < NC) (h6 : 6 ≤ kd k) (ht : (if kd k = 6 then FieldType.int else if kd k = 7 then .long else .object RX3) = ty) : va_K (eD (mE Z)) vwCl [(cid (mE Z) k, ty)] s := by
  obtain ⟨i, hi⟩ := List.getElem?_of_mem (tP_all Z hk h6)
  subst ht
  exact h.sub [i] (by show [i].filterMap _ = _; simp [hi])
