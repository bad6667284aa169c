/-! The static picture of the world: 138 cells by number. 0 the class's object; 1 Search, 2 level, 3 chosen, 4 bestRow; 5 Letters, 6 letter; 7 morning, 8 numbers, 9 refusals; a Village at 10 + 11 i (now, saved, mind, level 0 .. 6): its object, kind, figure, to, has, finds, setting, Gifts, amount, counted, pairs; 120 the reference's object, 121 .. 137 its arrays. 138, 139: the two static arrays. Kinds: 0 .. 5 the classes of vwCl, 6 int[], 7 long[], 8 Village[], 9 a static int[]. -/
def NC : Nat := 138
def kd (k : Nat) : Nat := if k < 10 then ([4,2,8,6,6,1,6,6,6,6] : List Nat).getD k 99 else if k < 120 then ([3,6,6,6,6,6,6,0,6,6,7] : List Nat).getD ((k - 10) % 11) 99 else if k = 120 then 5 else if k < 138 then 6 else if k < 140 then 9 else 99
def len (k : Nat) : Nat := if k < 10 then ([0,0,7,6,6,0,64,6,12,7] : List Nat).getD k 0 else if k < 120 then ([0,6,6,6,6,6,4,0,252,36,11] : List Nat).getD ((k - 10) % 11) 0 else if k < 138 then ([0,6,6,6,6,6,462,7,6,480,64,33,33,165,6,12,480,27] : List Nat).getD (k - 120) 0 else if k < 140 then 4 else 0
def rf (k j : Nat) : Nat := if k < 10 then (if k = 0 then ([10,21,32,1,5,7,8,9] : List Nat).getD j 999 else if k = 1 then ([2,3,4] : List Nat).getD j 999 else if k = 2 then (if j < 7 then 43 + 11 * j else 999) else if k = 5 then ([6] : List Nat).getD j 999 else 999) else if k < 120 then (if (k - 10) % 11 = 0 then (if j < 7 then k + 1 + j else 999) else if (k - 10) % 11 = 7 then (if j < 3 then k + 1 + j else 999) else 999) else if k = 120 then ([999,999,999,999,999,999,121,122,123,124,125,126,999,999,127,128,129,999,999,999,130,999,999,999,999,131,132,133,999,134,999,999,999,135,999,999,999,136,137] : List Nat).getD j 999 else 999
def stc (k j : Nat) : Int32 := if k = 138 then ([0,1,0,0] : List Int32).getD j 0 else ([5,5,5,99] : List Int32).getD j 0
abbrev OKr (a ci : Nat) : Prop := a < NC ∧ kd a = ci
/-- ints by cell and slot, longs by cell and slot, the reference's keptIn -/
abbrev Hp : Type := (Nat → Nat → Int32) × (Nat → Nat → Int64) × Option Nat
/-- class ids and slots of the classes, the cells' addresses, the arrays' class ids -/
abbrev Ep : Type := (Nat → ClassId) × (Nat → Nat → Nat) × (Nat → Nat) × (Nat → ClassId)
abbrev ad (E : Ep) : Nat → Nat := E.2.2.1
abbrev cid (E : Ep) : Nat → ClassId := E.2.2.2
abbrev eD (E : Ep) : va_G := (E.1, E.2.1)
def upd2 (f : Nat → Nat → Int32) (a j : Nat) (v : Int32) : Nat → Nat → Int32 := fun k => if k = a then upd (f k) j v else f k
def upd2L (f : Nat → Nat → Int64) (a j : Nat) (v : Int64) : Nat → Nat → Int64 := fun k => if k = a then vp_updL (f k) j v else f k
def wI (h : Hp) (a j : Nat) (v : Int32) : Hp := (upd2 h.1 a j v, h.2)
def wJ (h : Hp) (a j : Nat) (v : Int64) : Hp := (h.1, upd2L h.2.1 a j v, h.2.2)
def wK (h : Hp) (v : Nat) : Hp := (h.1, h.2.1, some v)
def cpI (h : Hp) (a0 sp a1 dp n : Nat) : Hp := (fun k => if k = a1 then va_cpy (h.1 a0) (h.1 a1) sp dp n else h.1 k, h.2)
def cpJ (h : Hp) (a0 sp a1 dp n : Nat) : Hp := (h.1, fun k => if k = a1 then va_cpy (h.2.1 a0) (h.2.1 a1) sp dp n else h.2.1 k, h.2.2)
/-- the reads and writes of the shadows: none where the machine would throw -/
def ldI (h : Hp) (a : Nat) (i : Int32) : Option Int32 := if i < 0 ∨ len a ≤ i.toNatClampNeg then none else some (h.1 a i.toNatClampNeg)
def ldJ (h : Hp) (a : Nat) (i : Int32) : Option Int64 := if i < 0 ∨ len a ≤ i.toNatClampNeg then none else some (h.2.1 a i.toNatClampNeg)
def ldR (a : Nat) (i : Int32) : Option Nat := if i < 0 ∨ len a ≤ i.toNatClampNeg then none else some (rf a i.toNatClampNeg)
def ldS (a : Nat) (i : Int32) : Option Int32 := if i < 0 ∨ len a ≤ i.toNatClampNeg then none else some (stc a i.toNatClampNeg)
def stI (h : Hp) (a : Nat) (i v : Int32) : Option Hp := if i < 0 ∨ len a ≤ i.toNatClampNeg then none else some (wI h a i.toNatClampNeg v)
def stJ (h : Hp) (a : Nat) (i : Int32) (v : Int64) : Option Hp := if i < 0 ∨ len a ≤ i.toNatClampNeg then none else some (wJ h a i.toNatClampNeg v)
def gK (h : Hp) : Option Nat := match h.2.2 with
  | none => none
  | some a => if a < NC ∧ kd a = 6 then some a else none
def acI (h : Hp) (a0 : Nat) (sp : Int32) (a1 : Nat) (dp n : Int32) : Option Hp := if sp < 0 ∨ dp < 0 ∨ n < 0 ∨ len a0 < sp.toNatClampNeg + n.toNatClampNeg ∨ len a1 < dp.toNatClampNeg + n.toNatClampNeg then none else some (cpI h a0 sp.toNatClampNeg a1 dp.toNatClampNeg n.toNatClampNeg)
def acJ (h : Hp) (a0 : Nat) (sp : Int32) (a1 : Nat) (dp n : Int32) : Option Hp := if sp < 0 ∨ dp < 0 ∨ n < 0 ∨ len a0 < sp.toNatClampNeg + n.toNatClampNeg ∨ len a1 < dp.toNatClampNeg + n.toNatClampNeg then none else some (cpJ h a0 sp.toNatClampNeg a1 dp.toNatClampNeg n.toNatClampNeg)
def dvI (x y : Int32) : Option Int32 := if y = 0 then none else some (x / y)
def rmI (x y : Int32) : Option Int32 := if y = 0 then none else some (x - x / y * y)
/-- a boolean that is one -/
def bol (x : Int32) : Option Int32 := if x = 0 ∨ x = 1 then some x else none
theorem bnd {α β : Type} {x : Option α} {k : α → Option β} {r : β} (h : Option.bind x k = some r) : ∃ v, x = some v ∧ k v = some r := by
  cases x with
  | none => cases h
  | some v => exact ⟨v, rfl, h⟩
/-! cells and the world -/
def cel (E : Ep) (h : Hp) (k : Nat) : va_E := match kd k with
  | 0 => .inr (0, [.ref (ad E (rf k 0)), .ref (ad E (rf k 1)), .ref (ad E (rf k 2))])
  | 1 => .inr (1, [.ref (ad E (rf k 0)), .int (h.1 k 1), .int (h.1 k 2)])
  | 2 => .inr (2, [.ref (ad E (rf k 0)), .ref (ad E (rf k 1)), .ref (ad E (rf k 2)), .int (h.1 k 3), .int (h.1 k 4), .int (h.1 k 5), .int (h.1 k 6), .int (h.1 k 7)])
  | 3 => .inr (3, [.ref (ad E (rf k 0)), .ref (ad E (rf k 1)), .ref (ad E (rf k 2)), .ref (ad E (rf k 3)), .ref (ad E (rf k 4)), .ref (ad E (rf k 5)), .ref (ad E (rf k 6)), .int (h.1 k 7), .int (h.1 k 8)])
  | 4 => .inr (4, [.ref (ad E (rf k 0)), .ref (ad E (rf k 1)), .ref (ad E (rf k 2)), .ref (ad E (rf k 3)), .ref (ad E (rf k 4)), .ref (ad E (rf k 5)), .ref (ad E (rf k 6)), .ref (ad E (rf k 7)), .int (h.1 k 8), .int (h.1 k 9)])
  | 5 => .inr (5, [.int (h.1 k 0), .int (h.1 k 1), .int (h.1 k 2), .int (h.1 k 3), .int (h.1 k 4), .int (h.1 k 5), .ref (ad E (rf k 6)), .ref (ad E (rf k 7)), .ref (ad E (rf k 8)), .ref (ad E (rf k 9)), .ref (ad E (rf k 10)), .ref (ad E (rf k 11)), .int (h.1 k 12), .int (h.1 k 13), .ref (ad E (rf k 14)), .ref (ad E (rf k 15)), .ref (ad E (rf k 16)), .int (h.1 k 17), .int (h.1 k 18), va_rf (h.2.2.map (ad E)), .ref (ad E (rf k 20)), .int (h.1 k 21), .int (h.1 k 22), .int (h.1 k 23), .int (h.1 k 24), .ref (ad E (rf k 25)), .ref (ad E (rf k 26)), .ref (ad E (rf k 27)), .int (h.1 k 28), .ref (ad E (rf k 29)), .int (h.1 k 30), .int (h.1 k 31), .int (h.1 k 32), .ref (ad E (rf k 33)), .int (h.1 k 34), .int (h.1 k 35), .int (h.1 k 36), .ref (ad E (rf k 37)), .ref (ad E (rf k 38))])
  | 6 => .inl (cid E k, len k, .inl (h.1 k))
  | 7 => .inl (cid E k, len k, .inr (.inl (h.2.1 k)))
  | _ => .inl (cid E k, len k, .inr (.inr (.inr (.inr (fun j => some (ad E (rf k j)))))))
theorem ce0 (E : Ep) (h : Hp) {k : Nat} (hk : kd k = 0) : cel E h k = .inr (0, [.ref (ad E (rf k 0)), .ref (ad E (rf k 1)), .ref (ad E (rf k 2))]) := by unfold cel; rw [hk]; rfl
theorem ce1 (E : Ep) (h : Hp) {k : Nat} (hk : kd k = 1) : cel E h k = .inr (1, [.ref (ad E (rf k 0)), .int (h.1 k 1), .int (h.1 k 2)]) := by unfold cel; rw [hk]; rfl
theorem ce2 (E : Ep) (h : Hp) {k : Nat} (hk : kd k = 2) : cel E h k = .inr (2, [.ref (ad E (rf k 0)), .ref (ad E (rf k 1)), .ref (ad E (rf k 2)), .int (h.1 k 3), .int (h.1 k 4), .int (h.1 k 5), .int (h.1 k 6), .int (h.1 k 7)]) := by unfold cel; rw [hk]; rfl
theorem ce3 (E : Ep) (h : Hp) {k : Nat} (hk : kd k = 3) : cel E h k = .inr (3, [.ref (ad E (rf k 0)), .ref (ad E (rf k 1)), .ref (ad E (rf k 2)), .ref (ad E (rf k 3)), .ref (ad E (rf k 4)), .ref (ad E (rf k 5)), .ref (ad E (rf k 6)), .int (h.1 k 7), .int (h.1 k 8)]) := by unfold cel; rw [hk]; rfl
theorem ce4 (E : Ep) (h : Hp) {k : Nat} (hk : kd k = 4) : cel E h k = .inr (4, [.ref (ad E (rf k 0)), .ref (ad E (rf k 1)), .ref (ad E (rf k 2)), .ref (ad E (rf k 3)), .ref (ad E (rf k 4)), .ref (ad E (rf k 5)), .ref (ad E (rf k 6)), .ref (ad E (rf k 7)), .int (h.1 k 8), .int (h.1 k 9)]) := by unfold cel; rw [hk]; rfl
theorem ce5 (E : Ep) (h : Hp) {k : Nat} (hk : kd k = 5) : cel E h k = .inr (5, [.int (h.1 k 0), .int (h.1 k 1), .int (h.1 k 2), .int (h.1 k 3), .int (h.1 k 4), .int (h.1 k 5), .ref (ad E (rf k 6)), .ref (ad E (rf k 7)), .ref (ad E (rf k 8)), .ref (ad E (rf k 9)), .ref (ad E (rf k 10)), .ref (ad E (rf k 11)), .int (h.1 k 12), .int (h.1 k 13), .ref (ad E (rf k 14)), .ref (ad E (rf k 15)), .ref (ad E (rf k 16)), .int (h.1 k 17), .int (h.1 k 18), va_rf (h.2.2.map (ad E)), .ref (ad E (rf k 20)), .int (h.1 k 21), .int (h.1 k 22), .int (h.1 k 23), .int (h.1 k 24), .ref (ad E (rf k 25)), .ref (ad E (rf k 26)), .ref (ad E (rf k 27)), .int (h.1 k 28), .ref (ad E (rf k 29)), .int (h.1 k 30), .int (h.1 k 31), .int (h.1 k 32), .ref (ad E (rf k 33)), .int (h.1 k 34), .int (h.1 k 35), .int (h.1 k 36), .ref (ad E (rf k 37)), .ref (ad E (rf k 38))]) := by unfold cel; rw [hk]; rfl
theorem ce6 (E : Ep) (h : Hp) {k : Nat} (hk : kd k = 6) : cel E h k = .inl (cid E k, len k, .inl (h.1 k)) := by unfold cel; rw [hk]; rfl
theorem ce7 (E : Ep) (h : Hp) {k : Nat} (hk : kd k = 7) : cel E h k = .inl (cid E k, len k, .inr (.inl (h.2.1 k))) := by unfold cel; rw [hk]; rfl
theorem ce8 (E : Ep) (h : Hp) {k : Nat} (hk : kd k = 8) : cel E h k = .inl (cid E k, len k, .inr (.inr (.inr (.inr (fun j => some (ad E (rf k j))))))) := by unfold cel; rw [hk]; rfl
theorem cel_eq {E : Ep} {h h' : Hp} {k : Nat} (h1 : h'.1 k = h.1 k) (h2 : h'.2.1 k = h.2.1 k) (h3 : h'.2.2 = h.2.2 ∨ kd k ≠ 5) : cel E h' k = cel E h k := by
  unfold cel
  rw [h1, h2]
  rcases h3 with h3 | h3
  · rw [h3]
  · split <;> first | rfl | (exact absurd (by assumption) h3)
def wsH (E : Ep) (h : Hp) : va_W := (List.range NC).map fun k => (ad E k, cel E h k)
theorem wsH_at (E : Ep) (h : Hp) {k : Nat} (hk : k < NC) : (wsH E h)[k]? = some (ad E k, cel E h k) := by
  unfold wsH
  rw [List.getElem?_map, List.getElem?_range hk]
  rfl
theorem wsH_len (E : Ep) (h : Hp) : (wsH E h).length = NC := by unfold wsH; rw [List.length_map, List.length_range]
theorem wsH_lt {E : Ep} {h : Hp} {k : Nat} {q : Nat × va_E} (hk : (wsH E h)[k]? = some q) : k < NC ∧ q = (ad E k, cel E h k) := by
  have hl := (List.getElem?_eq_some_iff.mp hk).1
  rw [wsH_len] at hl
  rw [wsH_at E h hl] at hk
  exact ⟨hl, (Option.some.inj hk).symm⟩
theorem wsH_set {E : Ep} {h h' : Hp} {a : Nat} (ha : a < NC) (h1 : ∀ k, k ≠ a → cel E h' k = cel E h k) : (wsH E h).set a (ad E a, cel E h' a) = wsH E h' := by
  apply List.ext_getElem?
  intro k
  by_cases hk : k < NC
  · rw [wsH_at E h' hk]
    by_cases e : k = a
    · subst e
      rw [List.getElem?_set_self (by rw [wsH_len]; exact hk)]
    · rw [List.getElem?_set_ne (Ne.symm e), wsH_at E h hk, h1 k e]
  · have e1 : ((wsH E h).set a (ad E a, cel E h' a)).length ≤ k := by rw [List.length_set, wsH_len]; omega
    have e2 : (wsH E h').length ≤ k := by rw [wsH_len]; omega
    rw [List.getElem?_eq_none e1, List.getElem?_eq_none e2]
def AD (E : Ep) : Nat → Prop := fun q => ∃ k, k < NC ∧ q = ad E k
def Inj (E : Ep) : Prop := ∀ i j, i < NC → j < NC → ad E i = ad E j → i = j
theorem wsH_D {E : Ep} (h : Hp) (hI : Inj E) : va_D (AD E) (wsH E h) := by
  refine ⟨fun i j p q hi hj hpq => ?_, fun k q hk => ?_⟩
  · obtain ⟨h1, rfl⟩ := wsH_lt hi
    obtain ⟨h2, rfl⟩ := wsH_lt hj
    exact hI i j h1 h2 hpq
  · obtain ⟨h1, rfl⟩ := wsH_lt hk
    exact ⟨k, h1, rfl⟩
def Rp (E : Ep) (h : Hp) (H : Heap) : Prop := va_P (eD E) vwCl (wsH E h) H
/-! the words -/
def TB : List Cond := lw_tbl.filter goodWord
def isNest : Cond → Bool
  | .fieldLinkNest .. => true
  | .methodLinkNest .. => true
  | _ => false
def NWL : List Cond := lw_tbl.filter isNest
theorem tb_good {w : Cond} (h : w ∈ TB) : (w.onTables && w.keeps) = true ∨ ∃ ty, w = .arrayClass ty := good_of_word (List.mem_filter.mp h).2
theorem tb_tbl {w : Cond} (h : w ∈ TB) : w ∈ lw_tbl := (List.mem_filter.mp h).1
theorem tb_mem {w : Cond} (i : Nat) (h : lw_tbl[i]? = some w) (hg : goodWord w = true) : w ∈ TB := List.mem_filter.mpr ⟨List.mem_of_getElem? h, hg⟩
theorem nw_mem {w : Cond} (i : Nat) (h : lw_tbl[i]? = some w) (hg : isNest w = true) : w ∈ NWL := List.mem_filter.mpr ⟨List.mem_of_getElem? h, hg⟩
/-- what stands of the machine's tables and of the two static arrays -/
def Stt (E : Ep) (U : State) : Prop :=
  va_K (eD E) vwCl [] U ∧ (∀ k, k < NC → kd k = 6 → va_K (eD E) vwCl [(cid E k, .int)] U) ∧ (∀ k, k < NC → kd k = 7 → va_K (eD E) vwCl [(cid E k, .long)] U) ∧ (∀ k, k < NC → kd k = 8 → va_K (eD E) vwCl [(cid E k, .object RX3)] U) ∧
  (∀ w ∈ NWL, va_Nw w U) ∧ Inj E ∧
  va_Z RX4 "SETTING_LEAST" "[I" (.ref (ad E 138)) (AD E) U U.heap ∧ va_T .int (ad E 138) 4 (fun j => .int (stc 138 j)) (AD E) U U.heap ∧
  va_Z RX4 "SETTING_MOST" "[I" (.ref (ad E 139)) (AD E) U U.heap ∧ va_T .int (ad E 139) 4 (fun j => .int (stc 139 j)) (AD E) U U.heap
theorem nw_warm {w : Cond} (hw : w ∈ NWL) {s U : State} (hW : s.WarmedH U.vm) (h : va_Nw w s) : va_Nw w U := by
  have h1 := (List.mem_filter.mp hw).2
  cases w <;> first | (simp [isNest] at h1; done) | exact va_Nw.warmF hW h | exact va_Nw.warmM hW h
theorem Stt.moved {E : Ep} {s U : State} (h : Stt E s) (hW : s.WarmedH U.vm) (hH : ∀ a : Nat, a < s.heap.size → ¬ AD E a → U.heap[a]? = s.heap[a]?) : Stt E U := by
  obtain ⟨h1, h2, h3, h4, h5, h6, h7, h8, h9, h10⟩ := h
  exact ⟨va_K.moved hW.alike h1, fun k a b => va_K.moved hW.alike (h2 k a b), fun k a b => va_K.moved hW.alike (h3 k a b), fun k a b => va_K.moved hW.alike (h4 k a b), fun w hw => nw_warm hw hW (h5 w hw), h6,
    (va_Z.moved hW.alike h7).kept hH, (va_T.moved hW.alike h8).kept hH, (va_Z.moved hW.alike h9).kept hH, (va_T.moved hW.alike h10).kept hH⟩
theorem Stt.calling {E : Ep} {U : State} {g : JFrame} {mk : MethodId} {a : Array Value} (h : Stt E U) : Stt E (U.calling g mk a) := by
  have hA : U.vm.Alike (U.calling g mk a).vm := Vm.Alike.refl U.vm
  obtain ⟨h1, h2, h3, h4, h5, h6, h7, h8, h9, h10⟩ := h
  exact ⟨va_K.moved hA h1, fun k a b => va_K.moved hA (h2 k a b), fun k a b => va_K.moved hA (h3 k a b), fun k a b => va_K.moved hA (h4 k a b), fun w hw => by
      have h1 := (List.mem_filter.mp hw).2
      have hz := h5 w hw
      cases w <;> first | (simp [isNest] at h1; done) | exact va_Nw.same rfl rfl hz, h6,
    va_Z.moved hA h7, va_T.moved hA h8, va_Z.moved hA h9, va_T.moved hA h10⟩
/-! contracts -/
def rmd (d : Nat) : Room := { frames := d, cells := 0, slots := 0, locals := 40 * d }
def Qm (E : Ep) (r : Option Value) (h' : Hp) : Array Value → State → Outcome → State → Prop := fun _ st oc t => oc = .returned r ∧ Rp E h' t.heap ∧ va_F (AD E) st t
/-- from the abstract heap h the method y, with these arguments, returns r and leaves h' -/
def MG (l : Launch) (E : Ep) (y : MethodName) (cc : ByteArray) (maxL : Nat) (ret : Option FieldType) (d : Nat) (as : List Value) (h : Hp) (r : Option Value) (h' : Hp) : Prop :=
  Met l y (Cond.code y cc maxL ret :: TB) (rmd d) (va_Pc as (fun U => Rp E h U.heap ∧ Stt E U)) (Qm E r h') 0 0 (AD E)
/-- where one stands: all that stays the same in a method's walk -/
abbrev Fx : Type := Program × Env × Room × State × MethodId × Array Value × List Frame × Method × Code × (Nat × Nat) × (State → Prop) × Nat
def GG (l : Launch) (E : Ep) (X : Fx) (h : Hp) (pc : Nat) (lv : List (Nat × Value)) (st : List Value) : Prop := match X with
  | (p, e, R, s, m, args, below, meth, c, (cells, slots), Q, nL) => ∀ (H : Heap) (locs : List Loc) (ls : Array Slot), Rp E h H → va_S (AD E) s.heap H locs → lv_has ls nL lv → W p l e R s m args below meth c H locs cells slots Q (F0 m pc ls st)
def CX (E : Ep) (X : Fx) (own : String) (cc : ByteArray) (nL d : Nat) : Prop := match X with
  | (p, e, R, s, m, args, below, meth, c, (cells, slots), Q, nL') => nL' = nL ∧ p.tables.exec = Jvm.exec ∧ c.code = cc ∧ c.maxLocals = nL ∧ s.vm.findClass own = some m.cls ∧ (∀ w ∈ TB, w.before args s = true) ∧ Stt E s ∧ cells ≤ R.cells ∧ slots ≤ R.slots ∧ d ≤ R.frames ∧ 40 * d ≤ R.locals
def RT (E : Ep) (X : Fx) (ret : Option FieldType) (r : Option Value) (h' : Hp) : Prop := match X with
  | (p, e, R, s, m, args, below, meth, c, (cells, slots), Q, nL') => Q = MQ below (Qm E r h') args s cells slots (AD E) ∧ meth.sig.returnType = ret ∧ meth.locks = false
theorem MG.of {l : Launch} {E : Ep} {y : MethodName} {cc : ByteArray} {maxL d : Nat} {ret : Option FieldType} {as : List Value} {h h' : Hp} {r : Option Value} (hy : plainName y.cls = true) (ha : (lg_sl as).length ≤ maxL)
    (body : ∀ X : Fx, CX E X y.cls cc maxL d → RT E X ret r h' → GG l E X h 0 (lv_args 0 as) []) : MG l E y cc maxL ret d as h r h' := by
  refine Met.ofW (cc := cc) (maxL := maxL) (ret := ret) hy rfl ?_
  intro p e s m args below meth c s₁ B hml hv
  obtain ⟨rfl, hP, hS⟩ := hv
  have hts := atoms_spec (ws := Cond.code y cc maxL ret :: TB) B.pre
  have hl := lv_entry as (n := maxL) ha
  rw [lg_entry_eq]
  exact body (p, e, rmd d, s, m, as.toArray, below, meth, c, (0, 0), MQ below (Qm E r h') as.toArray s 0 0 (AD E), maxL) ⟨rfl, B.exec, B.bytes, hml, findClass_of_methodNamed B.named, fun w hw => hts w (List.mem_cons_of_mem _ hw), hS, Nat.zero_le _, Nat.zero_le _, Nat.le_refl _, Nat.le_refl _⟩ ⟨rfl, B.returns, B.notSynchronized⟩ s.heap [] _ hP va_S.rf hl
/-- what the tables say of a method that is called -/
def MWv (y : MethodName) (cc : ByteArray) (maxL : Nat) (ret : Option FieldType) (n : Nat) : Prop := Cond.instanceMethod y ∈ TB ∧ Cond.selects y.cls y y ∈ TB ∧ Cond.code y cc maxL ret ∈ TB ∧ Cond.initialized y.cls ∈ TB ∧ (y.cls ≠ "java/lang/invoke/MethodHandle" ∧ y.cls ≠ "java/lang/invoke/VarHandle") ∧ (parseMethodDescriptor y.desc).map (fun d => d.parameters.length) = some n ∧ maxL ≤ 21
def MWs (y : MethodName) (cc : ByteArray) (maxL : Nat) (ret : Option FieldType) (n : Nat) : Prop := Cond.static y ∈ TB ∧ Cond.code y cc maxL ret ∈ TB ∧ Cond.initialized y.cls ∈ TB ∧ (y.cls ≠ "java/lang/invoke/MethodHandle" ∧ y.cls ≠ "java/lang/invoke/VarHandle") ∧ (parseMethodDescriptor y.desc).map (fun d => d.parameters.length) = some n ∧ maxL ≤ 21
theorem good_code {y : MethodName} {cc : ByteArray} {maxL : Nat} {ret : Option FieldType} (hc : Cond.code y cc maxL ret ∈ TB) : GoodIn TB (Cond.code y cc maxL ret :: TB) := by
  intro w hw
  rcases List.mem_cons.mp hw with rfl | hw
  · exact ⟨hc, tb_good hc⟩
  · exact ⟨hw, tb_good hw⟩
theorem mg_blind {E : Ep} {h : Hp} {as : List Value} : FrameBlind (va_Pc as (fun U => Rp E h U.heap ∧ Stt E U)) := fun a U g mk q => ⟨q.1, q.2.1, q.2.2.calling⟩
section GR
variable {l : Launch} {E : Ep} {X : Fx} {own : String} {cc : ByteArray} {nL d : Nat} {h h1 : Hp} {pc : Nat} {lv lv' : List (Nat × Value)} {st rest : List Value}
/-- behind a call -/
theorem g_after {p : Program} {e : Env} {R : Room} {s : State} {m : MethodId} {args : Array Value} {below : List Frame} {meth : Method} {c : Code} {cells slots : Nat} {Q : State → Prop} {H : Heap} {locs : List Loc} {g : JFrame} {r : Option Value} {a : Array Value}
    (hr : va_Run p l e R s m args below meth c H locs cells slots 0 0 g rest (Qm E r h1 a) (AD E)) (hS : va_S (AD E) s.heap H locs)
    (kk : ∀ (H1 : Heap) (locs1 : List Loc), Rp E h1 H1 → va_S (AD E) s.heap H1 locs1 → W p l e R s m args below meth c H1 locs1 cells slots Q { g with pc := g.pc + 3, stack := r.toList ++ rest }) : W p l e R s m args below meth c H locs cells slots Q g := by
  intro T hT X
  obtain ⟨v, st₀, t, T', L, h0, X', hL, e1, e2, ⟨hv, hp, hz, hk⟩, st⟩ := hr T hT X
  cases hv
  rw [h0] at hz hk
  obtain ⟨t2, a1, b1⟩ := kk T'.heap (locs ++ L) (by rw [e1]; exact hp)
    ⟨Nat.le_trans hS.1 (by rw [e1]; exact hz), fun q h1 h2 => by rw [e1, hk q (Nat.lt_of_lt_of_le h1 hS.1) h2]; exact hS.2.1 q h1 h2, fun q hq => by
      rcases List.mem_append.mp hq with h | h
      · exact hS.2.2 q h
      · exact hL q h⟩ T' rfl X'
  exact ⟨t2, st t2 a1, b1⟩
theorem g_cV (C : CX E X own cc nL d) {y : MethodName} {cd : ByteArray} {mL d' n idx b ci : Nat} {ty : Option FieldType} {As : List Value} {r : Option Value} {T : u_T} {N : Nat} (hM : MG l E y cd mL ty d' (.ref (ad E b) :: As) h r h1) (hm : MWv y cd mL ty n) (hl : Cond.methodLink own idx y ∈ TB) (hb : OKr b ci) (hcl : vwCl[ci]? = some (y.cls, T, N)) {fs : List Value} (hce : cel E h b = .inr (ci, fs)) (hn : As.length = n) (hd : d' + 1 ≤ d)
    (hst : st = As.reverse ++ .ref (ad E b) :: rest) (hc : (rest.map fun v => v.category).sum ≤ 8) (hdg : decode cc pc = .ok (.invokevirtual idx, 3)) {st2 : List Value} (hr : r.toList ++ rest = st2) (k : GG l E X h1 (pc + 3) lv st2) : GG l E X h pc lv st := by
  obtain ⟨p, e, R, s, m, args, below, meth, c, ⟨cells, slots⟩, Q, nL'⟩ := X
  obtain ⟨rfl, hx, hbc, hml, hown, hts, hSt, hc1, hc2, hf, hlo⟩ := C
  obtain ⟨m1, m2, m3, m4, m5, m6, m7⟩ := hm
  subst hst
  subst hr
  intro H locs ls hP hS hl0
  have hK0 := hSt.1
  refine g_after (va_runV (As := As) (rest := rest) (cc := cc) (nL := nL') (own := own) (C := y.cls) (index := idx) (bytes := cd) (maxL := mL) (ret := ty) (n := n) (Ts := TB) ⟨hx, hbc, hml, hown, hts⟩ hM
    ⟨callB_of n hts (good_code m3) rfl rfl rfl (hts _ m4) (hts _ hl) ⟨m5.1, m5.2, m6⟩ ⟨by show d' + 1 ≤ R.frames; omega, by show 8 + (mL + 11) + 40 * d' ≤ R.locals; omega⟩, hts _ m1, hts _ m2⟩
    ⟨mg_blind, va_recv hK0 hP hcl (q0 := b) (by rw [wsH_at E h hb.1, hce]), fun U hU hW => ⟨rfl, by rw [hU]; exact hP, hSt.moved hW (fun a h1 h2 => by rw [hU]; exact hS.2.1 a h1 h2)⟩⟩
    rfl hn hl0.1 rfl (lv_room hc) hdg ⟨hc1, hc2⟩) hS (fun H1 locs1 hP1 hS1 => k H1 locs1 ls hP1 hS1 hl0)
theorem g_cVN (C : CX E X own cc nL d) {y : MethodName} {cd : ByteArray} {mL d' n idx b ci : Nat} {ty : Option FieldType} {As : List Value} {r : Option Value} {T : u_T} {N : Nat} {host : String} (hM : MG l E y cd mL ty d' (.ref (ad E b) :: As) h r h1) (hm : MWv y cd mL ty n) (hl : Cond.methodLinkNest own idx y host ∈ NWL) (hb : OKr b ci) (hcl : vwCl[ci]? = some (y.cls, T, N)) {fs : List Value} (hce : cel E h b = .inr (ci, fs)) (hn : As.length = n) (hd : d' + 1 ≤ d)
    (hst : st = As.reverse ++ .ref (ad E b) :: rest) (hc : (rest.map fun v => v.category).sum ≤ 8) (hdg : decode cc pc = .ok (.invokevirtual idx, 3)) {st2 : List Value} (hr : r.toList ++ rest = st2) (k : GG l E X h1 (pc + 3) lv st2) : GG l E X h pc lv st := by
  obtain ⟨p, e, R, s, m, args, below, meth, c, ⟨cells, slots⟩, Q, nL'⟩ := X
  obtain ⟨rfl, hx, hbc, hml, hown, hts, hSt, hc1, hc2, hf, hlo⟩ := C
  obtain ⟨m1, m2, m3, m4, m5, m6, m7⟩ := hm
  subst hst
  subst hr
  intro H locs ls hP hS hl0
  have hK0 := hSt.1
  refine g_after (va_runVN (As := As) (rest := rest) (cc := cc) (nL := nL') (own := own) (C := y.cls) (host := host) (index := idx) (bytes := cd) (maxL := mL) (ret := ty) (n := n) (Ts := TB) ⟨hx, hbc, hml, hown, hts⟩ hM
    ⟨va_cnB n hts (good_code m3) rfl rfl rfl (hSt.2.2.2.2.1 _ hl) (hts _ m4) ⟨m5.1, m5.2, m6⟩ ⟨by show d' + 1 ≤ R.frames; omega, by show 8 + (mL + 11) + 40 * d' ≤ R.locals; omega⟩, hts _ m1, hts _ m2⟩
    ⟨mg_blind, va_recv hK0 hP hcl (q0 := b) (by rw [wsH_at E h hb.1, hce]), fun U hU hW => ⟨rfl, by rw [hU]; exact hP, hSt.moved hW (fun a h1 h2 => by rw [hU]; exact hS.2.1 a h1 h2)⟩⟩
    rfl hn hl0.1 rfl (lv_room hc) hdg ⟨hc1, hc2⟩) hS (fun H1 locs1 hP1 hS1 => k H1 locs1 ls hP1 hS1 hl0)
theorem g_cS (C : CX E X own cc nL d) {y : MethodName} {cd : ByteArray} {mL d' n idx : Nat} {ty : Option FieldType} {As : List Value} {r : Option Value} (hM : MG l E y cd mL ty d' As h r h1) (hm : MWs y cd mL ty n) (hl : Cond.methodLink own idx y ∈ TB) (hn : As.length = n) (hd : d' + 1 ≤ d)
    (hst : st = As.reverse ++ rest) (hc : (rest.map fun v => v.category).sum ≤ 8) (hdg : decode cc pc = .ok (.invokestatic idx, 3)) {st2 : List Value} (hr : r.toList ++ rest = st2) (k : GG l E X h1 (pc + 3) lv st2) : GG l E X h pc lv st := by
  obtain ⟨p, e, R, s, m, args, below, meth, c, ⟨cells, slots⟩, Q, nL'⟩ := X
  obtain ⟨rfl, hx, hbc, hml, hown, hts, hSt, hc1, hc2, hf, hlo⟩ := C
  obtain ⟨m1, m3, m4, m5, m6, m7⟩ := hm
  subst hst
  subst hr
  intro H locs ls hP hS hl0
  refine g_after (va_runS (As := As) (rest := rest) (cc := cc) (nL := nL') (own := own) (index := idx) (bytes := cd) (maxL := mL) (ret := ty) (n := n) (Ts := TB) ⟨hx, hbc, hml, hown, hts⟩ hM
    ⟨callB_of n hts (good_code m3) rfl rfl rfl (hts _ m4) (hts _ hl) ⟨m5.1, m5.2, m6⟩ ⟨by show d' + 1 ≤ R.frames; omega, by show 8 + (mL + 11) + 40 * d' ≤ R.locals; omega⟩, hts _ m1⟩
    ⟨mg_blind, fun U hU hW => ⟨rfl, by rw [hU]; exact hP, hSt.moved hW (fun a h1 h2 => by rw [hU]; exact hS.2.1 a h1 h2)⟩⟩
    rfl hn hl0.1 rfl (lv_room hc) hdg ⟨hc1, hc2⟩) hS (fun H1 locs1 hP1 hS1 => k H1 locs1 ls hP1 hS1 hl0)
theorem g_cSN (C : CX E X own cc nL d) {y : MethodName} {cd : ByteArray} {mL d' n idx : Nat} {ty : Option FieldType} {As : List Value} {r : Option Value} {host : String} (hM : MG l E y cd mL ty d' As h r h1) (hm : MWs y cd mL ty n) (hl : Cond.methodLinkNest own idx y host ∈ NWL) (hn : As.length = n) (hd : d' + 1 ≤ d)
    (hst : st = As.reverse ++ rest) (hc : (rest.map fun v => v.category).sum ≤ 8) (hdg : decode cc pc = .ok (.invokestatic idx, 3)) {st2 : List Value} (hr : r.toList ++ rest = st2) (k : GG l E X h1 (pc + 3) lv st2) : GG l E X h pc lv st := by
  obtain ⟨p, e, R, s, m, args, below, meth, c, ⟨cells, slots⟩, Q, nL'⟩ := X
  obtain ⟨rfl, hx, hbc, hml, hown, hts, hSt, hc1, hc2, hf, hlo⟩ := C
  obtain ⟨m1, m3, m4, m5, m6, m7⟩ := hm
  subst hst
  subst hr
  intro H locs ls hP hS hl0
  refine g_after (va_runSN (As := As) (rest := rest) (cc := cc) (nL := nL') (own := own) (host := host) (index := idx) (bytes := cd) (maxL := mL) (ret := ty) (n := n) (Ts := TB) ⟨hx, hbc, hml, hown, hts⟩ hM
    ⟨va_cnB n hts (good_code m3) rfl rfl rfl (hSt.2.2.2.2.1 _ hl) (hts _ m4) ⟨m5.1, m5.2, m6⟩ ⟨by show d' + 1 ≤ R.frames; omega, by show 8 + (mL + 11) + 40 * d' ≤ R.locals; omega⟩, hts _ m1, trivial⟩
    ⟨mg_blind, fun U hU hW => ⟨rfl, by rw [hU]; exact hP, hSt.moved hW (fun a h1 h2 => by rw [hU]; exact hS.2.1 a h1 h2)⟩⟩
    rfl hn hl0.1 rfl (lv_room hc) hdg ⟨hc1, hc2⟩) hS (fun H1 locs1 hP1 hS1 => k H1 locs1 ls hP1 hS1 hl0)
end GR

section GQ
variable {l : Launch} {E : Ep} {X : Fx} {own : String} {cc : ByteArray} {nL d : Nat} {h h1 : Hp} {pc : Nat} {lv lv' : List (Nat × Value)} {st rest : List Value} {ρ : Type} {res : ρ}
theorem g_iconst (C : CX E X own cc nL d) {n : Int} {v : Int32} (hdg : decode cc pc = .ok (.iconst n, 1)) (hv : Int32.ofInt n = v) (k : GG l E X h (pc + 1) lv (.int v :: st)) : GG l E X h pc lv (st) := by
  obtain ⟨p, e, R, s, m, args, below, meth, c, ⟨cells, slots⟩, Q, nL'⟩ := X
  obtain ⟨rfl, hx, hbc, hml, hown, hts, hSt, hc1, hc2, hf, hlo⟩ := C
  exact fun H locs ls hP hS hl => lv_iconst hx hbc hdg hv (k H locs ls hP hS hl)
theorem g_bipush (C : CX E X own cc nL d) {n : Int} {v : Int32} (hdg : decode cc pc = .ok (.bipush n, 2)) (hv : (Int8.ofInt n).toInt32 = v) (k : GG l E X h (pc + 2) lv (.int v :: st)) : GG l E X h pc lv (st) := by
  obtain ⟨p, e, R, s, m, args, below, meth, c, ⟨cells, slots⟩, Q, nL'⟩ := X
  obtain ⟨rfl, hx, hbc, hml, hown, hts, hSt, hc1, hc2, hf, hlo⟩ := C
  exact fun H locs ls hP hS hl => lv_bipush hx hbc hdg hv (k H locs ls hP hS hl)
theorem g_sipush (C : CX E X own cc nL d) {n : Int} {v : Int32} (hdg : decode cc pc = .ok (.sipush n, 3)) (hv : (Int16.ofInt n).toInt32 = v) (k : GG l E X h (pc + 3) lv (.int v :: st)) : GG l E X h pc lv (st) := by
  obtain ⟨p, e, R, s, m, args, below, meth, c, ⟨cells, slots⟩, Q, nL'⟩ := X
  obtain ⟨rfl, hx, hbc, hml, hown, hts, hSt, hc1, hc2, hf, hlo⟩ := C
  exact fun H locs ls hP hS hl => lv_sipush hx hbc hdg hv (k H locs ls hP hS hl)
theorem g_lconst (C : CX E X own cc nL d) {n : Fin 2} {v : Int64} (hdg : decode cc pc = .ok (.lconst n, 1)) (hv : Int64.ofNat (n : Nat) = v) (k : GG l E X h (pc + 1) lv (.long v :: st)) : GG l E X h pc lv (st) := by
  obtain ⟨p, e, R, s, m, args, below, meth, c, ⟨cells, slots⟩, Q, nL'⟩ := X
  obtain ⟨rfl, hx, hbc, hml, hown, hts, hSt, hc1, hc2, hf, hlo⟩ := C
  exact fun H locs ls hP hS hl => lv_lconst hx hbc hdg hv (k H locs ls hP hS hl)
theorem g_ldc (C : CX E X own cc nL d) {i : Nat} {v : Int32} (hdg : decode cc pc = .ok (.ldc i, 2)) (hw : Cond.constant own i v ∈ TB) (k : GG l E X h (pc + 2) lv (.int v :: st)) : GG l E X h pc lv (st) := by
  obtain ⟨p, e, R, s, m, args, below, meth, c, ⟨cells, slots⟩, Q, nL'⟩ := X
  obtain ⟨rfl, hx, hbc, hml, hown, hts, hSt, hc1, hc2, hf, hlo⟩ := C
  exact fun H locs ls hP hS hl => lv_ldc hx hbc hown (hts _ hw) hdg (k H locs ls hP hS hl)
theorem g_ldcw (C : CX E X own cc nL d) {i : Nat} {v : Int32} (hdg : decode cc pc = .ok (.ldc_w i, 3)) (hw : Cond.constant own i v ∈ TB) (k : GG l E X h (pc + 3) lv (.int v :: st)) : GG l E X h pc lv (st) := by
  obtain ⟨p, e, R, s, m, args, below, meth, c, ⟨cells, slots⟩, Q, nL'⟩ := X
  obtain ⟨rfl, hx, hbc, hml, hown, hts, hSt, hc1, hc2, hf, hlo⟩ := C
  exact fun H locs ls hP hS hl => lv_ldcw hx hbc hown (hts _ hw) hdg (k H locs ls hP hS hl)
theorem g_ldc2 (C : CX E X own cc nL d) {i : Nat} {v : Int64} (hdg : decode cc pc = .ok (.ldc2_w i, 3)) (hw : Cond.constantLong own i v ∈ TB) (k : GG l E X h (pc + 3) lv (.long v :: st)) : GG l E X h pc lv (st) := by
  obtain ⟨p, e, R, s, m, args, below, meth, c, ⟨cells, slots⟩, Q, nL'⟩ := X
  obtain ⟨rfl, hx, hbc, hml, hown, hts, hSt, hc1, hc2, hf, hlo⟩ := C
  exact fun H locs ls hP hS hl => lv_ldc2 hx hbc hown (hts _ hw) hdg (k H locs ls hP hS hl)
theorem g_iload_n (C : CX E X own cc nL d) {q : Fin 4} {i : Nat} {x : Int32} (j : Nat) (hdg : decode cc pc = .ok (.iload_n q, 1)) (hi : (q : Nat) = i) (hj : lv[j]? = some (i, .int x)) (k : GG l E X h (pc + 1) lv (.int x :: st)) : GG l E X h pc lv (st) := by
  obtain ⟨p, e, R, s, m, args, below, meth, c, ⟨cells, slots⟩, Q, nL'⟩ := X
  obtain ⟨rfl, hx, hbc, hml, hown, hts, hSt, hc1, hc2, hf, hlo⟩ := C
  exact fun H locs ls hP hS hl => lv_iload_n hx hbc hdg hi (lv_at hl j hj) (k H locs ls hP hS hl)
theorem g_iload (C : CX E X own cc nL d) {i : Nat} {x : Int32} (j : Nat) (hdg : decode cc pc = .ok (.iload i, 2)) (hj : lv[j]? = some (i, .int x)) (k : GG l E X h (pc + 2) lv (.int x :: st)) : GG l E X h pc lv (st) := by
  obtain ⟨p, e, R, s, m, args, below, meth, c, ⟨cells, slots⟩, Q, nL'⟩ := X
  obtain ⟨rfl, hx, hbc, hml, hown, hts, hSt, hc1, hc2, hf, hlo⟩ := C
  exact fun H locs ls hP hS hl => lv_iload hx hbc hdg (lv_at hl j hj) (k H locs ls hP hS hl)
theorem g_istore_n (C : CX E X own cc nL d) {q : Fin 4} {i : Nat} {x : Int32} (hdg : decode cc pc = .ok (.istore_n q, 1)) (hi : (q : Nat) = i) (hn : i < nL) (hlv : (i, Value.int x) :: lv.filter (fun q => !(q.1 == i) && !(q.1 + 1 == i && q.2.category == 2)) = lv') (k : GG l E X h (pc + 1) lv' st) : GG l E X h pc lv (.int x :: st) := by
  obtain ⟨p, e, R, s, m, args, below, meth, c, ⟨cells, slots⟩, Q, nL'⟩ := X
  obtain ⟨rfl, hx, hbc, hml, hown, hts, hSt, hc1, hc2, hf, hlo⟩ := C
  exact fun H locs ls hP hS hl => lv_istore_n hx hbc hdg hi hl hn hlv (fun ls' hl' => k H locs ls' hP hS hl')
theorem g_istore (C : CX E X own cc nL d) {i : Nat} {x : Int32} (hdg : decode cc pc = .ok (.istore i, 2)) (hn : i < nL) (hlv : (i, Value.int x) :: lv.filter (fun q => !(q.1 == i) && !(q.1 + 1 == i && q.2.category == 2)) = lv') (k : GG l E X h (pc + 2) lv' st) : GG l E X h pc lv (.int x :: st) := by
  obtain ⟨p, e, R, s, m, args, below, meth, c, ⟨cells, slots⟩, Q, nL'⟩ := X
  obtain ⟨rfl, hx, hbc, hml, hown, hts, hSt, hc1, hc2, hf, hlo⟩ := C
  exact fun H locs ls hP hS hl => lv_istore hx hbc hdg hl hn hlv (fun ls' hl' => k H locs ls' hP hS hl')
theorem g_lload_n (C : CX E X own cc nL d) {q : Fin 4} {i : Nat} {x : Int64} (j : Nat) (hdg : decode cc pc = .ok (.lload_n q, 1)) (hi : (q : Nat) = i) (hj : lv[j]? = some (i, .long x)) (k : GG l E X h (pc + 1) lv (.long x :: st)) : GG l E X h pc lv (st) := by
  obtain ⟨p, e, R, s, m, args, below, meth, c, ⟨cells, slots⟩, Q, nL'⟩ := X
  obtain ⟨rfl, hx, hbc, hml, hown, hts, hSt, hc1, hc2, hf, hlo⟩ := C
  exact fun H locs ls hP hS hl => lv_lload_n hx hbc hdg hi (lv_at hl j hj) (k H locs ls hP hS hl)
theorem g_lload (C : CX E X own cc nL d) {i : Nat} {x : Int64} (j : Nat) (hdg : decode cc pc = .ok (.lload i, 2)) (hj : lv[j]? = some (i, .long x)) (k : GG l E X h (pc + 2) lv (.long x :: st)) : GG l E X h pc lv (st) := by
  obtain ⟨p, e, R, s, m, args, below, meth, c, ⟨cells, slots⟩, Q, nL'⟩ := X
  obtain ⟨rfl, hx, hbc, hml, hown, hts, hSt, hc1, hc2, hf, hlo⟩ := C
  exact fun H locs ls hP hS hl => lv_lload hx hbc hdg (lv_at hl j hj) (k H locs ls hP hS hl)
theorem g_lstore_n (C : CX E X own cc nL d) {q : Fin 4} {i : Nat} {x : Int64} (hdg : decode cc pc = .ok (.lstore_n q, 1)) (hi : (q : Nat) = i) (hn : i + 1 < nL) (hlv : (i, Value.long x) :: lv.filter (fun q => !(q.1 == i) && (!(q.1 == i + 1) && !(q.1 + 1 == i && q.2.category == 2))) = lv') (k : GG l E X h (pc + 1) lv' st) : GG l E X h pc lv (.long x :: st) := by
  obtain ⟨p, e, R, s, m, args, below, meth, c, ⟨cells, slots⟩, Q, nL'⟩ := X
  obtain ⟨rfl, hx, hbc, hml, hown, hts, hSt, hc1, hc2, hf, hlo⟩ := C
  exact fun H locs ls hP hS hl => lv_lstore_n hx hbc hdg hi hl hn hlv (fun ls' hl' => k H locs ls' hP hS hl')
theorem g_lstore (C : CX E X own cc nL d) {i : Nat} {x : Int64} (hdg : decode cc pc = .ok (.lstore i, 2)) (hn : i + 1 < nL) (hlv : (i, Value.long x) :: lv.filter (fun q => !(q.1 == i) && (!(q.1 == i + 1) && !(q.1 + 1 == i && q.2.category == 2))) = lv') (k : GG l E X h (pc + 2) lv' st) : GG l E X h pc lv (.long x :: st) := by
  obtain ⟨p, e, R, s, m, args, below, meth, c, ⟨cells, slots⟩, Q, nL'⟩ := X
  obtain ⟨rfl, hx, hbc, hml, hown, hts, hSt, hc1, hc2, hf, hlo⟩ := C
  exact fun H locs ls hP hS hl => lv_lstore hx hbc hdg hl hn hlv (fun ls' hl' => k H locs ls' hP hS hl')
theorem g_aload_n (C : CX E X own cc nL d) {q : Fin 4} {i : Nat} {x : Nat} (j : Nat) (hdg : decode cc pc = .ok (.aload_n q, 1)) (hi : (q : Nat) = i) (hj : lv[j]? = some (i, .ref x)) (k : GG l E X h (pc + 1) lv (.ref x :: st)) : GG l E X h pc lv (st) := by
  obtain ⟨p, e, R, s, m, args, below, meth, c, ⟨cells, slots⟩, Q, nL'⟩ := X
  obtain ⟨rfl, hx, hbc, hml, hown, hts, hSt, hc1, hc2, hf, hlo⟩ := C
  exact fun H locs ls hP hS hl => lv_aload_n hx hbc hdg hi (lv_at hl j hj) (k H locs ls hP hS hl)
theorem g_aload (C : CX E X own cc nL d) {i : Nat} {x : Nat} (j : Nat) (hdg : decode cc pc = .ok (.aload i, 2)) (hj : lv[j]? = some (i, .ref x)) (k : GG l E X h (pc + 2) lv (.ref x :: st)) : GG l E X h pc lv (st) := by
  obtain ⟨p, e, R, s, m, args, below, meth, c, ⟨cells, slots⟩, Q, nL'⟩ := X
  obtain ⟨rfl, hx, hbc, hml, hown, hts, hSt, hc1, hc2, hf, hlo⟩ := C
  exact fun H locs ls hP hS hl => lv_aload hx hbc hdg (lv_at hl j hj) (k H locs ls hP hS hl)
theorem g_astore_n (C : CX E X own cc nL d) {q : Fin 4} {i : Nat} {x : Nat} (hdg : decode cc pc = .ok (.astore_n q, 1)) (hi : (q : Nat) = i) (hn : i < nL) (hlv : (i, Value.ref x) :: lv.filter (fun q => !(q.1 == i) && !(q.1 + 1 == i && q.2.category == 2)) = lv') (k : GG l E X h (pc + 1) lv' st) : GG l E X h pc lv (.ref x :: st) := by
  obtain ⟨p, e, R, s, m, args, below, meth, c, ⟨cells, slots⟩, Q, nL'⟩ := X
  obtain ⟨rfl, hx, hbc, hml, hown, hts, hSt, hc1, hc2, hf, hlo⟩ := C
  exact fun H locs ls hP hS hl => lv_astore_n hx hbc hdg hi hl hn hlv (fun ls' hl' => k H locs ls' hP hS hl')
theorem g_astore (C : CX E X own cc nL d) {i : Nat} {x : Nat} (hdg : decode cc pc = .ok (.astore i, 2)) (hn : i < nL) (hlv : (i, Value.ref x) :: lv.filter (fun q => !(q.1 == i) && !(q.1 + 1 == i && q.2.category == 2)) = lv') (k : GG l E X h (pc + 2) lv' st) : GG l E X h pc lv (.ref x :: st) := by
  obtain ⟨p, e, R, s, m, args, below, meth, c, ⟨cells, slots⟩, Q, nL'⟩ := X
  obtain ⟨rfl, hx, hbc, hml, hown, hts, hSt, hc1, hc2, hf, hlo⟩ := C
  exact fun H locs ls hP hS hl => lv_astore hx hbc hdg hl hn hlv (fun ls' hl' => k H locs ls' hP hS hl')
theorem g_iinc (C : CX E X own cc nL d) {i j : Nat} {n : Int} {x v : Int32} (hdg : decode cc pc = .ok (.iinc i n, 3)) (hk : lv[j]? = some (i, .int x)) (hv : x + Int32.ofInt n = v) (hn : i < nL) (hlv : (i, Value.int v) :: lv.filter (fun q => !(q.1 == i) && !(q.1 + 1 == i && q.2.category == 2)) = lv') (k : GG l E X h (pc + 3) lv' st) : GG l E X h pc lv st := by
  obtain ⟨p, e, R, s, m, args, below, meth, c, ⟨cells, slots⟩, Q, nL'⟩ := X
  obtain ⟨rfl, hx, hbc, hml, hown, hts, hSt, hc1, hc2, hf, hlo⟩ := C
  exact fun H locs ls hP hS hl => lv_iinc hx hbc hdg hl (k := j) hk hv hn hlv (fun ls' hl' => k H locs ls' hP hS hl')
theorem g_iadd (C : CX E X own cc nL d) {x y : Int32} (hdg : decode cc pc = .ok (.iadd, 1)) (k : GG l E X h (pc + 1) lv (.int (x + y) :: st)) : GG l E X h pc lv (.int y :: .int x :: st) := by
  obtain ⟨p, e, R, s, m, args, below, meth, c, ⟨cells, slots⟩, Q, nL'⟩ := X
  obtain ⟨rfl, hx, hbc, hml, hown, hts, hSt, hc1, hc2, hf, hlo⟩ := C
  exact fun H locs ls hP hS hl => lv_iadd hx hbc hdg (k H locs ls hP hS hl)
theorem g_isub (C : CX E X own cc nL d) {x y : Int32} (hdg : decode cc pc = .ok (.isub, 1)) (k : GG l E X h (pc + 1) lv (.int (x - y) :: st)) : GG l E X h pc lv (.int y :: .int x :: st) := by
  obtain ⟨p, e, R, s, m, args, below, meth, c, ⟨cells, slots⟩, Q, nL'⟩ := X
  obtain ⟨rfl, hx, hbc, hml, hown, hts, hSt, hc1, hc2, hf, hlo⟩ := C
  exact fun H locs ls hP hS hl => lv_isub hx hbc hdg (k H locs ls hP hS hl)
theorem g_imul (C : CX E X own cc nL d) {x y : Int32} (hdg : decode cc pc = .ok (.imul, 1)) (k : GG l E X h (pc + 1) lv (.int (x * y) :: st)) : GG l E X h pc lv (.int y :: .int x :: st) := by
  obtain ⟨p, e, R, s, m, args, below, meth, c, ⟨cells, slots⟩, Q, nL'⟩ := X
  obtain ⟨rfl, hx, hbc, hml, hown, hts, hSt, hc1, hc2, hf, hlo⟩ := C
  exact fun H locs ls hP hS hl => lv_imul hx hbc hdg (k H locs ls hP hS hl)
theorem g_iand (C : CX E X own cc nL d) {x y : Int32} (hdg : decode cc pc = .ok (.iand, 1)) (k : GG l E X h (pc + 1) lv (.int (x &&& y) :: st)) : GG l E X h pc lv (.int y :: .int x :: st) := by
  obtain ⟨p, e, R, s, m, args, below, meth, c, ⟨cells, slots⟩, Q, nL'⟩ := X
  obtain ⟨rfl, hx, hbc, hml, hown, hts, hSt, hc1, hc2, hf, hlo⟩ := C
  exact fun H locs ls hP hS hl => lv_iand hx hbc hdg (k H locs ls hP hS hl)
theorem g_ior (C : CX E X own cc nL d) {x y : Int32} (hdg : decode cc pc = .ok (.ior, 1)) (k : GG l E X h (pc + 1) lv (.int (x ||| y) :: st)) : GG l E X h pc lv (.int y :: .int x :: st) := by
  obtain ⟨p, e, R, s, m, args, below, meth, c, ⟨cells, slots⟩, Q, nL'⟩ := X
  obtain ⟨rfl, hx, hbc, hml, hown, hts, hSt, hc1, hc2, hf, hlo⟩ := C
  exact fun H locs ls hP hS hl => lv_ior hx hbc hdg (k H locs ls hP hS hl)
theorem g_ishl (C : CX E X own cc nL d) {x y : Int32} (hdg : decode cc pc = .ok (.ishl, 1)) (k : GG l E X h (pc + 1) lv (.int (x <<< (y &&& 31)) :: st)) : GG l E X h pc lv (.int y :: .int x :: st) := by
  obtain ⟨p, e, R, s, m, args, below, meth, c, ⟨cells, slots⟩, Q, nL'⟩ := X
  obtain ⟨rfl, hx, hbc, hml, hown, hts, hSt, hc1, hc2, hf, hlo⟩ := C
  exact fun H locs ls hP hS hl => lv_ishl hx hbc hdg (k H locs ls hP hS hl)
theorem g_ishr (C : CX E X own cc nL d) {x y : Int32} (hdg : decode cc pc = .ok (.ishr, 1)) (k : GG l E X h (pc + 1) lv (.int (x >>> (y &&& 31)) :: st)) : GG l E X h pc lv (.int y :: .int x :: st) := by
  obtain ⟨p, e, R, s, m, args, below, meth, c, ⟨cells, slots⟩, Q, nL'⟩ := X
  obtain ⟨rfl, hx, hbc, hml, hown, hts, hSt, hc1, hc2, hf, hlo⟩ := C
  exact fun H locs ls hP hS hl => lv_ishr hx hbc hdg (k H locs ls hP hS hl)
theorem g_ineg (C : CX E X own cc nL d) {x : Int32} (hdg : decode cc pc = .ok (.ineg, 1)) (k : GG l E X h (pc + 1) lv (.int (-x) :: st)) : GG l E X h pc lv (.int x :: st) := by
  obtain ⟨p, e, R, s, m, args, below, meth, c, ⟨cells, slots⟩, Q, nL'⟩ := X
  obtain ⟨rfl, hx, hbc, hml, hown, hts, hSt, hc1, hc2, hf, hlo⟩ := C
  exact fun H locs ls hP hS hl => lv_ineg hx hbc hdg (k H locs ls hP hS hl)
theorem g_land (C : CX E X own cc nL d) {x y : Int64} (hdg : decode cc pc = .ok (.land, 1)) (k : GG l E X h (pc + 1) lv (.long (x &&& y) :: st)) : GG l E X h pc lv (.long y :: .long x :: st) := by
  obtain ⟨p, e, R, s, m, args, below, meth, c, ⟨cells, slots⟩, Q, nL'⟩ := X
  obtain ⟨rfl, hx, hbc, hml, hown, hts, hSt, hc1, hc2, hf, hlo⟩ := C
  exact fun H locs ls hP hS hl => lv_land hx hbc hdg (k H locs ls hP hS hl)
theorem g_lor (C : CX E X own cc nL d) {x y : Int64} (hdg : decode cc pc = .ok (.lor, 1)) (k : GG l E X h (pc + 1) lv (.long (x ||| y) :: st)) : GG l E X h pc lv (.long y :: .long x :: st) := by
  obtain ⟨p, e, R, s, m, args, below, meth, c, ⟨cells, slots⟩, Q, nL'⟩ := X
  obtain ⟨rfl, hx, hbc, hml, hown, hts, hSt, hc1, hc2, hf, hlo⟩ := C
  exact fun H locs ls hP hS hl => lv_lor hx hbc hdg (k H locs ls hP hS hl)
theorem g_lshl (C : CX E X own cc nL d) {x : Int64} {y : Int32} (hdg : decode cc pc = .ok (.lshl, 1)) (k : GG l E X h (pc + 1) lv (.long (x <<< (y.toInt64 &&& 63)) :: st)) : GG l E X h pc lv (.int y :: .long x :: st) := by
  obtain ⟨p, e, R, s, m, args, below, meth, c, ⟨cells, slots⟩, Q, nL'⟩ := X
  obtain ⟨rfl, hx, hbc, hml, hown, hts, hSt, hc1, hc2, hf, hlo⟩ := C
  exact fun H locs ls hP hS hl => lv_lshl hx hbc hdg rfl (k H locs ls hP hS hl)
theorem g_i2l (C : CX E X own cc nL d) {x : Int32} (hdg : decode cc pc = .ok (.i2l, 1)) (k : GG l E X h (pc + 1) lv (.long x.toInt64 :: st)) : GG l E X h pc lv (.int x :: st) := by
  obtain ⟨p, e, R, s, m, args, below, meth, c, ⟨cells, slots⟩, Q, nL'⟩ := X
  obtain ⟨rfl, hx, hbc, hml, hown, hts, hSt, hc1, hc2, hf, hlo⟩ := C
  exact fun H locs ls hP hS hl => lv_i2l hx hbc hdg rfl (k H locs ls hP hS hl)
theorem g_lcmp (C : CX E X own cc nL d) {x y : Int64} (hdg : decode cc pc = .ok (.lcmp, 1)) (k : GG l E X h (pc + 1) lv (.int (lg_cmp x y) :: st)) : GG l E X h pc lv (.long y :: .long x :: st) := by
  obtain ⟨p, e, R, s, m, args, below, meth, c, ⟨cells, slots⟩, Q, nL'⟩ := X
  obtain ⟨rfl, hx, hbc, hml, hown, hts, hSt, hc1, hc2, hf, hlo⟩ := C
  exact fun H locs ls hP hS hl => W.lcmp hx hbc hdg (k H locs ls hP hS hl)
theorem g_idivC (C : CX E X own cc nL d) {x y : Int32} (hdg : decode cc pc = .ok (.idiv, 1)) (hne : ¬ y = 0) (k : GG l E X h (pc + 1) lv (.int (x / y) :: st)) : GG l E X h pc lv (.int y :: .int x :: st) := by
  obtain ⟨p, e, R, s, m, args, below, meth, c, ⟨cells, slots⟩, Q, nL'⟩ := X
  obtain ⟨rfl, hx, hbc, hml, hown, hts, hSt, hc1, hc2, hf, hlo⟩ := C
  exact fun H locs ls hP hS hl => lv_idiv hx hbc hdg hne (k H locs ls hP hS hl)
theorem g_iremC (C : CX E X own cc nL d) {x y : Int32} (hdg : decode cc pc = .ok (.irem, 1)) (hne : ¬ y = 0) (k : GG l E X h (pc + 1) lv (.int (x - x / y * y) :: st)) : GG l E X h pc lv (.int y :: .int x :: st) := by
  obtain ⟨p, e, R, s, m, args, below, meth, c, ⟨cells, slots⟩, Q, nL'⟩ := X
  obtain ⟨rfl, hx, hbc, hml, hown, hts, hSt, hc1, hc2, hf, hlo⟩ := C
  exact fun H locs ls hP hS hl => lv_irem hx hbc hdg hne (k H locs ls hP hS hl)
theorem g_dup (C : CX E X own cc nL d) {v : Value} (hdg : decode cc pc = .ok (.dup, 1)) (hc : v.category = 1) (k : GG l E X h (pc + 1) lv (v :: v :: st)) : GG l E X h pc lv (v :: st) := by
  obtain ⟨p, e, R, s, m, args, below, meth, c, ⟨cells, slots⟩, Q, nL'⟩ := X
  obtain ⟨rfl, hx, hbc, hml, hown, hts, hSt, hc1, hc2, hf, hlo⟩ := C
  exact fun H locs ls hP hS hl => lv_dup hx hbc hdg hc (k H locs ls hP hS hl)
theorem g_pop (C : CX E X own cc nL d) {v : Value} (hdg : decode cc pc = .ok (.pop, 1)) (hc : v.category = 1) (k : GG l E X h (pc + 1) lv (st)) : GG l E X h pc lv (v :: st) := by
  obtain ⟨p, e, R, s, m, args, below, meth, c, ⟨cells, slots⟩, Q, nL'⟩ := X
  obtain ⟨rfl, hx, hbc, hml, hown, hts, hSt, hc1, hc2, hf, hlo⟩ := C
  exact fun H locs ls hP hS hl => lv_pop hx hbc hdg hc (k H locs ls hP hS hl)
theorem g_dup2 (C : CX E X own cc nL d) {v w : Value} (hdg : decode cc pc = .ok (.dup2, 1)) (hc : v.category = 1) (hcw : w.category = 1) (k : GG l E X h (pc + 1) lv (v :: w :: v :: w :: st)) : GG l E X h pc lv (v :: w :: st) := by
  obtain ⟨p, e, R, s, m, args, below, meth, c, ⟨cells, slots⟩, Q, nL'⟩ := X
  obtain ⟨rfl, hx, hbc, hml, hown, hts, hSt, hc1, hc2, hf, hlo⟩ := C
  exact fun H locs ls hP hS hl => lv_dup2_11 hx hbc hdg hc hcw (k H locs ls hP hS hl)
theorem g_goto (C : CX E X own cc nL d) {off : Int} {tgt : Nat} (hdg : decode cc pc = .ok (.goto off, 3)) (ht : (pc : Int) + off = (tgt : Int)) (k : GG l E X h tgt lv st) : GG l E X h pc lv st := by
  obtain ⟨p, e, R, s, m, args, below, meth, c, ⟨cells, slots⟩, Q, nL'⟩ := X
  obtain ⟨rfl, hx, hbc, hml, hown, hts, hSt, hc1, hc2, hf, hlo⟩ := C
  exact fun H locs ls hP hS hl => lv_goto hx hbc hdg ht (k H locs ls hP hS hl)
theorem g_idiv (C : CX E X own cc nL d) {x y : Int32} {K : Int32 → Option ρ} (hdg : decode cc pc = .ok (.idiv, 1)) (hs : Option.bind (dvI x y) K = some res) (k : ∀ v, K v = some res → GG l E X h (pc + 1) lv (.int v :: st)) : GG l E X h pc lv (.int y :: .int x :: st) := by
  obtain ⟨v, hv, hk⟩ := bnd hs
  have k := k v hk
  obtain ⟨p, e, R, s, m, args, below, meth, c, ⟨cells, slots⟩, Q, nL'⟩ := X
  obtain ⟨rfl, hx, hbc, hml, hown, hts, hSt, hc1, hc2, hf, hlo⟩ := C
  unfold dvI at hv
  by_cases h0 : y = 0
  · rw [if_pos h0] at hv; cases hv
  · rw [if_neg h0] at hv; cases hv
    exact fun H locs ls hP hS hl => lv_idiv hx hbc hdg h0 (k H locs ls hP hS hl)
theorem g_irem (C : CX E X own cc nL d) {x y : Int32} {K : Int32 → Option ρ} (hdg : decode cc pc = .ok (.irem, 1)) (hs : Option.bind (rmI x y) K = some res) (k : ∀ v, K v = some res → GG l E X h (pc + 1) lv (.int v :: st)) : GG l E X h pc lv (.int y :: .int x :: st) := by
  obtain ⟨v, hv, hk⟩ := bnd hs
  have k := k v hk
  obtain ⟨p, e, R, s, m, args, below, meth, c, ⟨cells, slots⟩, Q, nL'⟩ := X
  obtain ⟨rfl, hx, hbc, hml, hown, hts, hSt, hc1, hc2, hf, hlo⟩ := C
  unfold rmI at hv
  by_cases h0 : y = 0
  · rw [if_pos h0] at hv; cases hv
  · rw [if_neg h0] at hv; cases hv
    exact fun H locs ls hP hS hl => lv_irem hx hbc hdg h0 (k H locs ls hP hS hl)
theorem g_if_eq (C : CX E X own cc nL d) {x : Int32} {off : Int} {tgt : Nat} {A B : Option ρ} [di : Decidable (x = 0)] (hdg : decode cc pc = .ok (.ifCond .eq off, 3)) (ht : (pc : Int) + off = (tgt : Int)) (hs : (if x = 0 then A else B) = some res) (kt : A = some res → GG l E X h tgt lv st) (kf : B = some res → GG l E X h (pc + 3) lv st) : GG l E X h pc lv (.int x :: st) := by
  obtain ⟨p, e, R, s, m, args, below, meth, c, ⟨cells, slots⟩, Q, nL'⟩ := X
  obtain ⟨rfl, hx, hbc, hml, hown, hts, hSt, hc1, hc2, hf, hlo⟩ := C
  exact fun H locs ls hP hS hl => lv_if_eq hx hbc hdg ht (fun q => kt (by rw [if_pos q] at hs; exact hs) H locs ls hP hS hl) (fun q => kf (by rw [if_neg q] at hs; exact hs) H locs ls hP hS hl)
theorem g_if_ne (C : CX E X own cc nL d) {x : Int32} {off : Int} {tgt : Nat} {A B : Option ρ} [di : Decidable (x = 0)] (hdg : decode cc pc = .ok (.ifCond .ne off, 3)) (ht : (pc : Int) + off = (tgt : Int)) (hs : (if x = 0 then A else B) = some res) (kt : A = some res → GG l E X h (pc + 3) lv st) (kf : B = some res → GG l E X h tgt lv st) : GG l E X h pc lv (.int x :: st) := by
  obtain ⟨p, e, R, s, m, args, below, meth, c, ⟨cells, slots⟩, Q, nL'⟩ := X
  obtain ⟨rfl, hx, hbc, hml, hown, hts, hSt, hc1, hc2, hf, hlo⟩ := C
  exact fun H locs ls hP hS hl => lv_if_ne hx hbc hdg ht (fun q => kf (by rw [if_neg q] at hs; exact hs) H locs ls hP hS hl) (fun q => kt (by rw [if_pos q] at hs; exact hs) H locs ls hP hS hl)
theorem g_if_lt (C : CX E X own cc nL d) {x : Int32} {off : Int} {tgt : Nat} {A B : Option ρ} [di : Decidable (x < 0)] (hdg : decode cc pc = .ok (.ifCond .lt off, 3)) (ht : (pc : Int) + off = (tgt : Int)) (hs : (if x < 0 then A else B) = some res) (kt : A = some res → GG l E X h tgt lv st) (kf : B = some res → GG l E X h (pc + 3) lv st) : GG l E X h pc lv (.int x :: st) := by
  obtain ⟨p, e, R, s, m, args, below, meth, c, ⟨cells, slots⟩, Q, nL'⟩ := X
  obtain ⟨rfl, hx, hbc, hml, hown, hts, hSt, hc1, hc2, hf, hlo⟩ := C
  exact fun H locs ls hP hS hl => lv_if_lt hx hbc hdg ht (fun q => kt (by rw [if_pos q] at hs; exact hs) H locs ls hP hS hl) (fun q => kf (by rw [if_neg q] at hs; exact hs) H locs ls hP hS hl)
theorem g_if_ge (C : CX E X own cc nL d) {x : Int32} {off : Int} {tgt : Nat} {A B : Option ρ} [di : Decidable (0 ≤ x)] (hdg : decode cc pc = .ok (.ifCond .ge off, 3)) (ht : (pc : Int) + off = (tgt : Int)) (hs : (if 0 ≤ x then A else B) = some res) (kt : A = some res → GG l E X h tgt lv st) (kf : B = some res → GG l E X h (pc + 3) lv st) : GG l E X h pc lv (.int x :: st) := by
  obtain ⟨p, e, R, s, m, args, below, meth, c, ⟨cells, slots⟩, Q, nL'⟩ := X
  obtain ⟨rfl, hx, hbc, hml, hown, hts, hSt, hc1, hc2, hf, hlo⟩ := C
  exact fun H locs ls hP hS hl => lv_if_ge hx hbc hdg ht (fun q => kt (by rw [if_pos q] at hs; exact hs) H locs ls hP hS hl) (fun q => kf (by rw [if_neg q] at hs; exact hs) H locs ls hP hS hl)
theorem g_if_gt (C : CX E X own cc nL d) {x : Int32} {off : Int} {tgt : Nat} {A B : Option ρ} [di : Decidable (0 < x)] (hdg : decode cc pc = .ok (.ifCond .gt off, 3)) (ht : (pc : Int) + off = (tgt : Int)) (hs : (if 0 < x then A else B) = some res) (kt : A = some res → GG l E X h tgt lv st) (kf : B = some res → GG l E X h (pc + 3) lv st) : GG l E X h pc lv (.int x :: st) := by
  obtain ⟨p, e, R, s, m, args, below, meth, c, ⟨cells, slots⟩, Q, nL'⟩ := X
  obtain ⟨rfl, hx, hbc, hml, hown, hts, hSt, hc1, hc2, hf, hlo⟩ := C
  exact fun H locs ls hP hS hl => lv_if_gt hx hbc hdg ht (fun q => kt (by rw [if_pos q] at hs; exact hs) H locs ls hP hS hl) (fun q => kf (by rw [if_neg q] at hs; exact hs) H locs ls hP hS hl)
theorem g_if_le (C : CX E X own cc nL d) {x : Int32} {off : Int} {tgt : Nat} {A B : Option ρ} [di : Decidable (x ≤ 0)] (hdg : decode cc pc = .ok (.ifCond .le off, 3)) (ht : (pc : Int) + off = (tgt : Int)) (hs : (if x ≤ 0 then A else B) = some res) (kt : A = some res → GG l E X h tgt lv st) (kf : B = some res → GG l E X h (pc + 3) lv st) : GG l E X h pc lv (.int x :: st) := by
  obtain ⟨p, e, R, s, m, args, below, meth, c, ⟨cells, slots⟩, Q, nL'⟩ := X
  obtain ⟨rfl, hx, hbc, hml, hown, hts, hSt, hc1, hc2, hf, hlo⟩ := C
  exact fun H locs ls hP hS hl => lv_if_le hx hbc hdg ht (fun q => kt (by rw [if_pos q] at hs; exact hs) H locs ls hP hS hl) (fun q => kf (by rw [if_neg q] at hs; exact hs) H locs ls hP hS hl)
theorem g_icmp_eq (C : CX E X own cc nL d) {x y : Int32} {off : Int} {tgt : Nat} {A B : Option ρ} [di : Decidable (x = y)] (hdg : decode cc pc = .ok (.if_icmp .eq off, 3)) (ht : (pc : Int) + off = (tgt : Int)) (hs : (if x = y then A else B) = some res) (kt : A = some res → GG l E X h tgt lv st) (kf : B = some res → GG l E X h (pc + 3) lv st) : GG l E X h pc lv (.int y :: .int x :: st) := by
  obtain ⟨p, e, R, s, m, args, below, meth, c, ⟨cells, slots⟩, Q, nL'⟩ := X
  obtain ⟨rfl, hx, hbc, hml, hown, hts, hSt, hc1, hc2, hf, hlo⟩ := C
  exact fun H locs ls hP hS hl => lv_icmp_eq hx hbc hdg ht (fun q => kt (by rw [if_pos q] at hs; exact hs) H locs ls hP hS hl) (fun q => kf (by rw [if_neg q] at hs; exact hs) H locs ls hP hS hl)
theorem g_icmp_ne (C : CX E X own cc nL d) {x y : Int32} {off : Int} {tgt : Nat} {A B : Option ρ} [di : Decidable (x = y)] (hdg : decode cc pc = .ok (.if_icmp .ne off, 3)) (ht : (pc : Int) + off = (tgt : Int)) (hs : (if x = y then A else B) = some res) (kt : A = some res → GG l E X h (pc + 3) lv st) (kf : B = some res → GG l E X h tgt lv st) : GG l E X h pc lv (.int y :: .int x :: st) := by
  obtain ⟨p, e, R, s, m, args, below, meth, c, ⟨cells, slots⟩, Q, nL'⟩ := X
  obtain ⟨rfl, hx, hbc, hml, hown, hts, hSt, hc1, hc2, hf, hlo⟩ := C
  exact fun H locs ls hP hS hl => lv_icmp_ne hx hbc hdg ht (fun q => kf (by rw [if_neg q] at hs; exact hs) H locs ls hP hS hl) (fun q => kt (by rw [if_pos q] at hs; exact hs) H locs ls hP hS hl)
theorem g_icmp_lt (C : CX E X own cc nL d) {x y : Int32} {off : Int} {tgt : Nat} {A B : Option ρ} [di : Decidable (x < y)] (hdg : decode cc pc = .ok (.if_icmp .lt off, 3)) (ht : (pc : Int) + off = (tgt : Int)) (hs : (if x < y then A else B) = some res) (kt : A = some res → GG l E X h tgt lv st) (kf : B = some res → GG l E X h (pc + 3) lv st) : GG l E X h pc lv (.int y :: .int x :: st) := by
  obtain ⟨p, e, R, s, m, args, below, meth, c, ⟨cells, slots⟩, Q, nL'⟩ := X
  obtain ⟨rfl, hx, hbc, hml, hown, hts, hSt, hc1, hc2, hf, hlo⟩ := C
  exact fun H locs ls hP hS hl => lv_icmp_lt hx hbc hdg ht (fun q => kt (by rw [if_pos q] at hs; exact hs) H locs ls hP hS hl) (fun q => kf (by rw [if_neg q] at hs; exact hs) H locs ls hP hS hl)
theorem g_icmp_ge (C : CX E X own cc nL d) {x y : Int32} {off : Int} {tgt : Nat} {A B : Option ρ} [di : Decidable (y ≤ x)] (hdg : decode cc pc = .ok (.if_icmp .ge off, 3)) (ht : (pc : Int) + off = (tgt : Int)) (hs : (if y ≤ x then A else B) = some res) (kt : A = some res → GG l E X h tgt lv st) (kf : B = some res → GG l E X h (pc + 3) lv st) : GG l E X h pc lv (.int y :: .int x :: st) := by
  obtain ⟨p, e, R, s, m, args, below, meth, c, ⟨cells, slots⟩, Q, nL'⟩ := X
  obtain ⟨rfl, hx, hbc, hml, hown, hts, hSt, hc1, hc2, hf, hlo⟩ := C
  exact fun H locs ls hP hS hl => lv_icmp_ge hx hbc hdg ht (fun q => kt (by rw [if_pos q] at hs; exact hs) H locs ls hP hS hl) (fun q => kf (by rw [if_neg q] at hs; exact hs) H locs ls hP hS hl)
theorem g_icmp_gt (C : CX E X own cc nL d) {x y : Int32} {off : Int} {tgt : Nat} {A B : Option ρ} [di : Decidable (y < x)] (hdg : decode cc pc = .ok (.if_icmp .gt off, 3)) (ht : (pc : Int) + off = (tgt : Int)) (hs : (if y < x then A else B) = some res) (kt : A = some res → GG l E X h tgt lv st) (kf : B = some res → GG l E X h (pc + 3) lv st) : GG l E X h pc lv (.int y :: .int x :: st) := by
  obtain ⟨p, e, R, s, m, args, below, meth, c, ⟨cells, slots⟩, Q, nL'⟩ := X
  obtain ⟨rfl, hx, hbc, hml, hown, hts, hSt, hc1, hc2, hf, hlo⟩ := C
  exact fun H locs ls hP hS hl => lv_icmp_gt hx hbc hdg ht (fun q => kt (by rw [if_pos q] at hs; exact hs) H locs ls hP hS hl) (fun q => kf (by rw [if_neg q] at hs; exact hs) H locs ls hP hS hl)
theorem g_icmp_le (C : CX E X own cc nL d) {x y : Int32} {off : Int} {tgt : Nat} {A B : Option ρ} [di : Decidable (x ≤ y)] (hdg : decode cc pc = .ok (.if_icmp .le off, 3)) (ht : (pc : Int) + off = (tgt : Int)) (hs : (if x ≤ y then A else B) = some res) (kt : A = some res → GG l E X h tgt lv st) (kf : B = some res → GG l E X h (pc + 3) lv st) : GG l E X h pc lv (.int y :: .int x :: st) := by
  obtain ⟨p, e, R, s, m, args, below, meth, c, ⟨cells, slots⟩, Q, nL'⟩ := X
  obtain ⟨rfl, hx, hbc, hml, hown, hts, hSt, hc1, hc2, hf, hlo⟩ := C
  exact fun H locs ls hP hS hl => lv_icmp_le hx hbc hdg ht (fun q => kt (by rw [if_pos q] at hs; exact hs) H locs ls hP hS hl) (fun q => kf (by rw [if_neg q] at hs; exact hs) H locs ls hP hS hl)
theorem g_case {G : Prop} {P : Prop} [di : Decidable P] {A B : Option ρ} (hs : (if P then A else B) = some res) (kt : P → A = some res → G) (kf : ¬ P → B = some res → G) : G := by
  by_cases q : P
  · rw [if_pos q] at hs; exact kt q hs
  · rw [if_neg q] at hs; exact kf q hs
theorem ne_tz {x c : Int32} {z : Int} (hz : c.toInt = z) (h : ¬ x = c) : ¬ x.toInt = z := fun e => h (Int32.toInt_inj.mp (e.trans hz.symm))
theorem g_tabIn (C : CX E X own cc nL d) {dflt lo hi : Int} {offs : Array Int} {ln : Nat} {x v : Int32} {off : Int} {tgt : Nat} (hdg : decode cc pc = .ok (.tableswitch dflt lo hi offs, ln)) (hv : x = v) (h1 : ¬ v.toInt < lo) (h2 : ¬ hi < v.toInt) (ho : offs[(v.toInt - lo).toNat]? = some off) (ht : (pc : Int) + off = (tgt : Int)) (k : GG l E X h tgt lv st) : GG l E X h pc lv (.int x :: st) := by
  obtain ⟨p, e, R, s, m, args, below, meth, c, ⟨cells, slots⟩, Q, nL'⟩ := X
  obtain ⟨rfl, hx, hbc, hml, hown, hts, hSt, hc1, hc2, hf, hlo⟩ := C
  subst hv
  exact fun H locs ls hP hS hl => lv_tableIn hx hbc hdg h1 h2 ho ht (k H locs ls hP hS hl)
theorem g_tabOut (C : CX E X own cc nL d) {dflt lo hi : Int} {offs : Array Int} {ln : Nat} {x : Int32} {tgt : Nat} (hdg : decode cc pc = .ok (.tableswitch dflt lo hi offs, ln)) (hv : x.toInt < lo ∨ hi < x.toInt) (ht : (pc : Int) + dflt = (tgt : Int)) (k : GG l E X h tgt lv st) : GG l E X h pc lv (.int x :: st) := by
  obtain ⟨p, e, R, s, m, args, below, meth, c, ⟨cells, slots⟩, Q, nL'⟩ := X
  obtain ⟨rfl, hx, hbc, hml, hown, hts, hSt, hc1, hc2, hf, hlo⟩ := C
  exact fun H locs ls hP hS hl => lv_tableOut hx hbc hdg hv ht (k H locs ls hP hS hl)
theorem g_iald (C : CX E X own cc nL d) {a : Nat} {i : Int32} {K : Int32 → Option ρ} (ha : OKr a 6) (hdg : decode cc pc = .ok (.iaload, 1)) (hs : Option.bind (ldI h a i) K = some res) (k : ∀ v, K v = some res → GG l E X h (pc + 1) lv (.int v :: st)) : GG l E X h pc lv (.int i :: .ref (ad E a) :: st) := by
  obtain ⟨v, hv, hk⟩ := bnd hs
  have k := k v hk
  obtain ⟨p, e, R, s, m, args, below, meth, c, ⟨cells, slots⟩, Q, nL'⟩ := X
  obtain ⟨rfl, hx, hbc, hml, hown, hts, hSt, hc1, hc2, hf, hlo⟩ := C
  unfold ldI at hv
  by_cases h0 : i < 0 ∨ len a ≤ i.toNatClampNeg
  · rw [if_pos h0] at hv; cases hv
  · rw [if_neg h0] at hv; cases hv
    exact fun H locs ls hP hS hl => va_iald hx hbc (hSt.2.1 a ha.1 ha.2) hP a 0 (by rw [wsH_at E h ha.1, ce6 E h ha.2]) rfl h0 hdg (k H locs ls hP hS hl)
theorem g_lald (C : CX E X own cc nL d) {a : Nat} {i : Int32} {K : Int64 → Option ρ} (ha : OKr a 7) (hdg : decode cc pc = .ok (.laload, 1)) (hs : Option.bind (ldJ h a i) K = some res) (k : ∀ v, K v = some res → GG l E X h (pc + 1) lv (.long v :: st)) : GG l E X h pc lv (.int i :: .ref (ad E a) :: st) := by
  obtain ⟨v, hv, hk⟩ := bnd hs
  have k := k v hk
  obtain ⟨p, e, R, s, m, args, below, meth, c, ⟨cells, slots⟩, Q, nL'⟩ := X
  obtain ⟨rfl, hx, hbc, hml, hown, hts, hSt, hc1, hc2, hf, hlo⟩ := C
  unfold ldJ at hv
  by_cases h0 : i < 0 ∨ len a ≤ i.toNatClampNeg
  · rw [if_pos h0] at hv; cases hv
  · rw [if_neg h0] at hv; cases hv
    exact fun H locs ls hP hS hl => va_lald hx hbc (hSt.2.2.1 a ha.1 ha.2) hP a 0 (by rw [wsH_at E h ha.1, ce7 E h ha.2]) rfl h0 hdg (k H locs ls hP hS hl)
theorem ok8 : ∀ a, a < 138 → kd a = 8 → ∀ j, j < len a → rf a j < 138 ∧ kd (rf a j) = 3 := by decide +kernel
theorem g_aald (C : CX E X own cc nL d) {a : Nat} {i : Int32} {K : Nat → Option ρ} (ha : OKr a 8) (hdg : decode cc pc = .ok (.aaload, 1)) (hs : Option.bind (ldR a i) K = some res) (k : ∀ v, OKr v 3 → K v = some res → GG l E X h (pc + 1) lv (.ref (ad E v) :: st)) : GG l E X h pc lv (.int i :: .ref (ad E a) :: st) := by
  obtain ⟨v, hv, hk⟩ := bnd hs
  unfold ldR at hv
  by_cases h0 : i < 0 ∨ len a ≤ i.toNatClampNeg
  · rw [if_pos h0] at hv; cases hv
  · rw [if_neg h0] at hv; cases hv
    have k := k _ (ok8 a ha.1 ha.2 _ (Nat.lt_of_not_le (fun z => h0 (Or.inr z)))) hk
    obtain ⟨p, e, R, s, m, args, below, meth, c, ⟨cells, slots⟩, Q, nL'⟩ := X
    obtain ⟨rfl, hx, hbc, hml, hown, hts, hSt, hc1, hc2, hf, hlo⟩ := C
    exact fun H locs ls hP hS hl => va_aldq hx hbc (hSt.2.2.2.1 a ha.1 ha.2) hP a 0 (C := RX3) (f := fun j => some (ad E (rf a j))) (by rw [wsH_at E h ha.1, ce8 E h ha.2]) rfl h0 hdg (k H locs ls hP hS hl)
theorem wI_at (h : Hp) (a j : Nat) (v : Int32) : (wI h a j v).1 a = upd (h.1 a) j v := by unfold wI upd2; simp
theorem wI_ne (h : Hp) {a k : Nat} (j : Nat) (v : Int32) (hk : k ≠ a) : (wI h a j v).1 k = h.1 k := by unfold wI upd2; simp [hk]
theorem wJ_at (h : Hp) (a j : Nat) (v : Int64) : (wJ h a j v).2.1 a = vp_updL (h.2.1 a) j v := by unfold wJ upd2L; simp
theorem wJ_ne (h : Hp) {a k : Nat} (j : Nat) (v : Int64) (hk : k ≠ a) : (wJ h a j v).2.1 k = h.2.1 k := by unfold wJ upd2L; simp [hk]
theorem ws_wI (E : Ep) (h : Hp) {a : Nat} (j : Nat) (v : Int32) (ha : a < NC) : (wsH E h).set a (ad E a, cel E (wI h a j v) a) = wsH E (wI h a j v) := wsH_set ha (fun k hk => cel_eq (wI_ne h j v hk) rfl (Or.inl rfl))
theorem ws_wJ (E : Ep) (h : Hp) {a : Nat} (j : Nat) (v : Int64) (ha : a < NC) : (wsH E h).set a (ad E a, cel E (wJ h a j v) a) = wsH E (wJ h a j v) := wsH_set ha (fun k hk => cel_eq rfl (wJ_ne h j v hk) (Or.inl rfl))
theorem ws_cpI (E : Ep) (h : Hp) {a0 a : Nat} (sp dp n : Nat) (ha : a < NC) : (wsH E h).set a (ad E a, cel E (cpI h a0 sp a dp n) a) = wsH E (cpI h a0 sp a dp n) := wsH_set ha (fun k hk => cel_eq (by unfold cpI; simp [hk]) rfl (Or.inl rfl))
theorem ws_cpJ (E : Ep) (h : Hp) {a0 a : Nat} (sp dp n : Nat) (ha : a < NC) : (wsH E h).set a (ad E a, cel E (cpJ h a0 sp a dp n) a) = wsH E (cpJ h a0 sp a dp n) := wsH_set ha (fun k hk => cel_eq rfl (by unfold cpJ; simp [hk]) (Or.inl rfl))
theorem g_iast (C : CX E X own cc nL d) {a : Nat} {i x : Int32} {K : Hp → Option ρ} (ha : OKr a 6) (hdg : decode cc pc = .ok (.iastore, 1)) (hs : Option.bind (stI h a i x) K = some res) (k : ∀ h1, K h1 = some res → GG l E X h1 (pc + 1) lv st) : GG l E X h pc lv (.int x :: .int i :: .ref (ad E a) :: st) := by
  obtain ⟨v, hv, hk⟩ := bnd hs
  have k := k v hk
  obtain ⟨p, e, R, s, m, args, below, meth, c, ⟨cells, slots⟩, Q, nL'⟩ := X
  obtain ⟨rfl, hx, hbc, hml, hown, hts, hSt, hc1, hc2, hf, hlo⟩ := C
  unfold stI at hv
  by_cases h0 : i < 0 ∨ len a ≤ i.toNatClampNeg
  · rw [if_pos h0] at hv; cases hv
  · rw [if_neg h0] at hv; cases hv
    refine fun H locs ls hP hS hl => va_iast hx hbc (hSt.2.1 a ha.1 ha.2) hP (wsH_D h hSt.2.2.2.2.2.1) hS a 0 (by rw [wsH_at E h ha.1, ce6 E h ha.2]) rfl h0 hdg (fun H1 locs1 hP1 _ hS1 => k H1 locs1 ls ?_ hS1 hl)
    have e := ws_wI E h i.toNatClampNeg x ha.1
    rw [ce6 E _ ha.2, wI_at] at e
    unfold Rp
    rw [← e]
    exact hP1
theorem g_last (C : CX E X own cc nL d) {a : Nat} {i : Int32} {x : Int64} {K : Hp → Option ρ} (ha : OKr a 7) (hdg : decode cc pc = .ok (.lastore, 1)) (hs : Option.bind (stJ h a i x) K = some res) (k : ∀ h1, K h1 = some res → GG l E X h1 (pc + 1) lv st) : GG l E X h pc lv (.long x :: .int i :: .ref (ad E a) :: st) := by
  obtain ⟨v, hv, hk⟩ := bnd hs
  have k := k v hk
  obtain ⟨p, e, R, s, m, args, below, meth, c, ⟨cells, slots⟩, Q, nL'⟩ := X
  obtain ⟨rfl, hx, hbc, hml, hown, hts, hSt, hc1, hc2, hf, hlo⟩ := C
  unfold stJ at hv
  by_cases h0 : i < 0 ∨ len a ≤ i.toNatClampNeg
  · rw [if_pos h0] at hv; cases hv
  · rw [if_neg h0] at hv; cases hv
    refine fun H locs ls hP hS hl => va_last hx hbc (hSt.2.2.1 a ha.1 ha.2) hP (wsH_D h hSt.2.2.2.2.2.1) hS a 0 (by rw [wsH_at E h ha.1, ce7 E h ha.2]) rfl h0 hdg (fun H1 locs1 hP1 _ hS1 => k H1 locs1 ls ?_ hS1 hl)
    have e := ws_wJ E h i.toNatClampNeg x ha.1
    rw [ce7 E _ ha.2, wJ_at] at e
    unfold Rp
    rw [← e]
    exact hP1
theorem g_alen (C : CX E X own cc nL d) {a : Nat} (ha : OKr a 6) (hdg : decode cc pc = .ok (.arraylength, 1)) (k : GG l E X h (pc + 1) lv (.int (Int32.ofNat (len a)) :: st)) : GG l E X h pc lv (.ref (ad E a) :: st) := by
  obtain ⟨p, e, R, s, m, args, below, meth, c, ⟨cells, slots⟩, Q, nL'⟩ := X
  obtain ⟨rfl, hx, hbc, hml, hown, hts, hSt, hc1, hc2, hf, hlo⟩ := C
  exact fun H locs ls hP hS hl => va_alen hx hbc (hSt.2.1 a ha.1 ha.2) hP a 0 (by rw [wsH_at E h ha.1, ce6 E h ha.2]) rfl rfl hdg (k H locs ls hP hS hl)
theorem g_alenJ (C : CX E X own cc nL d) {a : Nat} (ha : OKr a 7) (hdg : decode cc pc = .ok (.arraylength, 1)) (k : GG l E X h (pc + 1) lv (.int (Int32.ofNat (len a)) :: st)) : GG l E X h pc lv (.ref (ad E a) :: st) := by
  obtain ⟨p, e, R, s, m, args, below, meth, c, ⟨cells, slots⟩, Q, nL'⟩ := X
  obtain ⟨rfl, hx, hbc, hml, hown, hts, hSt, hc1, hc2, hf, hlo⟩ := C
  exact fun H locs ls hP hS hl => va_alen hx hbc (hSt.2.2.1 a ha.1 ha.2) hP a 0 (by rw [wsH_at E h ha.1, ce7 E h ha.2]) rfl rfl hdg (k H locs ls hP hS hl)
theorem g_alen8 (C : CX E X own cc nL d) {a : Nat} (ha : OKr a 8) (hdg : decode cc pc = .ok (.arraylength, 1)) (k : GG l E X h (pc + 1) lv (.int (Int32.ofNat (len a)) :: st)) : GG l E X h pc lv (.ref (ad E a) :: st) := by
  obtain ⟨p, e, R, s, m, args, below, meth, c, ⟨cells, slots⟩, Q, nL'⟩ := X
  obtain ⟨rfl, hx, hbc, hml, hown, hts, hSt, hc1, hc2, hf, hlo⟩ := C
  exact fun H locs ls hP hS hl => va_alen hx hbc (hSt.2.2.2.1 a ha.1 ha.2) hP a 0 (by rw [wsH_at E h ha.1, ce8 E h ha.2]) rfl rfl hdg (k H locs ls hP hS hl)
theorem g_gets138 (C : CX E X own cc nL d) {i : Nat} (hdg : decode cc pc = .ok (.getstatic i, 3)) (hw : Cond.fieldLink own i RX4 "SETTING_LEAST" "[I" ∈ TB) (k : GG l E X h (pc + 3) lv (.ref (ad E 138) :: st)) : GG l E X h pc lv st := by
  obtain ⟨p, e, R, s, m, args, below, meth, c, ⟨cells, slots⟩, Q, nL'⟩ := X
  obtain ⟨rfl, hx, hbc, hml, hown, hts, hSt, hc1, hc2, hf, hlo⟩ := C
  exact fun H locs ls hP hS hl => va_gets hx hbc hSt.2.2.2.2.2.2.1 hS hown (hts _ hw) (fun _ h9 => h9) hdg (k H locs ls hP hS hl)
theorem g_sald138 (C : CX E X own cc nL d) {i : Int32} {K : Int32 → Option ρ} (hdg : decode cc pc = .ok (.iaload, 1)) (hs : Option.bind (ldS 138 i) K = some res) (k : ∀ v, K v = some res → GG l E X h (pc + 1) lv (.int v :: st)) : GG l E X h pc lv (.int i :: .ref (ad E 138) :: st) := by
  obtain ⟨v, hv, hk⟩ := bnd hs
  have k := k v hk
  obtain ⟨p, e, R, s, m, args, below, meth, c, ⟨cells, slots⟩, Q, nL'⟩ := X
  obtain ⟨rfl, hx, hbc, hml, hown, hts, hSt, hc1, hc2, hf, hlo⟩ := C
  unfold ldS at hv
  by_cases h0 : i < 0 ∨ len 138 ≤ i.toNatClampNeg
  · rw [if_pos h0] at hv; cases hv
  · rw [if_neg h0] at hv; cases hv
    exact fun H locs ls hP hS hl => va_ti hx hbc hSt.2.2.2.2.2.2.2.1 hS h0 rfl hdg (k H locs ls hP hS hl)
theorem g_slen138 (C : CX E X own cc nL d) (hdg : decode cc pc = .ok (.arraylength, 1)) (k : GG l E X h (pc + 1) lv (.int (Int32.ofNat (len 138)) :: st)) : GG l E X h pc lv (.ref (ad E 138) :: st) := by
  obtain ⟨p, e, R, s, m, args, below, meth, c, ⟨cells, slots⟩, Q, nL'⟩ := X
  obtain ⟨rfl, hx, hbc, hml, hown, hts, hSt, hc1, hc2, hf, hlo⟩ := C
  exact fun H locs ls hP hS hl => va_tlen hx hbc hSt.2.2.2.2.2.2.2.1 hS rfl hdg (k H locs ls hP hS hl)
theorem g_gets139 (C : CX E X own cc nL d) {i : Nat} (hdg : decode cc pc = .ok (.getstatic i, 3)) (hw : Cond.fieldLink own i RX4 "SETTING_MOST" "[I" ∈ TB) (k : GG l E X h (pc + 3) lv (.ref (ad E 139) :: st)) : GG l E X h pc lv st := by
  obtain ⟨p, e, R, s, m, args, below, meth, c, ⟨cells, slots⟩, Q, nL'⟩ := X
  obtain ⟨rfl, hx, hbc, hml, hown, hts, hSt, hc1, hc2, hf, hlo⟩ := C
  exact fun H locs ls hP hS hl => va_gets hx hbc hSt.2.2.2.2.2.2.2.2.1 hS hown (hts _ hw) (fun _ h9 => h9) hdg (k H locs ls hP hS hl)
theorem g_sald139 (C : CX E X own cc nL d) {i : Int32} {K : Int32 → Option ρ} (hdg : decode cc pc = .ok (.iaload, 1)) (hs : Option.bind (ldS 139 i) K = some res) (k : ∀ v, K v = some res → GG l E X h (pc + 1) lv (.int v :: st)) : GG l E X h pc lv (.int i :: .ref (ad E 139) :: st) := by
  obtain ⟨v, hv, hk⟩ := bnd hs
  have k := k v hk
  obtain ⟨p, e, R, s, m, args, below, meth, c, ⟨cells, slots⟩, Q, nL'⟩ := X
  obtain ⟨rfl, hx, hbc, hml, hown, hts, hSt, hc1, hc2, hf, hlo⟩ := C
  unfold ldS at hv
  by_cases h0 : i < 0 ∨ len 139 ≤ i.toNatClampNeg
  · rw [if_pos h0] at hv; cases hv
  · rw [if_neg h0] at hv; cases hv
    exact fun H locs ls hP hS hl => va_ti hx hbc hSt.2.2.2.2.2.2.2.2.2 hS h0 rfl hdg (k H locs ls hP hS hl)
theorem g_slen139 (C : CX E X own cc nL d) (hdg : decode cc pc = .ok (.arraylength, 1)) (k : GG l E X h (pc + 1) lv (.int (Int32.ofNat (len 139)) :: st)) : GG l E X h pc lv (.ref (ad E 139) :: st) := by
  obtain ⟨p, e, R, s, m, args, below, meth, c, ⟨cells, slots⟩, Q, nL'⟩ := X
  obtain ⟨rfl, hx, hbc, hml, hown, hts, hSt, hc1, hc2, hf, hlo⟩ := C
  exact fun H locs ls hP hS hl => va_tlen hx hbc hSt.2.2.2.2.2.2.2.2.2 hS rfl hdg (k H locs ls hP hS hl)
theorem g_acI (C : CX E X own cc nL d) {a0 a1 i : Nat} {sp dp n : Int32} {K : Hp → Option ρ} (hd : 1 ≤ d) (ha0 : OKr a0 6) (ha1 : OKr a1 6) (hdg : decode cc pc = .ok (.invokestatic i, 3)) (hw : Cond.methodLink own i arraycopyName ∈ TB) (hw1 : Cond.native arraycopyName ∈ TB) (hw2 : Cond.static arraycopyName ∈ TB) (hw3 : Cond.initialized "java/lang/System" ∈ TB) (hcat : (st.map fun v => v.category).sum ≤ 8)
    (hs : Option.bind (acI h a0 sp a1 dp n) K = some res) (k : ∀ h1, K h1 = some res → GG l E X h1 (pc + 3) lv st) : GG l E X h pc lv (.int n :: .int dp :: .ref (ad E a1) :: .int sp :: .ref (ad E a0) :: st) := by
  obtain ⟨v, hv, hk⟩ := bnd hs
  have k := k v hk
  obtain ⟨p, e, R, s, m, args, below, meth, c, ⟨cells, slots⟩, Q, nL'⟩ := X
  obtain ⟨rfl, hx, hbc, hml, hown, hts, hSt, hc1, hc2, hf, hlo⟩ := C
  unfold acI at hv
  by_cases h0 : sp < 0 ∨ dp < 0 ∨ n < 0 ∨ len a0 < sp.toNatClampNeg + n.toNatClampNeg ∨ len a1 < dp.toNatClampNeg + n.toNatClampNeg
  · rw [if_pos h0] at hv; cases hv
  · rw [if_neg h0] at hv; cases hv
    have hKK : va_K (eD E) vwCl ([(cid E a0, .int)] ++ [(cid E a1, .int)]) s := (hSt.2.1 a0 ha0.1 ha0.2).app (hSt.2.1 a1 ha1.1 ha1.2)
    refine fun H locs ls hP hS hl => va_copyi hx hbc (hml.trans hl.1.symm) hown (hts _ hw) (hts _ hw1) (hts _ hw2) (hts _ hw3) hKK hP (wsH_D h hSt.2.2.2.2.2.1) hS a0 a1 0 1 (by rw [wsH_at E h ha0.1, ce6 E h ha0.2]) (by rw [wsH_at E h ha1.1, ce6 E h ha1.2]) rfl rfl rfl
      (fun z => h0 (Or.inl z)) (fun z => h0 (Or.inr (Or.inl z))) (fun z => h0 (Or.inr (Or.inr (Or.inl z)))) (Nat.le_of_not_lt (fun z => h0 (Or.inr (Or.inr (Or.inr (Or.inl z)))))) (Nat.le_of_not_lt (fun z => h0 (Or.inr (Or.inr (Or.inr (Or.inr z)))))) (fun _ _ => rfl)
      (Nat.le_trans hd hf) (by have e1 : nativeFrameWords "java/lang/System" "arraycopy" 5 = 7 := rfl
                               rw [e1]; omega) hdg (fun H1 locs1 hP1 _ hS1 => k H1 locs1 ls ?_ hS1 hl)
    have e := ws_cpI E h (a0 := a0) sp.toNatClampNeg dp.toNatClampNeg n.toNatClampNeg ha1.1
    rw [ce6 E _ ha1.2] at e
    have e2 : (cpI h a0 sp.toNatClampNeg a1 dp.toNatClampNeg n.toNatClampNeg).1 a1 = va_cpy (h.1 a0) (h.1 a1) sp.toNatClampNeg dp.toNatClampNeg n.toNatClampNeg := by unfold cpI; simp
    rw [e2] at e
    unfold Rp
    rw [← e]
    exact hP1
theorem g_acJ (C : CX E X own cc nL d) {a0 a1 i : Nat} {sp dp n : Int32} {K : Hp → Option ρ} (hd : 1 ≤ d) (ha0 : OKr a0 7) (ha1 : OKr a1 7) (hdg : decode cc pc = .ok (.invokestatic i, 3)) (hw : Cond.methodLink own i arraycopyName ∈ TB) (hw1 : Cond.native arraycopyName ∈ TB) (hw2 : Cond.static arraycopyName ∈ TB) (hw3 : Cond.initialized "java/lang/System" ∈ TB) (hcat : (st.map fun v => v.category).sum ≤ 8)
    (hs : Option.bind (acJ h a0 sp a1 dp n) K = some res) (k : ∀ h1, K h1 = some res → GG l E X h1 (pc + 3) lv st) : GG l E X h pc lv (.int n :: .int dp :: .ref (ad E a1) :: .int sp :: .ref (ad E a0) :: st) := by
  obtain ⟨v, hv, hk⟩ := bnd hs
  have k := k v hk
  obtain ⟨p, e, R, s, m, args, below, meth, c, ⟨cells, slots⟩, Q, nL'⟩ := X
  obtain ⟨rfl, hx, hbc, hml, hown, hts, hSt, hc1, hc2, hf, hlo⟩ := C
  unfold acJ at hv
  by_cases h0 : sp < 0 ∨ dp < 0 ∨ n < 0 ∨ len a0 < sp.toNatClampNeg + n.toNatClampNeg ∨ len a1 < dp.toNatClampNeg + n.toNatClampNeg
  · rw [if_pos h0] at hv; cases hv
  · rw [if_neg h0] at hv; cases hv
    have hKK : va_K (eD E) vwCl ([(cid E a0, .long)] ++ [(cid E a1, .long)]) s := (hSt.2.2.1 a0 ha0.1 ha0.2).app (hSt.2.2.1 a1 ha1.1 ha1.2)
    refine fun H locs ls hP hS hl => va_copyl hx hbc (hml.trans hl.1.symm) hown (hts _ hw) (hts _ hw1) (hts _ hw2) (hts _ hw3) hKK hP (wsH_D h hSt.2.2.2.2.2.1) hS a0 a1 0 1 (by rw [wsH_at E h ha0.1, ce7 E h ha0.2]) (by rw [wsH_at E h ha1.1, ce7 E h ha1.2]) rfl rfl rfl
      (fun z => h0 (Or.inl z)) (fun z => h0 (Or.inr (Or.inl z))) (fun z => h0 (Or.inr (Or.inr (Or.inl z)))) (Nat.le_of_not_lt (fun z => h0 (Or.inr (Or.inr (Or.inr (Or.inl z)))))) (Nat.le_of_not_lt (fun z => h0 (Or.inr (Or.inr (Or.inr (Or.inr z)))))) (fun _ _ => rfl)
      (Nat.le_trans hd hf) (by have e1 : nativeFrameWords "java/lang/System" "arraycopy" 5 = 7 := rfl
                               rw [e1]; omega) hdg (fun H1 locs1 hP1 _ hS1 => k H1 locs1 ls ?_ hS1 hl)
    have e := ws_cpJ E h (a0 := a0) sp.toNatClampNeg dp.toNatClampNeg n.toNatClampNeg ha1.1
    rw [ce7 E _ ha1.2] at e
    have e2 : (cpJ h a0 sp.toNatClampNeg a1 dp.toNatClampNeg n.toNatClampNeg).2.1 a1 = va_cpy (h.2.1 a0) (h.2.1 a1) sp.toNatClampNeg dp.toNatClampNeg n.toNatClampNeg := by unfold cpJ; simp
    rw [e2] at e
    unfold Rp
    rw [← e]
    exact hP1
theorem g_mmax (C : CX E X own cc nL d) {i : Nat} {x y : Int32} (hd : 1 ≤ d) (hdg : decode cc pc = .ok (.invokestatic i, 3)) (hw : Cond.methodLink own i Lib.Math.max.name ∈ TB) (hw1 : Cond.static Lib.Math.max.name ∈ TB) (hw2 : Cond.initialized "java/lang/Math" ∈ TB) (hw3 : Cond.code Lib.Math.max.name Lib.Math.max.code 2 (some .int) ∈ TB) (hcat : (st.map fun v => v.category).sum ≤ 8) (k : GG l E X h (pc + 3) lv (.int (if x < y then y else x) :: st)) : GG l E X h pc lv (.int y :: .int x :: st) := by
  obtain ⟨p, e, R, s, m, args, below, meth, c, ⟨cells, slots⟩, Q, nL'⟩ := X
  obtain ⟨rfl, hx, hbc, hml, hown, hts, hSt, hc1, hc2, hf, hlo⟩ := C
  exact fun H locs ls hP hS hl => va_mmax hx hbc (hml.trans hl.1.symm) hown (hts _ hw) (hts _ hw1) (hts _ hw2) (hts _ hw3) (Nat.le_trans hd hf) (by omega) hc1 hc2 hdg (k H locs ls hP hS hl)
theorem g_mmin (C : CX E X own cc nL d) {i : Nat} {x y : Int32} (hd : 1 ≤ d) (hdg : decode cc pc = .ok (.invokestatic i, 3)) (hw : Cond.methodLink own i Lib.Math.min.name ∈ TB) (hw1 : Cond.static Lib.Math.min.name ∈ TB) (hw2 : Cond.initialized "java/lang/Math" ∈ TB) (hw3 : Cond.code Lib.Math.min.name Lib.Math.min.code 2 (some .int) ∈ TB) (hcat : (st.map fun v => v.category).sum ≤ 8) (k : GG l E X h (pc + 3) lv (.int (if y < x then y else x) :: st)) : GG l E X h pc lv (.int y :: .int x :: st) := by
  obtain ⟨p, e, R, s, m, args, below, meth, c, ⟨cells, slots⟩, Q, nL'⟩ := X
  obtain ⟨rfl, hx, hbc, hml, hown, hts, hSt, hc1, hc2, hf, hlo⟩ := C
  exact fun H locs ls hP hS hl => va_mmin hx hbc (hml.trans hl.1.symm) hown (hts _ hw) (hts _ hw1) (hts _ hw2) (hts _ hw3) (Nat.le_trans hd hf) (by omega) hc1 hc2 hdg (k H locs ls hP hS hl)
theorem g_getf (C : CX E X own cc nL d) {a ci j i N : Nat} {Cn : String} {T : u_T} {fs : List Value} {v : Value} (hcl : vwCl[ci]? = some (Cn, T, N)) (hin : ∀ w ∈ u_ws Cn T N, w ∈ TB) (ha : OKr a ci) (hce : cel E h a = .inr (ci, fs)) (hj : j < N) (hv : fs[j]? = some v) (hw : Cond.fieldLink own i (T j).1 (T j).2.1 (T j).2.2.1 ∈ TB) (hdg : decode cc pc = .ok (.getfield i, 3)) (k : GG l E X h (pc + 3) lv (v :: st)) : GG l E X h pc lv (.ref (ad E a) :: st) := by
  obtain ⟨p, e, R, s, m, args, below, meth, c, ⟨cells, slots⟩, Q, nL'⟩ := X
  obtain ⟨rfl, hx, hbc, hml, hown, hts, hSt, hc1, hc2, hf, hlo⟩ := C
  exact fun H locs ls hP hS hl => va_get hx hbc hts hin hown hSt.1 hP a (by rw [wsH_at E h ha.1, hce]) hcl j hj (hts _ hw) (fun _ h9 => h9) hv hdg (k H locs ls hP hS hl)
theorem g_getfN (C : CX E X own cc nL d) {a ci j i N : Nat} {Cn host : String} {T : u_T} {fs : List Value} {v : Value} (hcl : vwCl[ci]? = some (Cn, T, N)) (hin : ∀ w ∈ u_ws Cn T N, w ∈ TB) (ha : OKr a ci) (hce : cel E h a = .inr (ci, fs)) (hj : j < N) (hv : fs[j]? = some v) (hw : Cond.fieldLinkNest own i (T j).1 (T j).2.1 (T j).2.2.1 host ∈ NWL) (hdg : decode cc pc = .ok (.getfield i, 3)) (k : GG l E X h (pc + 3) lv (v :: st)) : GG l E X h pc lv (.ref (ad E a) :: st) := by
  obtain ⟨p, e, R, s, m, args, below, meth, c, ⟨cells, slots⟩, Q, nL'⟩ := X
  obtain ⟨rfl, hx, hbc, hml, hown, hts, hSt, hc1, hc2, hf, hlo⟩ := C
  exact fun H locs ls hP hS hl => va_getN hx hbc hts hin hown hSt.1 hP a (by rw [wsH_at E h ha.1, hce]) hcl j hj (va_Nw.use rfl (hSt.2.2.2.2.1 _ hw)) (fun _ h9 => h9) hv hdg (k H locs ls hP hS hl)
theorem g_putf (C : CX E X own cc nL d) {a ci j i N : Nat} {Cn : String} {T : u_T} {fs : List Value} {v : Value} {ty : FieldType} (hcl : vwCl[ci]? = some (Cn, T, N)) (hin : ∀ w ∈ u_ws Cn T N, w ∈ TB) (ty0 : Nat → FieldType) (hty : ∀ k, k < N → parseFieldDescriptor (T k).2.2.1 = some (ty0 k)) (hnm : ∀ a, a < N → ∀ b, b < N → a ≠ b → (T a).2.1 ≠ (T b).2.1) (ha : OKr a ci) (hce : cel E h a = .inr (ci, fs)) (hj : j < N) (hjl : j < fs.length) (hfin : (T j).2.2.2 = false) (hd : parseFieldDescriptor (T j).2.2.1 = some ty) (hn : narrow ty v = v) (hft : fits ty v = true) (hw : Cond.fieldLink own i (T j).1 (T j).2.1 (T j).2.2.1 ∈ TB)
    (he : (wsH E h).set a (ad E a, .inr (ci, fs.set j v)) = wsH E h1) (hdg : decode cc pc = .ok (.putfield i, 3)) (k : GG l E X h1 (pc + 3) lv st) : GG l E X h pc lv (v :: .ref (ad E a) :: st) := by
  obtain ⟨p, e, R, s, m, args, below, meth, c, ⟨cells, slots⟩, Q, nL'⟩ := X
  obtain ⟨rfl, hx, hbc, hml, hown, hts, hSt, hc1, hc2, hf, hlo⟩ := C
  exact fun H locs ls hP hS hl => va_put hx hbc hts hin ty0 hty hnm hown hSt.1 hP (wsH_D h hSt.2.2.2.2.2.1) hS a (by rw [wsH_at E h ha.1, hce]) hcl j hj (hts _ hw) (fun _ h9 => h9) hfin hd hn hft hjl hdg (fun H1 locs1 hP1 _ hS1 => k H1 locs1 ls (by unfold Rp; rw [← he]; exact hP1) hS1 hl)
theorem g_iret (C : CX E X own cc nL d) {v : Int32} (hR : RT E X (some .int) (some (.int v)) h) (hdg : decode cc pc = .ok (.ireturn, 1)) : GG l E X h pc lv [.int v] := by
  obtain ⟨p, e, R, s, m, args, below, meth, c, ⟨cells, slots⟩, Q, nL'⟩ := X
  obtain ⟨rfl, hx, hbc, hml, hown, hts, hSt, hc1, hc2, hf, hlo⟩ := C
  obtain ⟨rfl, hr, hlk⟩ := hR
  exact fun H locs ls hP hS hl => W.iret hx hbc hr (fun t ht hW => ⟨rfl, by rw [ht]; exact hP, hS.F ht⟩) hS.2.2 hdg hlk
theorem nar_b {v : Int32} (hv : v = 0 ∨ v = 1) : narrow .boolean (.int v) = .int v := by rcases hv with rfl | rfl <;> rfl
theorem fit_b {v : Int32} (hv : v = 0 ∨ v = 1) : fits .boolean (.int v) = true := by rcases hv with rfl | rfl <;> rfl
theorem g_zret (C : CX E X own cc nL d) {v : Int32} (hv : v = 0 ∨ v = 1) (hR : RT E X (some .boolean) (some (.int v)) h) (hdg : decode cc pc = .ok (.ireturn, 1)) : GG l E X h pc lv [.int v] := by
  obtain ⟨p, e, R, s, m, args, below, meth, c, ⟨cells, slots⟩, Q, nL'⟩ := X
  obtain ⟨rfl, hx, hbc, hml, hown, hts, hSt, hc1, hc2, hf, hlo⟩ := C
  obtain ⟨rfl, hr, hlk⟩ := hR
  exact fun H locs ls hP hS hl => W.zret hx hbc hr (nar_b hv) (fun t ht hW => ⟨rfl, by rw [ht]; exact hP, hS.F ht⟩) hS.2.2 hdg hlk
theorem g_vret (C : CX E X own cc nL d) (hR : RT E X none none h) (hdg : decode cc pc = .ok (.return_, 1)) : GG l E X h pc lv [] := by
  obtain ⟨p, e, R, s, m, args, below, meth, c, ⟨cells, slots⟩, Q, nL'⟩ := X
  obtain ⟨rfl, hx, hbc, hml, hown, hts, hSt, hc1, hc2, hf, hlo⟩ := C
  obtain ⟨rfl, hr, hlk⟩ := hR
  exact fun H locs ls hP hS hl => W.vret hx hbc hr (fun t ht hW => ⟨rfl, by rw [ht]; exact hP, hS.F ht⟩) hS.2.2 hdg hlk
theorem bol_v {x y : Int32} (h : bol x = some y) : (y = 0 ∨ y = 1) ∧ y = x := by
  unfold bol at h
  by_cases q : x = 0 ∨ x = 1
  · rw [if_pos q] at h; cases h; exact ⟨q, rfl⟩
  · rw [if_neg q] at h; cases h
theorem g_sub (js : List Nat) (hlv : lv_pick lv js = lv') (k : GG l E X h pc lv' st) : GG l E X h pc lv st := by
  obtain ⟨p, e, R, s, m, args, below, meth, c, ⟨cells, slots⟩, Q, nL'⟩ := X
  exact fun H locs ls hP hS hl => k H locs ls hP hS (lv_sub hl js hlv)
end GQ
