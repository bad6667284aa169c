/-! MAKING: constructors, straight on -/
abbrev Fy : Type := Program × Env × Room × State × MethodId × Array Value × List Frame × Method × Code × (State → Prop) × Nat × va_G × (Nat → Prop)
def BG (l : Launch) (X : Fy) (tys : List (ClassId × FieldType)) (ws : va_W) (cells slots pc : Nat) (lv : List (Nat × Value)) (st : List Value) : Prop := match X with
  | (p, e, R, s, m, args, below, meth, c, Q, nL, D, A) => ∀ (H : Heap) (locs : List Loc) (ls : Array Slot), va_K D vwCl tys s → va_P D vwCl ws H → va_D A ws → va_S A s.heap H locs → lv_has ls nL lv → W p l e R s m args below meth c H locs cells slots Q (F0 m pc ls st)
def BX (X : Fy) (own : String) (cc : ByteArray) (nL : Nat) (R0 : Room) : Prop := match X with
  | (p, e, R, s, m, args, below, meth, c, Q, nL', D, A) => R = R0 ∧ nL' = nL ∧ p.tables.exec = Jvm.exec ∧ c.code = cc ∧ c.maxLocals = nL ∧ s.vm.findClass own = some m.cls ∧ (∀ w ∈ TB, w.before args s = true) ∧ (∀ w ∈ NWL, va_Nw w s) ∧ (∀ q, s.heap.size ≤ q → A q) ∧ meth.name = "<init>"
section MK
variable {l : Launch} {X : Fy} {own : String} {cc : ByteArray} {nL : Nat} {R0 : Room} {tys : List (ClassId × FieldType)} {ws : va_W} {cells slots pc : Nat} {lv : List (Nat × Value)} {st : List Value}
set_option maxHeartbeats 400000 in
theorem b_aload0 (C : BX X own cc nL R0) {a : Nat} (hdg : decode cc pc = .ok (.aload_n 0, 1)) (h0 : lv[0]? = some (0, .ref a)) (k : BG l X tys ws cells slots (pc + 1) lv (.ref a :: st)) : BG l X tys ws cells slots pc lv st := by
  obtain ⟨p, e, R, s, m, args, below, meth, c, Q, nL', D, A⟩ := X
  obtain ⟨rfl, rfl, hx, hbc, hml, hown, hts, hnw, hA, hin⟩ := C
  exact fun H locs ls hK hP hD hS hl => lv_aload_n hx hbc hdg rfl (lv_at hl 0 h0) (k H locs ls hK hP hD hS hl)
set_option maxHeartbeats 400000 in
theorem b_bipush (C : BX X own cc nL R0) {n : Int} {v : Int32} (hdg : decode cc pc = .ok (.bipush n, 2)) (hv : (Int8.ofInt n).toInt32 = v) (k : BG l X tys ws cells slots (pc + 2) lv (.int v :: st)) : BG l X tys ws cells slots pc lv st := by
  obtain ⟨p, e, R, s, m, args, below, meth, c, Q, nL', D, A⟩ := X
  obtain ⟨rfl, rfl, hx, hbc, hml, hown, hts, hnw, hA, hin⟩ := C
  exact fun H locs ls hK hP hD hS hl => lv_bipush hx hbc hdg hv (k H locs ls hK hP hD hS hl)
set_option maxHeartbeats 400000 in
theorem b_sipush (C : BX X own cc nL R0) {n : Int} {v : Int32} (hdg : decode cc pc = .ok (.sipush n, 3)) (hv : (Int16.ofInt n).toInt32 = v) (k : BG l X tys ws cells slots (pc + 3) lv (.int v :: st)) : BG l X tys ws cells slots pc lv st := by
  obtain ⟨p, e, R, s, m, args, below, meth, c, Q, nL', D, A⟩ := X
  obtain ⟨rfl, rfl, hx, hbc, hml, hown, hts, hnw, hA, hin⟩ := C
  exact fun H locs ls hK hP hD hS hl => lv_sipush hx hbc hdg hv (k H locs ls hK hP hD hS hl)
set_option maxHeartbeats 400000 in
theorem b_iconst (C : BX X own cc nL R0) {n : Int} {v : Int32} (hdg : decode cc pc = .ok (.iconst n, 1)) (hv : Int32.ofInt n = v) (k : BG l X tys ws cells slots (pc + 1) lv (.int v :: st)) : BG l X tys ws cells slots pc lv st := by
  obtain ⟨p, e, R, s, m, args, below, meth, c, Q, nL', D, A⟩ := X
  obtain ⟨rfl, rfl, hx, hbc, hml, hown, hts, hnw, hA, hin⟩ := C
  exact fun H locs ls hK hP hD hS hl => lv_iconst hx hbc hdg hv (k H locs ls hK hP hD hS hl)
set_option maxHeartbeats 400000 in
theorem b_dup (C : BX X own cc nL R0) {v : Value} (hdg : decode cc pc = .ok (.dup, 1)) (hv : v.category = 1) (k : BG l X tys ws cells slots (pc + 1) lv (v :: v :: st)) : BG l X tys ws cells slots pc lv (v :: st) := by
  obtain ⟨p, e, R, s, m, args, below, meth, c, Q, nL', D, A⟩ := X
  obtain ⟨rfl, rfl, hx, hbc, hml, hown, hts, hnw, hA, hin⟩ := C
  exact fun H locs ls hK hP hD hS hl => lv_dup hx hbc hdg hv (k H locs ls hK hP hD hS hl)
set_option maxHeartbeats 400000 in
theorem b_newI (C : BX X own cc nL R0) {n : Int32} {N : Nat} (harr : Cond.arrayClass .int ∈ TB) (hdg : decode cc pc = .ok (.newarray .int, 2)) (hn : ¬ n < 0) (hN : n.toNatClampNeg = N) (hb : N ≤ 1000) (hc : cells + 1 ≤ R0.cells) (hs : slots + N ≤ R0.slots) (k : ∀ (q : Nat) (cA : ClassId), BG l X (tys ++ [(cA, .int)]) (ws ++ [(q, .inl (cA, N, .inl (fun _ => 0)))]) (cells + 1) (slots + N) (pc + 2) lv (.ref q :: st)) : BG l X tys ws cells slots pc lv (.int n :: st) := by
  obtain ⟨p, e, R, s, m, args, below, meth, c, Q, nL', D, A⟩ := X
  obtain ⟨rfl, rfl, hx, hbc, hml, hown, hts, hnw, hA, hin⟩ := C
  exact fun H locs ls hK hP hD hS hl => va_newa (atype := .int) (a0 := (N, .inl (fun _ => 0))) hx hbc (hts _ harr) rfl hK hP hD hS hA (fun cA => rfl) hn hN (by show N * 4 ≤ 536870912; omega) hc hs hdg (fun q cA H1 hK1 hP1 hD1 hS1 => k q cA H1 locs ls hK1 hP1 hD1 hS1 hl)
set_option maxHeartbeats 400000 in
theorem b_newJ (C : BX X own cc nL R0) {n : Int32} {N : Nat} (harr : Cond.arrayClass .long ∈ TB) (hdg : decode cc pc = .ok (.newarray .long, 2)) (hn : ¬ n < 0) (hN : n.toNatClampNeg = N) (hb : N ≤ 1000) (hc : cells + 1 ≤ R0.cells) (hs : slots + N ≤ R0.slots) (k : ∀ (q : Nat) (cA : ClassId), BG l X (tys ++ [(cA, .long)]) (ws ++ [(q, .inl (cA, N, .inr (.inl (fun _ => 0))))]) (cells + 1) (slots + N) (pc + 2) lv (.ref q :: st)) : BG l X tys ws cells slots pc lv (.int n :: st) := by
  obtain ⟨p, e, R, s, m, args, below, meth, c, Q, nL', D, A⟩ := X
  obtain ⟨rfl, rfl, hx, hbc, hml, hown, hts, hnw, hA, hin⟩ := C
  exact fun H locs ls hK hP hD hS hl => va_newa (atype := .long) (a0 := (N, .inr (.inl (fun _ => 0)))) hx hbc (hts _ harr) rfl hK hP hD hS hA (fun cA => rfl) hn hN (by show N * 8 ≤ 536870912; omega) hc hs hdg (fun q cA H1 hK1 hP1 hD1 hS1 => k q cA H1 locs ls hK1 hP1 hD1 hS1 hl)
set_option maxHeartbeats 400000 in
theorem b_putF (C : BX X own cc nL R0) {ci j i N q0 a : Nat} {Cn : String} {T : u_T} {fs : List Value} {v : Value} {ty : FieldType} (hcl : vwCl[ci]? = some (Cn, T, N)) (hin : ∀ w ∈ u_ws Cn T N, w ∈ TB) (ty0 : Nat → FieldType) (hty : ∀ k, k < N → parseFieldDescriptor (T k).2.2.1 = some (ty0 k)) (hnm : ∀ a, a < N → ∀ b, b < N → a ≠ b → (T a).2.1 ≠ (T b).2.1) (he : ws[q0]? = some (a, .inr (ci, fs))) (hj : j < N) (hjl : j < fs.length) (hfin : (T j).2.2.2 = true) (hdecl : (T j).1 = own) (hd : parseFieldDescriptor (T j).2.2.1 = some ty) (hn : narrow ty v = v) (hft : fits ty v = true) (hw : Cond.fieldLink own i (T j).1 (T j).2.1 (T j).2.2.1 ∈ TB) (hdg : decode cc pc = .ok (.putfield i, 3)) (k : BG l X tys (ws.set q0 (a, .inr (ci, fs.set j v))) cells slots (pc + 3) lv st) : BG l X tys ws cells slots pc lv (v :: .ref a :: st) := by
  obtain ⟨p, e, R, s, m, args, below, meth, c, Q, nL', D, A⟩ := X
  obtain ⟨rfl, rfl, hx, hbc, hml, hown, hts, hnw, hA, hin2⟩ := C
  exact fun H locs ls hK hP hD hS hl => va_putF hx hbc hts hin ty0 hty hnm hown hK hP hD hS q0 he hcl j hj (hts _ hw) (fun _ h9 => h9) hfin hin2 hdecl hd hn hft hjl hdg (fun H1 locs1 hP1 hD1 hS1 => k H1 locs1 ls hK hP1 hD1 hS1 hl)
set_option maxHeartbeats 400000 in
theorem b_put (C : BX X own cc nL R0) {ci j i N q0 a : Nat} {Cn : String} {T : u_T} {fs : List Value} {v : Value} {ty : FieldType} (hcl : vwCl[ci]? = some (Cn, T, N)) (hin : ∀ w ∈ u_ws Cn T N, w ∈ TB) (ty0 : Nat → FieldType) (hty : ∀ k, k < N → parseFieldDescriptor (T k).2.2.1 = some (ty0 k)) (hnm : ∀ a, a < N → ∀ b, b < N → a ≠ b → (T a).2.1 ≠ (T b).2.1) (he : ws[q0]? = some (a, .inr (ci, fs))) (hj : j < N) (hjl : j < fs.length) (hfin : (T j).2.2.2 = false) (hd : parseFieldDescriptor (T j).2.2.1 = some ty) (hn : narrow ty v = v) (hft : fits ty v = true) (hw : Cond.fieldLink own i (T j).1 (T j).2.1 (T j).2.2.1 ∈ TB) (hdg : decode cc pc = .ok (.putfield i, 3)) (k : BG l X tys (ws.set q0 (a, .inr (ci, fs.set j v))) cells slots (pc + 3) lv st) : BG l X tys ws cells slots pc lv (v :: .ref a :: st) := by
  obtain ⟨p, e, R, s, m, args, below, meth, c, Q, nL', D, A⟩ := X
  obtain ⟨rfl, rfl, hx, hbc, hml, hown, hts, hnw, hA, hin2⟩ := C
  exact fun H locs ls hK hP hD hS hl => va_put hx hbc hts hin ty0 hty hnm hown hK hP hD hS q0 he hcl j hj (hts _ hw) (fun _ h9 => h9) hfin hd hn hft hjl hdg (fun H1 locs1 hP1 hD1 hS1 => k H1 locs1 ls hK hP1 hD1 hS1 hl)
set_option maxHeartbeats 400000 in
theorem b_iast (C : BX X own cc nL R0) {q0 t0 a n : Nat} {cA : ClassId} {f : Nat → Int32} {i x : Int32} (ha : ws[q0]? = some (a, .inl (cA, n, .inl f))) (ht : tys[t0]? = some (cA, .int)) (hin : vp_in i n) (hdg : decode cc pc = .ok (.iastore, 1)) (k : BG l X tys (ws.set q0 (a, .inl (cA, n, .inl (upd f i.toNatClampNeg x)))) cells slots (pc + 1) lv st) : BG l X tys ws cells slots pc lv (.int x :: .int i :: .ref a :: st) := by
  obtain ⟨p, e, R, s, m, args, below, meth, c, Q, nL', D, A⟩ := X
  obtain ⟨rfl, rfl, hx, hbc, hml, hown, hts, hnw, hA, hin2⟩ := C
  exact fun H locs ls hK hP hD hS hl => va_iast hx hbc hK hP hD hS q0 t0 ha ht hin hdg (fun H1 locs1 hP1 hD1 hS1 => k H1 locs1 ls hK hP1 hD1 hS1 hl)
set_option maxHeartbeats 400000 in
theorem b_new (C : BX X own cc nL R0) {ci i N : Nat} {Cn : String} {T : u_T} {fs : List Value} (hcl : vwCl[ci]? = some (Cn, T, N)) (hin : ∀ w ∈ u_ws Cn T N, w ∈ TB) (ty : Nat → FieldType) (hty : ∀ k, k < N → parseFieldDescriptor (T k).2.2.1 = some (ty k)) (h1 : Cond.classLink own i Cn ∈ TB) (h2 : Cond.instantiable Cn N ∈ TB) (h3 : Cond.initialized Cn ∈ TB) (hfs : ∀ j, j < N → defaultValue (ty j) = vp_V fs j) (hc : cells + 1 ≤ R0.cells) (hs : slots + N ≤ R0.slots) (hdg : decode cc pc = .ok (.new i, 3)) (k : ∀ q : Nat, BG l X tys (ws ++ [(q, .inr (ci, fs))]) (cells + 1) (slots + N) (pc + 3) lv (.ref q :: st)) : BG l X tys ws cells slots pc lv st := by
  obtain ⟨p, e, R, s, m, args, below, meth, c, Q, nL', D, A⟩ := X
  obtain ⟨rfl, rfl, hx, hbc, hml, hown, hts, hnw, hA, hin2⟩ := C
  exact fun H locs ls hK hP hD hS hl => va_new hx hbc hts hin ty hty hown (hts _ h1) (hts _ h2) (hts _ h3) hK hP hD hS hA hcl hfs hc hs hdg (fun q H1 hP1 hD1 hS1 => k q H1 locs ls hK hP1 hD1 hS1 hl)
end MK
