/-! MAKING: constructors, straight on -/
abbrev Fy : Type := Program × Env × Room × State × MethodId × Array Value × List Frame × Method × Code × (State → Prop) × Nat × va_G × (Nat → Prop)
def BG (l : Launch) (X : Fy) (tys : List (ClassId × FieldType)) (ws : va_W) (cells slots pc : Nat) (lv : List (Nat × Value)) (st : List Value) : Prop := match X with
  | (p, e, R, s, m, args, below, meth, c, Q, nL, D, A) => ∀ (H : Heap) (locs : List Loc) (ls : Array Slot), va_K D vwCl tys s → va_P D vwCl ws H → va_D A ws → va_S A s.heap H locs → lv_has ls nL lv → W p l e R s m args below meth c H locs cells slots Q (F0 m pc ls st)
def BX (X : Fy) (own : String) (cc : ByteArray) (nL : Nat) (R0 : Room) : Prop := match X with
  | (p, e, R, s, m, args, below, meth, c, Q, nL', D, A) => R = R0 ∧ nL' = nL ∧ p.tables.exec = Jvm.exec ∧ c.code = cc ∧ c.maxLocals = nL ∧ s.vm.findClass own = some m.cls ∧ (∀ w ∈ TB, w.before args s = true) ∧ (∀ w ∈ NWL, va_Nw w s) ∧ (∀ q, s.heap.size ≤ q → A q) ∧ meth.name = "<init>" ∧ va_AO RX3 s
section MK
variable {l : Launch} {X : Fy} {own : String} {cc : ByteArray} {nL : Nat} {R0 : Room} {tys : List (ClassId × FieldType)} {ws : va_W} {cells slots pc : Nat} {lv : List (Nat × Value)} {st : List Value}
set_option maxHeartbeats 400000 in
theorem b_aload0 (C : BX X own cc nL R0) {a : Nat} (j : Nat) (hdg : decode cc pc = .ok (.aload_n 0, 1)) (h0 : lv[j]? = some (0, .ref a)) (k : BG l X tys ws cells slots (pc + 1) lv (.ref a :: st)) : BG l X tys ws cells slots pc lv st := by
  obtain ⟨p, e, R, s, m, args, below, meth, c, Q, nL', D, A⟩ := X
  obtain ⟨rfl, rfl, hx, hbc, hml, hown, hts, hnw, hA, hin, hao⟩ := C
  exact fun H locs ls hK hP hD hS hl => lv_aload_n hx hbc hdg rfl (lv_at hl j h0) (k H locs ls hK hP hD hS hl)
set_option maxHeartbeats 400000 in
theorem b_bipush (C : BX X own cc nL R0) {n : Int} {v : Int32} (hdg : decode cc pc = .ok (.bipush n, 2)) (hv : (Int8.ofInt n).toInt32 = v) (k : BG l X tys ws cells slots (pc + 2) lv (.int v :: st)) : BG l X tys ws cells slots pc lv st := by
  obtain ⟨p, e, R, s, m, args, below, meth, c, Q, nL', D, A⟩ := X
  obtain ⟨rfl, rfl, hx, hbc, hml, hown, hts, hnw, hA, hin, hao⟩ := C
  exact fun H locs ls hK hP hD hS hl => lv_bipush hx hbc hdg hv (k H locs ls hK hP hD hS hl)
set_option maxHeartbeats 400000 in
theorem b_sipush (C : BX X own cc nL R0) {n : Int} {v : Int32} (hdg : decode cc pc = .ok (.sipush n, 3)) (hv : (Int16.ofInt n).toInt32 = v) (k : BG l X tys ws cells slots (pc + 3) lv (.int v :: st)) : BG l X tys ws cells slots pc lv st := by
  obtain ⟨p, e, R, s, m, args, below, meth, c, Q, nL', D, A⟩ := X
  obtain ⟨rfl, rfl, hx, hbc, hml, hown, hts, hnw, hA, hin, hao⟩ := C
  exact fun H locs ls hK hP hD hS hl => lv_sipush hx hbc hdg hv (k H locs ls hK hP hD hS hl)
set_option maxHeartbeats 400000 in
theorem b_iconst (C : BX X own cc nL R0) {n : Int} {v : Int32} (hdg : decode cc pc = .ok (.iconst n, 1)) (hv : Int32.ofInt n = v) (k : BG l X tys ws cells slots (pc + 1) lv (.int v :: st)) : BG l X tys ws cells slots pc lv st := by
  obtain ⟨p, e, R, s, m, args, below, meth, c, Q, nL', D, A⟩ := X
  obtain ⟨rfl, rfl, hx, hbc, hml, hown, hts, hnw, hA, hin, hao⟩ := C
  exact fun H locs ls hK hP hD hS hl => lv_iconst hx hbc hdg hv (k H locs ls hK hP hD hS hl)
set_option maxHeartbeats 400000 in
theorem b_dup (C : BX X own cc nL R0) {v : Value} (hdg : decode cc pc = .ok (.dup, 1)) (hv : v.category = 1) (k : BG l X tys ws cells slots (pc + 1) lv (v :: v :: st)) : BG l X tys ws cells slots pc lv (v :: st) := by
  obtain ⟨p, e, R, s, m, args, below, meth, c, Q, nL', D, A⟩ := X
  obtain ⟨rfl, rfl, hx, hbc, hml, hown, hts, hnw, hA, hin, hao⟩ := C
  exact fun H locs ls hK hP hD hS hl => lv_dup hx hbc hdg hv (k H locs ls hK hP hD hS hl)
set_option maxHeartbeats 400000 in
theorem b_newI (C : BX X own cc nL R0) {n : Int32} {N : Nat} (harr : Cond.arrayClass .int ∈ TB) (hdg : decode cc pc = .ok (.newarray .int, 2)) (hn : ¬ n < 0) (hN : n.toNatClampNeg = N) (hb : N ≤ 1000) (hc : cells + 1 ≤ R0.cells) (hs : slots + N ≤ R0.slots) (k : ∀ (q : Nat) (cA : ClassId), BG l X (tys ++ [(cA, .int)]) (ws ++ [(q, .inl (cA, N, .inl (fun _ => 0)))]) (cells + 1) (slots + N) (pc + 2) lv (.ref q :: st)) : BG l X tys ws cells slots pc lv (.int n :: st) := by
  obtain ⟨p, e, R, s, m, args, below, meth, c, Q, nL', D, A⟩ := X
  obtain ⟨rfl, rfl, hx, hbc, hml, hown, hts, hnw, hA, hin, hao⟩ := C
  exact fun H locs ls hK hP hD hS hl => va_newa (atype := .int) (a0 := (N, .inl (fun _ => 0))) hx hbc (hts _ harr) rfl hK hP hD hS hA (fun cA => rfl) hn hN (by show N * 4 ≤ 536870912; omega) hc hs hdg (fun q cA H1 hK1 hP1 hD1 hS1 => k q cA H1 locs ls hK1 hP1 hD1 hS1 hl)
set_option maxHeartbeats 400000 in
theorem b_newJ (C : BX X own cc nL R0) {n : Int32} {N : Nat} (harr : Cond.arrayClass .long ∈ TB) (hdg : decode cc pc = .ok (.newarray .long, 2)) (hn : ¬ n < 0) (hN : n.toNatClampNeg = N) (hb : N ≤ 1000) (hc : cells + 1 ≤ R0.cells) (hs : slots + N ≤ R0.slots) (k : ∀ (q : Nat) (cA : ClassId), BG l X (tys ++ [(cA, .long)]) (ws ++ [(q, .inl (cA, N, .inr (.inl (fun _ => 0))))]) (cells + 1) (slots + N) (pc + 2) lv (.ref q :: st)) : BG l X tys ws cells slots pc lv (.int n :: st) := by
  obtain ⟨p, e, R, s, m, args, below, meth, c, Q, nL', D, A⟩ := X
  obtain ⟨rfl, rfl, hx, hbc, hml, hown, hts, hnw, hA, hin, hao⟩ := C
  exact fun H locs ls hK hP hD hS hl => va_newa (atype := .long) (a0 := (N, .inr (.inl (fun _ => 0)))) hx hbc (hts _ harr) rfl hK hP hD hS hA (fun cA => rfl) hn hN (by show N * 8 ≤ 536870912; omega) hc hs hdg (fun q cA H1 hK1 hP1 hD1 hS1 => k q cA H1 locs ls hK1 hP1 hD1 hS1 hl)
set_option maxHeartbeats 400000 in
theorem b_putF (C : BX X own cc nL R0) {ci j i N q0 a : Nat} {Cn : String} {T : u_T} {fs : List Value} {v : Value} {ty : FieldType} (hcl : vwCl[ci]? = some (Cn, T, N)) (hin : ∀ w ∈ u_ws Cn T N, w ∈ TB) (ty0 : Nat → FieldType) (hty : ∀ k, k < N → parseFieldDescriptor (T k).2.2.1 = some (ty0 k)) (hnm : ∀ a, a < N → ∀ b, b < N → a ≠ b → (T a).2.1 ≠ (T b).2.1) (he : ws[q0]? = some (a, .inr (ci, fs))) (hj : j < N) (hjl : j < fs.length) (hfin : (T j).2.2.2 = true) (hdecl : (T j).1 = own) (hd : parseFieldDescriptor (T j).2.2.1 = some ty) (hn : narrow ty v = v) (hft : fits ty v = true) (hw : Cond.fieldLink own i (T j).1 (T j).2.1 (T j).2.2.1 ∈ TB) (hdg : decode cc pc = .ok (.putfield i, 3)) (k : BG l X tys (ws.set q0 (a, .inr (ci, fs.set j v))) cells slots (pc + 3) lv st) : BG l X tys ws cells slots pc lv (v :: .ref a :: st) := by
  obtain ⟨p, e, R, s, m, args, below, meth, c, Q, nL', D, A⟩ := X
  obtain ⟨rfl, rfl, hx, hbc, hml, hown, hts, hnw, hA, hin2, hao⟩ := C
  exact fun H locs ls hK hP hD hS hl => va_putF hx hbc hts hin ty0 hty hnm hown hK hP hD hS q0 he hcl j hj (hts _ hw) (fun _ h9 => h9) hfin hin2 hdecl hd hn hft hjl hdg (fun H1 locs1 hP1 hD1 hS1 => k H1 locs1 ls hK hP1 hD1 hS1 hl)
set_option maxHeartbeats 400000 in
theorem b_put (C : BX X own cc nL R0) {ci j i N q0 a : Nat} {Cn : String} {T : u_T} {fs : List Value} {v : Value} {ty : FieldType} (hcl : vwCl[ci]? = some (Cn, T, N)) (hin : ∀ w ∈ u_ws Cn T N, w ∈ TB) (ty0 : Nat → FieldType) (hty : ∀ k, k < N → parseFieldDescriptor (T k).2.2.1 = some (ty0 k)) (hnm : ∀ a, a < N → ∀ b, b < N → a ≠ b → (T a).2.1 ≠ (T b).2.1) (he : ws[q0]? = some (a, .inr (ci, fs))) (hj : j < N) (hjl : j < fs.length) (hfin : (T j).2.2.2 = false) (hd : parseFieldDescriptor (T j).2.2.1 = some ty) (hn : narrow ty v = v) (hft : fits ty v = true) (hw : Cond.fieldLink own i (T j).1 (T j).2.1 (T j).2.2.1 ∈ TB) (hdg : decode cc pc = .ok (.putfield i, 3)) (k : BG l X tys (ws.set q0 (a, .inr (ci, fs.set j v))) cells slots (pc + 3) lv st) : BG l X tys ws cells slots pc lv (v :: .ref a :: st) := by
  obtain ⟨p, e, R, s, m, args, below, meth, c, Q, nL', D, A⟩ := X
  obtain ⟨rfl, rfl, hx, hbc, hml, hown, hts, hnw, hA, hin2, hao⟩ := C
  exact fun H locs ls hK hP hD hS hl => va_put hx hbc hts hin ty0 hty hnm hown hK hP hD hS q0 he hcl j hj (hts _ hw) (fun _ h9 => h9) hfin hd hn hft hjl hdg (fun H1 locs1 hP1 hD1 hS1 => k H1 locs1 ls hK hP1 hD1 hS1 hl)
set_option maxHeartbeats 400000 in
theorem b_iast (C : BX X own cc nL R0) {q0 t0 a n : Nat} {cA : ClassId} {f : Nat → Int32} {i x : Int32} (ha : ws[q0]? = some (a, .inl (cA, n, .inl f))) (ht : tys[t0]? = some (cA, .int)) (hin : vp_in i n) (hdg : decode cc pc = .ok (.iastore, 1)) (k : BG l X tys (ws.set q0 (a, .inl (cA, n, .inl (upd f i.toNatClampNeg x)))) cells slots (pc + 1) lv st) : BG l X tys ws cells slots pc lv (.int x :: .int i :: .ref a :: st) := by
  obtain ⟨p, e, R, s, m, args, below, meth, c, Q, nL', D, A⟩ := X
  obtain ⟨rfl, rfl, hx, hbc, hml, hown, hts, hnw, hA, hin2, hao⟩ := C
  exact fun H locs ls hK hP hD hS hl => va_iast hx hbc hK hP hD hS q0 t0 ha ht hin hdg (fun H1 locs1 hP1 hD1 hS1 => k H1 locs1 ls hK hP1 hD1 hS1 hl)
set_option maxHeartbeats 400000 in
theorem b_new (C : BX X own cc nL R0) {ci i N : Nat} {Cn : String} {T : u_T} {fs : List Value} (hcl : vwCl[ci]? = some (Cn, T, N)) (hin : ∀ w ∈ u_ws Cn T N, w ∈ TB) (ty : Nat → FieldType) (hty : ∀ k, k < N → parseFieldDescriptor (T k).2.2.1 = some (ty k)) (h1 : Cond.classLink own i Cn ∈ TB) (h2 : Cond.instantiable Cn N ∈ TB) (h3 : Cond.initialized Cn ∈ TB) (hfs : ∀ j, j < N → defaultValue (ty j) = vp_V fs j) (hc : cells + 1 ≤ R0.cells) (hs : slots + N ≤ R0.slots) (hdg : decode cc pc = .ok (.new i, 3)) (k : ∀ q : Nat, BG l X tys (ws ++ [(q, .inr (ci, fs))]) (cells + 1) (slots + N) (pc + 3) lv (.ref q :: st)) : BG l X tys ws cells slots pc lv st := by
  obtain ⟨p, e, R, s, m, args, below, meth, c, Q, nL', D, A⟩ := X
  obtain ⟨rfl, rfl, hx, hbc, hml, hown, hts, hnw, hA, hin2, hao⟩ := C
  exact fun H locs ls hK hP hD hS hl => va_new hx hbc hts hin ty hty hown (hts _ h1) (hts _ h2) (hts _ h3) hK hP hD hS hA hcl hfs hc hs hdg (fun q H1 hP1 hD1 hS1 => k q H1 locs ls hK hP1 hD1 hS1 hl)
set_option maxHeartbeats 400000 in
theorem b_iload1 (C : BX X own cc nL R0) {x : Int32} (j : Nat) (hdg : decode cc pc = .ok (.iload_n 1, 1)) (hj : lv[j]? = some (1, .int x)) (k : BG l X tys ws cells slots (pc + 1) lv (.int x :: st)) : BG l X tys ws cells slots pc lv st := by
  obtain ⟨p, e, R, s, m, args, below, meth, c, Q, nL', D, A⟩ := X
  obtain ⟨rfl, rfl, hx, hbc, hml, hown, hts, hnw, hA, hin, hao⟩ := C
  exact fun H locs ls hK hP hD hS hl => lv_iload_n hx hbc hdg rfl (lv_at hl j hj) (k H locs ls hK hP hD hS hl)
set_option maxHeartbeats 400000 in
theorem b_istore1 (C : BX X own cc nL R0) {x : Int32} {lv' : List (Nat × Value)} (hdg : decode cc pc = .ok (.istore_n 1, 1)) (hn : 1 < nL) (hlv : (1, Value.int x) :: lv.filter (fun q => !(q.1 == 1) && !(q.1 + 1 == 1 && q.2.category == 2)) = lv') (k : BG l X tys ws cells slots (pc + 1) lv' st) : BG l X tys ws cells slots pc lv (.int x :: st) := by
  obtain ⟨p, e, R, s, m, args, below, meth, c, Q, nL', D, A⟩ := X
  obtain ⟨rfl, rfl, hx, hbc, hml, hown, hts, hnw, hA, hin, hao⟩ := C
  exact fun H locs ls hK hP hD hS hl => lv_istore_n hx hbc hdg rfl hl hn hlv (fun ls' hl' => k H locs ls' hK hP hD hS hl')
set_option maxHeartbeats 400000 in
theorem b_iinc (C : BX X own cc nL R0) {i j : Nat} {n : Int} {x v : Int32} {lv' : List (Nat × Value)} (hdg : decode cc pc = .ok (.iinc i n, 3)) (hk : lv[j]? = some (i, .int x)) (hv : x + Int32.ofInt n = v) (hn : i < nL) (hlv : (i, Value.int v) :: lv.filter (fun q => !(q.1 == i) && !(q.1 + 1 == i && q.2.category == 2)) = lv') (k : BG l X tys ws cells slots (pc + 3) lv' st) : BG l X tys ws cells slots pc lv st := by
  obtain ⟨p, e, R, s, m, args, below, meth, c, Q, nL', D, A⟩ := X
  obtain ⟨rfl, rfl, hx, hbc, hml, hown, hts, hnw, hA, hin, hao⟩ := C
  exact fun H locs ls hK hP hD hS hl => lv_iinc hx hbc hdg hl (k := j) hk hv hn hlv (fun ls' hl' => k H locs ls' hK hP hD hS hl')
set_option maxHeartbeats 400000 in
theorem b_goto (C : BX X own cc nL R0) {off : Int} {tgt : Nat} (hdg : decode cc pc = .ok (.goto off, 3)) (ht : (pc : Int) + off = (tgt : Int)) (k : BG l X tys ws cells slots tgt lv st) : BG l X tys ws cells slots pc lv st := by
  obtain ⟨p, e, R, s, m, args, below, meth, c, Q, nL', D, A⟩ := X
  obtain ⟨rfl, rfl, hx, hbc, hml, hown, hts, hnw, hA, hin, hao⟩ := C
  exact fun H locs ls hK hP hD hS hl => lv_goto hx hbc hdg ht (k H locs ls hK hP hD hS hl)
set_option maxHeartbeats 400000 in
theorem b_geN (C : BX X own cc nL R0) {x y : Int32} {off : Int} {tgt : Nat} (hdg : decode cc pc = .ok (.if_icmp .ge off, 3)) (ht : (pc : Int) + off = (tgt : Int)) (hc : ¬ y ≤ x) (k : BG l X tys ws cells slots (pc + 3) lv st) : BG l X tys ws cells slots pc lv (.int y :: .int x :: st) := by
  obtain ⟨p, e, R, s, m, args, below, meth, c, Q, nL', D, A⟩ := X
  obtain ⟨rfl, rfl, hx, hbc, hml, hown, hts, hnw, hA, hin, hao⟩ := C
  exact fun H locs ls hK hP hD hS hl => lv_icmp_ge hx hbc hdg ht (fun q => absurd q hc) (fun _ => k H locs ls hK hP hD hS hl)
set_option maxHeartbeats 400000 in
theorem b_geY (C : BX X own cc nL R0) {x y : Int32} {off : Int} {tgt : Nat} (hdg : decode cc pc = .ok (.if_icmp .ge off, 3)) (ht : (pc : Int) + off = (tgt : Int)) (hc : y ≤ x) (k : BG l X tys ws cells slots tgt lv st) : BG l X tys ws cells slots pc lv (.int y :: .int x :: st) := by
  obtain ⟨p, e, R, s, m, args, below, meth, c, Q, nL', D, A⟩ := X
  obtain ⟨rfl, rfl, hx, hbc, hml, hown, hts, hnw, hA, hin, hao⟩ := C
  exact fun H locs ls hK hP hD hS hl => lv_icmp_ge hx hbc hdg ht (fun _ => k H locs ls hK hP hD hS hl) (fun q => absurd hc q)
set_option maxHeartbeats 400000 in
theorem b_getf (C : BX X own cc nL R0) {a ci j i N q0 : Nat} {Cn : String} {T : u_T} {fs : List Value} {v : Value} (hcl : vwCl[ci]? = some (Cn, T, N)) (hin : ∀ w ∈ u_ws Cn T N, w ∈ TB) (he : ws[q0]? = some (a, .inr (ci, fs))) (hj : j < N) (hv : fs[j]? = some v) (hw : Cond.fieldLink own i (T j).1 (T j).2.1 (T j).2.2.1 ∈ TB) (hdg : decode cc pc = .ok (.getfield i, 3)) (k : BG l X tys ws cells slots (pc + 3) lv (v :: st)) : BG l X tys ws cells slots pc lv (.ref a :: st) := by
  obtain ⟨p, e, R, s, m, args, below, meth, c, Q, nL', D, A⟩ := X
  obtain ⟨rfl, rfl, hx, hbc, hml, hown, hts, hnw, hA, hin2, hao⟩ := C
  exact fun H locs ls hK hP hD hS hl => va_get hx hbc hts hin hown hK hP q0 he hcl j hj (hts _ hw) (fun _ h9 => h9) hv hdg (k H locs ls hK hP hD hS hl)
set_option maxHeartbeats 400000 in
theorem b_alen (C : BX X own cc nL R0) {a q0 t0 : Nat} {cA : ClassId} {x : vp_A} (ha : ws[q0]? = some (a, .inl (cA, x))) {ty : FieldType} (ht : tys[t0]? = some (cA, ty)) {v : Int32} (hv : Int32.ofNat x.1 = v) (hdg : decode cc pc = .ok (.arraylength, 1)) (k : BG l X tys ws cells slots (pc + 1) lv (.int v :: st)) : BG l X tys ws cells slots pc lv (.ref a :: st) := by
  obtain ⟨p, e, R, s, m, args, below, meth, c, Q, nL', D, A⟩ := X
  obtain ⟨rfl, rfl, hx, hbc, hml, hown, hts, hnw, hA, hin, hao⟩ := C
  exact fun H locs ls hK hP hD hS hl => va_alen hx hbc hK hP q0 t0 ha ht hv hdg (k H locs ls hK hP hD hS hl)
set_option maxHeartbeats 400000 in
theorem b_newV (C : BX X own cc nL R0) {n : Int32} {N i : Nat} (hcl : Cond.classLink own i RX3 ∈ TB) (hdg : decode cc pc = .ok (.anewarray i, 3)) (hn : ¬ n < 0) (hN : n.toNatClampNeg = N) (hb : N ≤ 1000) (hc : cells + 1 ≤ R0.cells) (hs : slots + N ≤ R0.slots) (k : ∀ (q : Nat) (cA : ClassId), BG l X (tys ++ [(cA, .object RX3)]) (ws ++ [(q, .inl (cA, N, .inr (.inr (.inr (.inr (fun _ => none))))))]) (cells + 1) (slots + N) (pc + 3) lv (.ref q :: st)) : BG l X tys ws cells slots pc lv (.int n :: st) := by
  obtain ⟨p, e, R, s, m, args, below, meth, c, Q, nL', D, A⟩ := X
  obtain ⟨rfl, rfl, hx, hbc, hml, hown, hts, hnw, hA, hin, hao⟩ := C
  exact fun H locs ls hK hP hD hS hl => va_newq (C := RX3) hx hbc hown (hts _ hcl) hao hK hP hD hS hA hn hN (by omega) hc hs hdg (fun q cA H1 hK1 hP1 hD1 hS1 => k q cA H1 locs ls hK1 hP1 hD1 hS1 hl)
set_option maxHeartbeats 400000 in
theorem b_aast (C : BX X own cc nL R0) {q0 t0 qk a n v : Nat} {cA : ClassId} {vs : List Value} {f : Nat → Option Nat} {i : Int32} (ha : ws[q0]? = some (a, .inl (cA, n, .inr (.inr (.inr (.inr f)))))) (ht : tys[t0]? = some (cA, .object RX3)) (hv : ws[qk]? = some (v, .inr (3, vs))) (hin : vp_in i n) (hdg : decode cc pc = .ok (.aastore, 1)) (k : BG l X tys (ws.set q0 (a, .inl (cA, n, .inr (.inr (.inr (.inr (va_up f i.toNatClampNeg (some v)))))))) cells slots (pc + 1) lv st) : BG l X tys ws cells slots pc lv (.ref v :: .int i :: .ref a :: st) := by
  obtain ⟨p, e, R, s, m, args, below, meth, c, Q, nL', D, A⟩ := X
  obtain ⟨rfl, rfl, hx, hbc, hml, hown, hts, hnw, hA, hin2, hao⟩ := C
  exact fun H locs ls hK hP hD hS hl => va_astq (r := (RX3, TX3, 9)) hx hbc hK hP hD hS q0 t0 qk 3 ha ht hv rfl hin hdg (fun H1 locs1 hP1 hD1 hS1 => k H1 locs1 ls hK hP1 hD1 hS1 hl)
set_option maxHeartbeats 400000 in
theorem b_objInit (C : BX X own cc nL R0) {a i : Nat} (w1 : Cond.methodLink own i Lib.objectInit ∈ TB) (w2 : Cond.instanceMethod Lib.objectInit ∈ TB) (w3 : Cond.code Lib.objectInit ⟨#[0xb1]⟩ 1 none ∈ TB) (hdg : decode cc pc = .ok (.invokespecial i, 3)) (hf : 1 ≤ R0.frames) (hlo : (st.map fun v => v.category).sum + 12 ≤ R0.locals) (k : BG l X tys ws cells slots (pc + 3) lv st) : BG l X tys ws cells slots pc lv (.ref a :: st) := by
  obtain ⟨p, e, R, s, m, args, below, meth, c, Q, nL', D, A⟩ := X
  obtain ⟨rfl, rfl, hx, hbc, hml, hown, hts, hnw, hA, hin, hao⟩ := C
  exact fun H locs ls hK hP hD hS hl => W.objInit hx hbc hown (hts _ w1) (hts _ w2) (hts _ w3) rfl (by rw [hml]; exact hl.1) rfl hdg hf (by show 2 * 0 + (st.map fun v => v.category).sum + 12 ≤ R.locals; omega) (k H locs ls hK hP hD hS hl)
-- what a constructor leaves: its world
abbrev TW : Type := List (ClassId × FieldType) × va_W
def QI (D : va_G) (A : Nat → Prop) (Post : TW → Prop) : Array Value → State → Outcome → State → Prop := va_Qv Post (fun u t => va_P D vwCl u.2 t.heap ∧ va_K D vwCl u.1 t ∧ va_D A u.2) A
def PI (D : va_G) (a sz ci : Nat) (fs0 : List Value) : Array Value → State → Prop := va_Pc [.ref a] (fun U => U.heap.size = sz ∧ va_P D vwCl [(a, .inr (ci, fs0))] U.heap ∧ va_K D vwCl [] U ∧ (∀ w ∈ NWL, va_Nw w U) ∧ va_AO RX3 U ∧ va_D (fun _ => True) [(a, .inr (ci, fs0))])
def IN (l : Launch) (D : va_G) (y : MethodName) (cc : ByteArray) (maxL : Nat) (R0 : Room) (ci : Nat) (fs0 : List Value) (Post : Nat → TW → Prop) : Prop := ∀ a sz : Nat, Met l y (Cond.code y cc maxL none :: TB) R0 (PI D a sz ci fs0) (QI D (va_A [(a, .inr (ci, fs0))] sz) (Post a)) R0.cells R0.slots (va_A [(a, .inr (ci, fs0))] sz)
def BR (X : Fy) (R0 : Room) (Post : TW → Prop) : Prop := match X with
  | (p, e, R, s, m, args, below, meth, c, Q, nL', D, A) => Q = MQ below (QI D A Post) args s R0.cells R0.slots A ∧ meth.sig.returnType = none ∧ meth.locks = false
set_option maxHeartbeats 400000 in
theorem IN.of {D : va_G} {y : MethodName} {maxL ci : Nat} {fs0 : List Value} {Post : Nat → TW → Prop} (hy : plainName y.cls = true) (hn : y.name = "<init>") (hm : 1 ≤ maxL) (body : ∀ (a : Nat) (X : Fy), BX X y.cls cc maxL R0 → BR X R0 (Post a) → X.2.2.2.2.2.2.2.2.2.2.2.1 = D → BG l X [] [(a, .inr (ci, fs0))] 0 0 0 [(0, .ref a)] []) : IN l D y cc maxL R0 ci fs0 Post := by
  intro a sz
  refine Met.ofW (cc := cc) (maxL := maxL) (ret := none) hy rfl ?_
  intro p e s m args below meth c s₁ B hml hv
  obtain ⟨rfl, hsz, hP, hK, hN, hO, hD0⟩ := hv
  have hts := atoms_spec (ws := Cond.code y cc maxL none :: TB) B.pre
  have hl := lv_entry [Value.ref a] (n := maxL) (by show 1 ≤ maxL; exact hm)
  have hin : meth.name = "<init>" := by rw [(name_of_methodNamed B.named B.method).1]; exact hn
  subst hsz
  rw [lg_entry_eq]
  exact body a (p, e, R0, s, m, [Value.ref a].toArray, below, meth, c, MQ below (QI D (va_A [(a, .inr (ci, fs0))] s.heap.size) (Post a)) [Value.ref a].toArray s R0.cells R0.slots (va_A [(a, .inr (ci, fs0))] s.heap.size), maxL, D, va_A [(a, .inr (ci, fs0))] s.heap.size) ⟨rfl, rfl, B.exec, B.bytes, hml, findClass_of_methodNamed B.named, fun w hw => hts w (List.mem_cons_of_mem _ hw), hN, fun q hq => Or.inr hq, hin, hO⟩ ⟨rfl, B.returns, B.notSynchronized⟩ rfl s.heap [] _ hK hP hD0.self va_S.rf hl
set_option maxHeartbeats 400000 in
theorem b_vret (C : BX X own cc nL R0) {Post : TW → Prop} (Rt : BR X R0 Post) (hdg : decode cc pc = .ok (.return_, 1)) (hp : Post (tys, ws)) (hc : cells ≤ R0.cells) (hs : slots ≤ R0.slots) : BG l X tys ws cells slots pc lv [] := by
  obtain ⟨p, e, R, s, m, args, below, meth, c, Q, nL', D, A⟩ := X
  obtain ⟨rfl, rfl, hx, hbc, hml, hown, hts, hnw, hA, hin, hao⟩ := C
  obtain ⟨rfl, hr, hlocks⟩ := Rt
  exact fun H locs ls hK hP hD hS hl => W.widen hc hs (W.vret hx hbc hr (fun t ht hW => ⟨⟨(tys, ws), rfl, hp, by rw [ht]; exact hP, va_K.moved hW.alike hK, hD⟩, hS.F ht⟩) hS.2.2 hdg hlocks)
set_option maxHeartbeats 400000 in
theorem pi_blind {D : va_G} {a sz ci : Nat} {fs0 : List Value} : FrameBlind (PI D a sz ci fs0) := fun a' U g mk q => by
  obtain ⟨q0, q1, qP, qK, qN, qO, qD⟩ := q
  exact ⟨q0, q1, qP, va_K.moved (u := U) (U := U.calling g mk a') (Vm.Alike.refl U.vm) qK, fun w hw => by
    have h1 := (List.mem_filter.mp hw).2
    have hz := qN w hw
    cases w <;> first | (simp [isNest] at h1; done) | exact va_Nw.same rfl rfl hz, va_AO.moved (u := U) (U := U.calling g mk a') (Vm.Alike.refl U.vm) qO, qD⟩
set_option maxHeartbeats 400000 in
theorem b_callN (C : BX X own cc nL R0) {y : MethodName} {cd : ByteArray} {mL i n q ci : Nat} {R1 : Room} {fs0 : List Value} {Post : Nat → TW → Prop} {wr : va_W} {host : String} (hM : IN l X.2.2.2.2.2.2.2.2.2.2.2.1 y cd mL R1 ci fs0 Post) (isR : List Nat) (hR : isR.map (fun i => ws[i]?) = wr.map some) (hnd : va_nd isR = true) (hn : ws[n]? = some (q, .inr (ci, fs0))) (hdis : ∀ i ∈ isR, i ∉ [n]) (hl : Cond.methodLinkNest own i y host ∈ NWL) (m1 : Cond.instanceMethod y ∈ TB) (m3 : Cond.code y cd mL none ∈ TB) (m4 : Cond.initialized y.cls ∈ TB) (m5 : y.cls ≠ "java/lang/invoke/MethodHandle" ∧ y.cls ≠ "java/lang/invoke/VarHandle" ∧ (parseMethodDescriptor y.desc).map (fun d => d.parameters.length) = some 0) (m6 : y.name = "<init>") (hf : R1.frames + 1 ≤ R0.frames ∧ 8 + (mL + 11) + R1.locals ≤ R0.locals) (hcs : cells + R1.cells ≤ R0.cells ∧ slots + R1.slots ≤ R0.slots) (hst : (st.map fun v => v.category).sum ≤ 8) (hdg : decode cc pc = .ok (.invokespecial i, 3))
    (k : ∀ u : TW, Post q u → BG l X (tys ++ u.1) (wr ++ u.2) (cells + R1.cells) (slots + R1.slots) (pc + 3) lv st) : BG l X tys ws cells slots pc lv (.ref q :: st) := by
  obtain ⟨p, e, R, s, m, args, below, meth, c, Q, nL', D, A⟩ := X
  obtain ⟨rfl, rfl, hx, hbc, hml, hown, hts, hnw, hA, hin, hao⟩ := C
  intro H locs ls hK hP hD hS hl0
  have hC : [n].map (fun i => ws[i]?) = [(q, .inr (ci, fs0))].map some := by simp [hn]
  have hC2 : [n].filterMap (fun i => ws[i]?) = [(q, .inr (ci, fs0))] := by simp [hn]
  have hPc := hP.sub (ws' := [(q, .inr (ci, fs0))]) [n] hC2
  have hDc : va_D A [(q, .inr (ci, fs0))] := ⟨fun i j x y h1 h2 _ => by
    have z1 := (List.getElem?_eq_some_iff.mp h1).1
    have z2 := (List.getElem?_eq_some_iff.mp h2).1
    have z1' : i < 1 := z1
    have z2' : j < 1 := z2
    omega, fun i x h1 => by
    have z1 : i < 1 := (List.getElem?_eq_some_iff.mp h1).1
    rw [show i = 0 by omega] at h1
    cases h1
    exact hD.2 n _ hn⟩
  have hKc := hK.sub (tys' := []) [] rfl
  have hFc := va_free (wc := [(q, .inr (ci, fs0))]) hD hS hA [n] hC
  refine va_callv (va_runIN (As := []) (rest := st) ⟨hx, hbc, hml, hown, hts⟩ (hM q H.size) ⟨va_cnB 0 hts (good_code m3) rfl rfl rfl (hnw _ hl) (hts _ m4) m5 hf, m6, hts _ m1⟩ ⟨pi_blind, fun U hU hW => ⟨rfl, by rw [hU], by rw [hU]; exact hPc, va_K.moved hW.alike hKc, fun w hw => nw_warm hw hW (hnw w hw), va_AO.moved hW.alike hao, hDc.weaken (fun _ _ _ _ => trivial)⟩⟩ rfl rfl hl0.1 rfl (lv_room hst) hdg hcs) hS (fun q _ h => hFc q h) hFc (fun u t H1 locs1 ht hvm hw hB hz1 hk1 hS1 => ?_)
  obtain ⟨hP1, hK1, hD1⟩ := hB
  rw [ht] at hP1
  have hK1 := va_K.moved hvm.symm hK1
  obtain ⟨hP2, hD2⟩ := va_join (wr := wr) (w1 := u.2) hP hD [n] isR hC hR hnd hdis hk1 hFc hP1 hD1
  exact k u hw H1 locs1 ls (hK.app hK1) hP2 hD2 hS1 hl0
end MK
