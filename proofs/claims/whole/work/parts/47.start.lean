/-! the law's start: both are made -/
set_option maxHeartbeats 400000 in
theorem l_ctor {p : Program} {l : Launch} {e : Env} {R : Room} {s : State} {m : MethodId} {args : Array Value} {below : List Frame} {meth : Method} {c : Code} {Q : State → Prop} {cc : ByteArray} {nL : Nat} {own : String} {D : va_G} {A : Nat → Prop} {tys : List (ClassId × FieldType)} {wr : va_W} {H : Heap} {locs : List Loc} {cells slots pc : Nat} {ls : Array Slot} {st : List Value} {lv : List (Nat × Value)}
    (hx : p.tables.exec = Jvm.exec) (hbc : c.code = cc) (hml : c.maxLocals = nL) (hown : s.vm.findClass own = some m.cls) (hts : ∀ w ∈ TB, w.before args s = true) (hnw : ∀ w ∈ NWL, va_Nw w s) (hao : va_AO RX3 s) (hA : ∀ q, s.heap.size ≤ q → A q)
    {y : MethodName} {cd : ByteArray} {mL i q ci : Nat} {R1 : Room} {fs0 : List Value} {Post : Nat → TW → Prop} (hM : IN l D y cd mL R1 ci fs0 Post) (hl : Cond.methodLink own i y ∈ TB) (m1 : Cond.instanceMethod y ∈ TB) (m3 : Cond.code y cd mL none ∈ TB) (m4 : Cond.initialized y.cls ∈ TB) (m5 : y.cls ≠ "java/lang/invoke/MethodHandle" ∧ y.cls ≠ "java/lang/invoke/VarHandle" ∧ (parseMethodDescriptor y.desc).map (fun d => d.parameters.length) = some 0) (m6 : y.name = "<init>") (hf : R1.frames + 1 ≤ R.frames ∧ 8 + (mL + 11) + R1.locals ≤ R.locals) (hcs : cells + R1.cells ≤ R.cells ∧ slots + R1.slots ≤ R.slots) (hst : (st.map fun v => v.category).sum ≤ 8) (hdg : decode cc pc = .ok (.invokespecial i, 3))
    (hK : va_K D vwCl tys s) (hP : va_P D vwCl (wr ++ [(q, .inr (ci, fs0))]) H) (hD : va_D A (wr ++ [(q, .inr (ci, fs0))])) (hS : va_S A s.heap H locs) (hl0 : lv_has ls nL lv)
    (k : ∀ (u : TW) (H1 : Heap) (locs1 : List Loc), Post q u → va_K D vwCl (tys ++ u.1) s → va_P D vwCl (wr ++ u.2) H1 → va_D A (wr ++ u.2) → va_S A s.heap H1 locs1 → W p l e R s m args below meth c H1 locs1 (cells + R1.cells) (slots + R1.slots) Q (F0 m (pc + 3) ls st)) : W p l e R s m args below meth c H locs cells slots Q (F0 m pc ls (.ref q :: st)) := by
  have hn : (wr ++ [(q, .inr (ci, fs0))])[wr.length]? = some (q, (.inr (ci, fs0) : va_E)) := by simp
  have hC : [wr.length].map (fun i => (wr ++ [(q, (.inr (ci, fs0) : va_E))])[i]?) = [(q, (.inr (ci, fs0) : va_E))].map some := by simp
  have hC2 : [wr.length].filterMap (fun i => (wr ++ [(q, (.inr (ci, fs0) : va_E))])[i]?) = [(q, (.inr (ci, fs0) : va_E))] := by simp
  have hPc := hP.sub (ws' := [(q, .inr (ci, fs0))]) [wr.length] hC2
  have hDc : va_D A [(q, .inr (ci, fs0))] := ⟨fun i j x y h1 h2 _ => by
    have z1 := (List.getElem?_eq_some_iff.mp h1).1
    have z2 := (List.getElem?_eq_some_iff.mp h2).1
    have z1' : i < 1 := z1
    have z2' : j < 1 := z2
    omega, fun i x h1 => by
    have z1 : i < 1 := (List.getElem?_eq_some_iff.mp h1).1
    rw [show i = 0 by omega] at h1
    cases h1
    exact hD.2 wr.length _ hn⟩
  have hKc := hK.sub (tys' := []) [] rfl
  have hFc := va_free (wc := [(q, .inr (ci, fs0))]) hD hS hA [wr.length] hC
  refine va_callv (va_runI (As := []) (rest := st) ⟨hx, hbc, hml, hown, hts⟩ (hM q H.size) (cwI 0 hts (good_code m3) rfl rfl rfl (hts _ m4) (hts _ hl) (hts _ m1) m6 m5 hf) ⟨pi_blind, fun U hU hW => ⟨rfl, by rw [hU], by rw [hU]; exact hPc, va_K.moved hW.alike hKc, fun w hw => nw_warm hw hW (hnw w hw), va_AO.moved hW.alike hao, hDc.weaken (fun _ _ _ _ => trivial)⟩⟩ rfl rfl hl0.1 rfl (lv_room hst) hdg hcs) hS (fun q _ h => hFc q h) hFc (fun u t H1 locs1 ht hvm hw hB hz1 hk1 hS1 => ?_)
  obtain ⟨hP1, hK1, hD1⟩ := hB
  rw [ht] at hP1
  have hK1 := va_K.moved hvm.symm hK1
  obtain ⟨hP2, hD2⟩ := va_join (wr := wr) (w1 := u.2) hP hD [wr.length] (List.range wr.length) hC (app_at wr _) (nd_of _ List.nodup_range) (fun i hi h2 => by
    have h1 := List.mem_range.mp hi
    have h3 := List.mem_singleton.mp h2
    omega) hk1 hFc hP1 hD1
  exact k u H1 locs1 hw (hK.app hK1) hP2 hD2 hS1
set_option maxHeartbeats 400000 in
theorem nest_tab {w : Cond} (h : w ∈ NWL) : w.onTables = true := by
  have h1 := (List.mem_filter.mp h).2
  cases w <;> first | (simp [isNest] at h1; done) | rfl
set_option maxHeartbeats 400000 in
theorem know {args : Array Value} {s : State} (hts : ∀ w ∈ TB, w.before args s = true) : ∃ D : va_G, va_K D vwCl [] s := by
  obtain ⟨c0, i0, k0⟩ := u_known hts iX0 (hts (Cond.instantiable RX0 3) (tb_mem 134 (by decide +kernel) rfl))
  obtain ⟨c1, i1, k1⟩ := u_known hts iX1 (hts (Cond.instantiable RX1 3) (tb_mem 226 (by decide +kernel) rfl))
  obtain ⟨c2, i2, k2⟩ := u_known hts iX2 (hts (Cond.instantiable RX2 8) (tb_mem 189 (by decide +kernel) rfl))
  obtain ⟨c3, i3, k3⟩ := u_known hts iX3 (hts (Cond.instantiable RX3 9) (tb_mem 128 (by decide +kernel) rfl))
  obtain ⟨c4, i4, k4⟩ := u_known hts iX4 (hts (Cond.instantiable RX4 10) (tb_mem 120 (by decide +kernel) rfl))
  obtain ⟨c5, i5, k5⟩ := u_known hts iX5 (hts (Cond.instantiable RX5 39) (tb_mem 721 (by decide +kernel) rfl))
  refine ⟨(fun n => if n = 0 then c0 else if n = 1 then c1 else if n = 2 then c2 else if n = 3 then c3 else if n = 4 then c4 else c5, fun n => if n = 0 then i0 else if n = 1 then i1 else if n = 2 then i2 else if n = 3 then i3 else if n = 4 then i4 else i5), fun c q hq => ?_, fun k q hk => by cases hk⟩
  have hc : c < 6 := (List.getElem?_eq_some_iff.mp hq).1
  rcases (show c = 0 ∨ c = 1 ∨ c = 2 ∨ c = 3 ∨ c = 4 ∨ c = 5 by omega) with rfl | rfl | rfl | rfl | rfl | rfl
  · cases hq; exact k0
  · cases hq; exact k1
  · cases hq; exact k2
  · cases hq; exact k3
  · cases hq; exact k4
  · cases hq; exact k5
set_option maxHeartbeats 400000 in
theorem stat {b : Nat} {s : State} {n : String} (f : Nat → Int32) (hl : (Cond.laysStatic RX4 n "[I").before #[Value.ref b] s = true) (hini : (Cond.initialized RX4).before #[Value.ref b] s = true) (h1 : (Cond.arrayOf (.static RX4 n "[I") .int).before #[Value.ref b] s = true) (h2 : (Cond.eq (.length (.static RX4 n "[I")) (.int 4)).before #[Value.ref b] s = true) (h3 : ∀ j, j < 4 → (Cond.eq (.elem (.static RX4 n "[I") (.int (Int32.ofNat j))) (.int (f j))).before #[Value.ref b] s = true) : ∃ t : Nat, va_Z RX4 n "[I" (.ref t) (fun q => s.heap.size ≤ q) s s.heap ∧ va_T .int t 4 (fun j => .int (f j)) (fun q => s.heap.size ≤ q) s s.heap := by
  have hA : ∀ a : Nat, a < s.heap.size → ¬ (fun q => s.heap.size ≤ q) a := fun a h z => absurd h (Nat.not_lt.mpr z)
  obtain ⟨t, ht, hT⟩ := va_Tof (A := fun q => s.heap.size ≤ q) (f := fun j => .int (f j)) (N := 4) (by decide) h1 (va_eqt h2) (fun j hj => va_eqt (h3 j hj)) hA
  exact ⟨t, va_Zref hl hini ht hA, hT⟩
set_option maxHeartbeats 400000 in
theorem mE_S {Z : Zt} {s : State} (hK : va_K Z.1 vwCl (tT Z) s) (hD : va_D (fun q => s.heap.size ≤ q) (wT Z)) (hN : ∀ w ∈ NWL, va_Nw w s)
    (z1 : va_Z RX4 "SETTING_LEAST" "[I" (.ref (ad (mE Z) 138)) (fun q => s.heap.size ≤ q) s s.heap) (t1 : va_T .int (ad (mE Z) 138) 4 (fun j => .int (stc 138 j)) (fun q => s.heap.size ≤ q) s s.heap)
    (z2 : va_Z RX4 "SETTING_MOST" "[I" (.ref (ad (mE Z) 139)) (fun q => s.heap.size ≤ q) s s.heap) (t2 : va_T .int (ad (mE Z) 139) 4 (fun j => .int (stc 139 j)) (fun q => s.heap.size ≤ q) s s.heap) : Stt (mE Z) s :=
  ⟨hK.sub (tys' := []) [] rfl, fun k h1 h2 => mE_K hK h1 (by omega) (by rw [h2]; rfl), fun k h1 h2 => mE_K hK h1 (by omega) (by rw [h2]; rfl), fun k h1 h2 => mE_K hK h1 (by omega) (by rw [h2]; rfl), hN, mE_I hD, z1.narrow (fun _ h => mE_A hD h), t1.narrow (fun _ h => mE_A hD h), z2.narrow (fun _ h => mE_A hD h), t2.narrow (fun _ h => mE_A hD h)⟩
def s10 {α : Type} (x0 x1 x2 x3 x4 x5 x6 x7 x8 x9 : α) (n : Nat) : α := if n = 0 then x0 else if n = 1 then x1 else if n = 2 then x2 else if n = 3 then x3 else if n = 4 then x4 else if n = 5 then x5 else if n = 6 then x6 else if n = 7 then x7 else if n = 8 then x8 else x9
set_option maxHeartbeats 400000 in
theorem law_run {p : Program} {l : Launch} {e : Env} {s : State} {m : MethodId} {below : List Frame} {meth : Method} {c : Code} {H : Heap} {locs : List Loc} {cells slots b L : Nat} {xs : Nat → Int32} {ls : Array Slot} {Z : Zt} (hL : L ≤ 2048) (C0 : lw_At p s m meth c b L xs) (hts : ∀ w ∈ TB, w.before #[Value.ref b] s = true) (hc1 : cells ≤ 600000) (hc2 : slots ≤ 7302250) (hSt : Stt (mE Z) s) (hP : va_P Z.1 vwCl (wT Z) H) (hD : va_D (fun q => s.heap.size ≤ q) (wT Z)) (hS : va_S (fun q => s.heap.size ≤ q) s.heap H locs) (hl0 : lv_has ls 4 [(2, .ref (ad (mE Z) 120)), (1, .ref (ad (mE Z) 0)), (0, .ref b)]) : W p l e room_1 s m #[Value.ref b] below meth c H locs cells slots (lw_Z below #[Value.ref b] s) (F0 m 16 ls []) := by
  obtain ⟨hx, hbc, hr, hml, hown, hts0, hX, hbl, hlk, hgv⟩ := C0
  have C : CX (mE Z) (p, e, room_1, s, m, #[Value.ref b], below, meth, c, (cells, slots), lw_Z below #[Value.ref b] s, 4) RL cL_law 4 20 := ⟨rfl, hx, hbc, hml, hown, hts, hSt, hc1, hc2, Nat.le_of_ble_eq_true rfl, Nat.le_of_ble_eq_true rfl⟩
  have hR : RTL (mE Z) (p, e, room_1, s, m, #[Value.ref b], below, meth, c, (cells, slots), lw_Z below #[Value.ref b] s, 4) := ⟨rfl, ⟨b, rfl⟩, rfl, hr, hlk, hc1, hc2, fun q h => mE_A hD h⟩
  have hC : SC (mE Z) (p, e, room_1, s, m, #[Value.ref b], below, meth, c, (cells, slots), lw_Z below #[Value.ref b] s, 4) b L xs := ⟨hX, hbl, fun h => absurd hbl (Nat.not_lt.mpr (mE_A hD h))⟩
  have hG := g_iconst (l := l) (h := h00) (lv := [(2, .ref (ad (mE Z) 120)), (1, .ref (ad (mE Z) 0)), (0, .ref b)]) (st := []) (v := nI 0) C dL_law_16 rfl (g_istore_n (lv' := LVX (mE Z) b 0) C dL_law_17 rfl (by decide) rfl (law_loop C hR hC hL L 0 0 h00 X00 X00 gi_0 (by omega) (by omega) (by omega)))
  exact va_forget hS.2.2 (hG H [] ls (mE_P hP) ⟨hS.1, fun q h1 h2 => hS.2.1 q h1 (fun z => absurd h1 (Nat.not_lt.mpr z)), fun _ h => by cases h⟩ hl0)
set_option maxHeartbeats 400000 in
theorem le4 {b : Nat} {s : State} (hs : ∀ w ∈ flatC (Jvm.Cond.and given_1 narrow_1), w.before #[Value.ref b] s = true) (j : Nat) (hj : j < 4) : (Cond.eq (.elem (.static RX4 "SETTING_LEAST" "[I") (.int (Int32.ofNat j))) (.int (stc 138 j))).before #[Value.ref b] s = true := by
  rcases (show j = 0 ∨ j = 1 ∨ j = 2 ∨ j = 3 by omega) with rfl | rfl | rfl | rfl
  · exact hs (Cond.eq (.elem (.static RX4 "SETTING_LEAST" "[I") (.int 0)) (.int 0)) (by decide +kernel)
  · exact hs (Cond.eq (.elem (.static RX4 "SETTING_LEAST" "[I") (.int 1)) (.int 1)) (by decide +kernel)
  · exact hs (Cond.eq (.elem (.static RX4 "SETTING_LEAST" "[I") (.int 2)) (.int 0)) (by decide +kernel)
  · exact hs (Cond.eq (.elem (.static RX4 "SETTING_LEAST" "[I") (.int 3)) (.int 0)) (by decide +kernel)
set_option maxHeartbeats 400000 in
theorem mo4 {b : Nat} {s : State} (hs : ∀ w ∈ flatC (Jvm.Cond.and given_1 narrow_1), w.before #[Value.ref b] s = true) (j : Nat) (hj : j < 4) : (Cond.eq (.elem (.static RX4 "SETTING_MOST" "[I") (.int (Int32.ofNat j))) (.int (stc 139 j))).before #[Value.ref b] s = true := by
  rcases (show j = 0 ∨ j = 1 ∨ j = 2 ∨ j = 3 by omega) with rfl | rfl | rfl | rfl
  · exact hs (Cond.eq (.elem (.static RX4 "SETTING_MOST" "[I") (.int 0)) (.int 5)) (by decide +kernel)
  · exact hs (Cond.eq (.elem (.static RX4 "SETTING_MOST" "[I") (.int 1)) (.int 5)) (by decide +kernel)
  · exact hs (Cond.eq (.elem (.static RX4 "SETTING_MOST" "[I") (.int 2)) (.int 5)) (by decide +kernel)
  · exact hs (Cond.eq (.elem (.static RX4 "SETTING_MOST" "[I") (.int 3)) (.int 99)) (by decide +kernel)
-- the law from its entry
set_option maxRecDepth 20000 in
set_option maxHeartbeats 400000 in
theorem whole_start {p : Program} {e : Env} {s : State} {m : MethodId} {below : List Frame} {meth : Method} {c : Code} (l : Launch) (hflags : l.flags = flags0) {b L : Nat} {xs : Nat → Int32} (hL : L ≤ 2048) (C0 : lw_At p s m meth c b L xs) : W p l e room_1 s m #[Value.ref b] below meth c s.heap [] 0 0 (lw_Z below #[Value.ref b] s) (entryFrame m ([Value.ref b] : List Value).toArray 4) := by
  have C1 := C0
  obtain ⟨hx, hbc, hr, hml, hown, hts0, hX, hbl, hlk, hgv⟩ := C1
  have hts : ∀ w ∈ TB, w.before #[Value.ref b] s = true := fun w hw => hts0 w (tb_tbl hw)
  have hnw : ∀ w ∈ NWL, va_Nw w s := fun w hw => va_Nw.of (nest_tab hw) (hts0 w (List.mem_filter.mp hw).1)
  have hao : va_AO RX3 s := va_AO.of (hts0 (Cond.arrayOver (.object RX3)) (List.mem_of_getElem? (i := 195) (by decide +kernel)))
  have hs := flat_of_before _ hgv
  have hini : (Cond.initialized RX4).before #[Value.ref b] s = true := hts _ (tb_mem 110 (by decide +kernel) rfl)
  obtain ⟨s1, z1, t1⟩ := stat (stc 138) (hts0 (Cond.laysStatic RX4 "SETTING_LEAST" "[I") (List.mem_of_getElem? (i := 347) (by decide +kernel))) hini (hs (Cond.arrayOf (.static RX4 "SETTING_LEAST" "[I") .int) (by decide +kernel)) (hs (Cond.eq (.length (.static RX4 "SETTING_LEAST" "[I")) (.int 4)) (by decide +kernel)) (le4 hs)
  obtain ⟨s2, z2, t2⟩ := stat (stc 139) (hts0 (Cond.laysStatic RX4 "SETTING_MOST" "[I") (List.mem_of_getElem? (i := 349) (by decide +kernel))) hini (hs (Cond.arrayOf (.static RX4 "SETTING_MOST" "[I") .int) (by decide +kernel)) (hs (Cond.eq (.length (.static RX4 "SETTING_MOST" "[I")) (.int 4)) (by decide +kernel)) (mo4 hs)
  obtain ⟨D, hK⟩ := know hts
  have hA : ∀ q : Nat, s.heap.size ≤ q → (fun q => s.heap.size ≤ q) q := fun _ h => h
  have hP0 : va_P D vwCl [] s.heap := fun k q hk => by cases hk
  have hD0 : va_D (fun q => s.heap.size ≤ q) [] := ⟨fun i j x y h1 => (by cases h1), fun k q hk => (by cases hk)⟩
  have hl := lv_entry [Value.ref b] (n := 4) (Nat.le_of_ble_eq_true rfl)
  rw [lg_entry_eq]
  generalize (lg_sl ([Value.ref b]) ++ List.replicate (4 - (lg_sl ([Value.ref b])).length) Slot.unset).toArray = ls at hl ⊢
  have hl : lv_has ls 4 [(0, .ref b)] := hl
  refine va_new (A := fun q => s.heap.size ≤ q) (H0 := s.heap) (ws := []) (D := D) (cl := vwCl) (tys := []) (ci := 4) (fs := [.null, .null, .null, .null, .null, .null, .null, .null, .int 0, .int 0]) (T := TX4) (N := 10) hx hbc hts iX4 tyX4 tyX4_ok hown (hts (Cond.classLink RL 7 RX4) (tb_mem 119 (by decide +kernel) rfl)) (hts (Cond.instantiable RX4 10) (tb_mem 120 (by decide +kernel) rfl)) hini hK hP0 hD0 va_S.rf hA rfl (by intro j hj; rcases (show j = 0 ∨ j = 1 ∨ j = 2 ∨ j = 3 ∨ j = 4 ∨ j = 5 ∨ j = 6 ∨ j = 7 ∨ j = 8 ∨ j = 9 by omega) with rfl | rfl | rfl | rfl | rfl | rfl | rfl | rfl | rfl | rfl <;> rfl) (Nat.le_of_ble_eq_true rfl) (Nat.le_of_ble_eq_true rfl) dL_law_0 (fun q4 H1 hP1 hD1 hS1 => ?_)
  refine lv_dup hx hbc dL_law_3 rfl ?_
  refine l_ctor (wr := []) hx hbc hml hown hts hnw hao hA (i_X4 l D) (show Cond.methodLink RL 9 yX4_init ∈ TB from tb_mem 121 (by decide +kernel) rfl) (show Cond.instanceMethod yX4_init ∈ TB from tb_mem 122 (by decide +kernel) rfl) (show Cond.code yX4_init cX4_init 1 none ∈ TB from tb_mem 123 (by decide +kernel) rfl) (show Cond.initialized RX4 ∈ TB from tb_mem 110 (by decide +kernel) rfl) ⟨by decide, by decide, by decide +kernel⟩ rfl ⟨Nat.le_of_ble_eq_true rfl, Nat.le_of_ble_eq_true rfl⟩ ⟨Nat.le_of_ble_eq_true rfl, Nat.le_of_ble_eq_true rfl⟩ (Nat.le_of_ble_eq_true rfl) dL_law_4 hK hP1 hD1 hS1 hl (fun u4 H2 locs2 hu4 hK2 hP2 hD2 hS2 => ?_)
  refine lv_astore_n (i := 1) (lv' := [(1, .ref q4), (0, .ref b)]) hx hbc dL_law_7 rfl hl (by decide) rfl (fun ls2 hl2 => ?_)
  refine va_new (ci := 5) (fs := [.int 0, .int 0, .int 0, .int 0, .int 0, .int 0, .null, .null, .null, .null, .null, .null, .int 0, .int 0, .null, .null, .null, .int 0, .int 0, .null, .null, .int 0, .int 0, .int 0, .int 0, .null, .null, .null, .int 0, .null, .int 0, .int 0, .int 0, .null, .int 0, .int 0, .int 0, .null, .null]) (T := TX5) (N := 39) hx hbc hts iX5 tyX5 tyX5_ok hown (hts (Cond.classLink RL 10 RX5) (tb_mem 720 (by decide +kernel) rfl)) (hts (Cond.instantiable RX5 39) (tb_mem 721 (by decide +kernel) rfl)) (hts (Cond.initialized RX5) (tb_mem 115 (by decide +kernel) rfl)) hK2 hP2 hD2 hS2 hA rfl (by intro j hj; rcases (show j = 0 ∨ j = 1 ∨ j = 2 ∨ j = 3 ∨ j = 4 ∨ j = 5 ∨ j = 6 ∨ j = 7 ∨ j = 8 ∨ j = 9 ∨ j = 10 ∨ j = 11 ∨ j = 12 ∨ j = 13 ∨ j = 14 ∨ j = 15 ∨ j = 16 ∨ j = 17 ∨ j = 18 ∨ j = 19 ∨ j = 20 ∨ j = 21 ∨ j = 22 ∨ j = 23 ∨ j = 24 ∨ j = 25 ∨ j = 26 ∨ j = 27 ∨ j = 28 ∨ j = 29 ∨ j = 30 ∨ j = 31 ∨ j = 32 ∨ j = 33 ∨ j = 34 ∨ j = 35 ∨ j = 36 ∨ j = 37 ∨ j = 38 by omega) with rfl | rfl | rfl | rfl | rfl | rfl | rfl | rfl | rfl | rfl | rfl | rfl | rfl | rfl | rfl | rfl | rfl | rfl | rfl | rfl | rfl | rfl | rfl | rfl | rfl | rfl | rfl | rfl | rfl | rfl | rfl | rfl | rfl | rfl | rfl | rfl | rfl | rfl | rfl <;> rfl) (Nat.le_of_ble_eq_true rfl) (Nat.le_of_ble_eq_true rfl) dL_law_8 (fun q5 H3 hP3 hD3 hS3 => ?_)
  refine lv_dup hx hbc dL_law_11 rfl ?_
  refine l_ctor hx hbc hml hown hts hnw hao hA (i_X5 l D) (show Cond.methodLink RL 12 yX5_init ∈ TB from tb_mem 722 (by decide +kernel) rfl) (show Cond.instanceMethod yX5_init ∈ TB from tb_mem 723 (by decide +kernel) rfl) (show Cond.code yX5_init cX5_init 1 none ∈ TB from tb_mem 724 (by decide +kernel) rfl) (show Cond.initialized RX5 ∈ TB from tb_mem 115 (by decide +kernel) rfl) ⟨by decide, by decide, by decide +kernel⟩ rfl ⟨Nat.le_of_ble_eq_true rfl, Nat.le_of_ble_eq_true rfl⟩ ⟨Nat.le_of_ble_eq_true rfl, Nat.le_of_ble_eq_true rfl⟩ (Nat.le_of_ble_eq_true rfl) dL_law_12 hK2 hP3 hD3 hS3 hl2 (fun u5 H4 locs4 hu5 hK4 hP4 hD4 hS4 => ?_)
  refine lv_astore_n (i := 2) (lv' := [(2, .ref q5), (1, .ref q4), (0, .ref b)]) hx hbc dL_law_15 rfl hl2 (by decide) rfl (fun ls3 hl3 => ?_)
  obtain ⟨b1, v1, b2, v2, b3, v3, b4, v4, b5, v5, q7, c7, q8, c8, q9, c9, p1, p2, p3, p4, p5, rfl⟩ := hu4
  obtain ⟨f0, g0, rfl, rfl⟩ := to_X3 p1
  obtain ⟨f1, g1, rfl, rfl⟩ := to_X3 p2
  obtain ⟨f2, g2, rfl, rfl⟩ := to_X3 p3
  obtain ⟨q1, c1, q2, c2, q3, c3, w0, x0, w1, x1, w2, x2, w3, x3, w4, x4, w5, x5, w6, x6, r0, r1, r2, r3, r4, r5, r6, rfl⟩ := p4
  obtain ⟨f3, g3, rfl, rfl⟩ := to_X3 r0
  obtain ⟨f4, g4, rfl, rfl⟩ := to_X3 r1
  obtain ⟨f5, g5, rfl, rfl⟩ := to_X3 r2
  obtain ⟨f6, g6, rfl, rfl⟩ := to_X3 r3
  obtain ⟨f7, g7, rfl, rfl⟩ := to_X3 r4
  obtain ⟨f8, g8, rfl, rfl⟩ := to_X3 r5
  obtain ⟨f9, g9, rfl, rfl⟩ := to_X3 r6
  obtain ⟨fl, gl, rfl, rfl⟩ := to_X1 p5
  obtain ⟨fr, gr, rfl, rfl⟩ := to_X5 hu5
  have hP5 : va_P (((D, (q4, q7, q8, q9, s1, s2), (b4, q1, q2, q3), s10 f0 f1 f2 f3 f4 f5 f6 f7 f8 f9, s10 g0 g1 g2 g3 g4 g5 g6 g7 g8 g9, fl, gl, fr, gr, (c7, c8, c9), (c1, c2, c3)) : Zt)).1 vwCl (wT (D, (q4, q7, q8, q9, s1, s2), (b4, q1, q2, q3), s10 f0 f1 f2 f3 f4 f5 f6 f7 f8 f9, s10 g0 g1 g2 g3 g4 g5 g6 g7 g8 g9, fl, gl, fr, gr, (c7, c8, c9), (c1, c2, c3))) H4 := hP4
  have hD5 : va_D (fun q => s.heap.size ≤ q) (wT (D, (q4, q7, q8, q9, s1, s2), (b4, q1, q2, q3), s10 f0 f1 f2 f3 f4 f5 f6 f7 f8 f9, s10 g0 g1 g2 g3 g4 g5 g6 g7 g8 g9, fl, gl, fr, gr, (c7, c8, c9), (c1, c2, c3))) := hD4
  have hK5 : va_K (((D, (q4, q7, q8, q9, s1, s2), (b4, q1, q2, q3), s10 f0 f1 f2 f3 f4 f5 f6 f7 f8 f9, s10 g0 g1 g2 g3 g4 g5 g6 g7 g8 g9, fl, gl, fr, gr, (c7, c8, c9), (c1, c2, c3)) : Zt)).1 vwCl (tT (D, (q4, q7, q8, q9, s1, s2), (b4, q1, q2, q3), s10 f0 f1 f2 f3 f4 f5 f6 f7 f8 f9, s10 g0 g1 g2 g3 g4 g5 g6 g7 g8 g9, fl, gl, fr, gr, (c7, c8, c9), (c1, c2, c3))) s := hK4
  exact law_run hL C0 hts (Nat.le_of_ble_eq_true rfl) (Nat.le_of_ble_eq_true rfl) (mE_S hK5 hD5 hnw z1 t1 z2 t2) hP5 hD5 hS4 hl3
