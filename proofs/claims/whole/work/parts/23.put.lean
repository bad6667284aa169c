/-! PURE: put, set, rest -/
section PU
variable {h h' h1 h2 : Hp} {k : Nat} {X Y : St}
set_option maxHeartbeats 400000 in
theorem len_a : len 123 = 6 ∧ len 124 = 6 ∧ len 125 = 6 ∧ len 14 = 6 ∧ len 15 = 6 ∧ len 13 = 6 := ⟨rfl, rfl, rfl, rfl, rfl, rfl⟩
-- one field of one of the people is put anew
set_option maxHeartbeats 400000 in
theorem s_fld {CL MO : Hp → Option (Int32 × Hp)} (g : Gi k h X Y) (hk : k ≤ 900) {c d p v : Nat} (hp : p < X.1 0 0) (hcd : (c = 4 ∧ d = 125 ∧ v ≤ 9999) ∨ (c = 5 ∧ d = 123 ∧ v ≤ 99) ∨ (c = 3 ∧ d = 124 ∧ (v = 9 ∨ v < X.1 0 0)))
    (hc : CL h = some (nI (X.1 c p), wI h (10 + c) p (nI v))) (hm : ∀ h1, MR (th h1) X → MO h1 = some (nI (X.1 c p), wI (th h1) d p (nI v))) : Res k h CL MO := by
  refine s_do g hk (X' := (up1 X.1 c p v, X.2)) hc (g.2.1.fld (by omega) (by omega)) (VF.wI h p (nI v) (by omega) (by omega)) ((Iv_fld g.1 hp (by omega)).mono (by omega) (by omega)) (fun m => ⟨_, hm _ m, m.fld (by omega), RF.wI _ _ _ (by omega)⟩)
set_option maxHeartbeats 400000 in
theorem m_put104 (hm : MR h X) {p n : Nat} (hp : p < 6) (x2 : Int32) (hn : n < 2 ^ 31) {hi : Nat} (hhi : hi < 2 ^ 31) (hle : n ≤ hi) (hx : x2 = nI 0 ∨ x2 = nI 1) : b_X5_put_104 h 120 (nI p) x2 (nI n) (nI n) (nI hi) = some (if x2 = nI 0 then nI (X.1 4 p) else nI (X.1 5 p), if x2 = nI 0 then wI h 125 p (nI n) else wI h 123 p (nI n)) := by
  have e4 : h.1 125 p = nI (X.1 4 p) := (hm.2.1 p hp).2.2.2.2
  have e5 : h.1 123 p = nI (X.1 5 p) := (hm.2.1 p hp).2.2.1
  unfold b_X5_put_104 b_X5_put_142 b_X5_put_163 b_X5_put_184
  rw [if_pos ((nI_leI hn hhi).mpr hle), mf10, mf8, ldI_n (a := 125) hp (by omega), ldI_n (a := 123) hp (by omega)]
  rcases hx with rfl | rfl
  · rw [if_pos (show nI 0 = 0 from rfl), if_pos (show nI 0 = nI 0 from rfl), if_pos (show nI 0 = nI 0 from rfl), Option.bind_some, if_pos (show nI 0 = 0 from rfl), stI_n (a := 125) hp (by omega), Option.bind_some, if_neg (show ¬ nI 0 = (1 : Int32) from by decide), ldI_n (a := 123) hp (by omega), Option.bind_some, stI_n (a := 123) hp (by omega), Option.bind_some, wI_self, e4]
  · rw [if_neg (show ¬ nI 1 = 0 from by decide), if_neg (show ¬ nI 1 = nI 0 from by decide), if_neg (show ¬ nI 1 = nI 0 from by decide), Option.bind_some, if_neg (show ¬ nI 1 = 0 from by decide), Option.bind_some, stI_n (a := 125) hp (by omega), Option.bind_some, if_pos (show nI 1 = (1 : Int32) from rfl), wI_self, stI_n (a := 123) hp (by omega), Option.bind_some, e5]
set_option maxHeartbeats 400000 in
theorem c_put57 {p : Nat} (hp : p < 6) (x3 : Int32) {c : Nat} (hc : c = 3 ∨ c = 4 ∨ c = 5) : b_X4_put_57 h (nI p) x3 (10 + c) = some (h.1 (10 + c) p, wI h (10 + c) p x3) := by
  unfold b_X4_put_57
  have hl : len (10 + c) = 6 := by rcases hc with rfl | rfl | rfl <;> rfl
  rw [ldI_n (by omega) (by omega), Option.bind_some, stI_n (by omega) (by omega)]
  rfl
set_option maxHeartbeats 400000 in
theorem a_put (x1 x2 x3 : Int32) : Same k (fun h => sh_X4_put h 0 x1 x2 x3) (fun h => sh_X5_put h 120 x1 x2 x3) := by
  intro h X Y g hk
  have hP := g.P
  have hv := g.2.1
  have hcl : ∀ r, sh_X4_putRefusal h 0 x1 x2 x3 = some r → isR r → sh_X4_put h 0 x1 x2 x3 = Option.bind (sh_X4_refuse h 0 r) fun q => some (q.1, q.2) := fun r e hr => by
    unfold sh_X4_put
    rw [e, Option.bind_some, if_neg (isR_neg hr).1]
  rcases p_exists hv hP x1 with ⟨p, hp, rfl, e1⟩ | ⟨hn, e1⟩
  · rcases m_in0 x2 (n := 3) (hi := 2) (by decide) (by decide) with ⟨j, hj, rfl, e2⟩ | ⟨w, e2⟩
    · have mo : ∀ h1, MR (th h1) X → sh_X5_put h1 120 (nI p) (nI j) x3 = if nI j = (2 : Int32) then Option.bind (sh_X5_isOne (th h1) 120 x3) (fun v3 => if v3 = 0 then (if x3 = (9 : Int32) then b_X5_put_69 (th h1) 120 (nI p) x3 else Option.bind (sh_X5_refuse (th h1) 120 (-1 : Int32)) fun q4 => some (q4.1, q4.2)) else b_X5_put_69 (th h1) 120 (nI p) x3) else if x3 < 0 then b_X5_put_107 (th h1) 120 x3 else if nI j = 0 then b_X5_put_104 (th h1) 120 (nI p) (nI j) x3 x3 (9999 : Int32) else b_X5_put_104 (th h1) 120 (nI p) (nI j) x3 x3 (99 : Int32) := fun h1 m => by
        unfold sh_X5_put
        show Option.bind (sh_X5_isOne (th h1) 120 (nI p)) _ = _
        rw [one_p hP hp m, Option.bind_some, if_neg (by decide)]
        show Option.bind (sh_X5_in (th h1) (nI j).toInt64 (0 : Int64) (2 : Int64)) _ = _
        rw [e2 (th h1), Option.bind_some, if_neg (by decide)]
        rfl
      have cr : sh_X4_putRefusal h 0 (nI p) (nI j) x3 = if nI j = (2 : Int32) then (if x3 = (9 : Int32) then some 0 else Option.bind (sh_X3_exists h 10 x3) fun v2 => if v2 = 0 then some (-1) else some 0) else if nI j = 0 then Option.bind (sh_X4_outside h x3 (0 : Int32) (9999 : Int32)) fun v => some v else Option.bind (sh_X4_outside h x3 (0 : Int32) (99 : Int32)) fun v => some v := by
        unfold sh_X4_putRefusal
        rw [xf0, e1, Option.bind_some, if_neg (by decide), if_neg (nI_pos (by omega)), L2, if_pos (nI_le (by omega) (by omega))]
        rfl
      by_cases j2 : j = 2
      · subst j2
        have cr' : sh_X4_putRefusal h 0 (nI p) (nI 2) x3 = if x3 = (9 : Int32) then some 0 else Option.bind (sh_X3_exists h 10 x3) fun v2 => if v2 = 0 then some (-1) else some 0 := cr
        have mo' : ∀ h1, MR (th h1) X → sh_X5_put h1 120 (nI p) (nI 2) x3 = Option.bind (sh_X5_isOne (th h1) 120 x3) (fun v3 => if v3 = 0 then (if x3 = (9 : Int32) then b_X5_put_69 (th h1) 120 (nI p) x3 else Option.bind (sh_X5_refuse (th h1) 120 (-1 : Int32)) fun q4 => some (q4.1, q4.2)) else b_X5_put_69 (th h1) 120 (nI p) x3) := fun h1 m => mo h1 m
        have m69 : ∀ h1 x, MR (th h1) X → b_X5_put_69 (th h1) 120 (nI p) x = some (nI (X.1 3 p), wI (th h1) 124 p x) := fun h1 x m => by
          unfold b_X5_put_69
          rw [md_to m (by omega), Option.bind_some, mf9, stI_n (a := 124) (by rw [len_a.2.1]; omega) (by omega)]
          rfl
        have c57 : ∀ x, sh_X4_putRefusal h 0 (nI p) (nI 2) x = some 0 → sh_X4_put h 0 (nI p) (nI 2) x = some (nI (X.1 3 p), wI h (10 + 3) p x) := fun x e => by
          unfold sh_X4_put
          rw [e, Option.bind_some, if_pos rfl, if_neg (by decide), if_neg (by decide), xf0, rf2 v10, c_put57 (by omega) _ (Or.inl rfl), hv.2.2.2.1 3 p (by decide) (by decide) (by omega)]
        by_cases w9 : x3 = (9 : Int32)
        · have e0 : sh_X4_putRefusal h 0 (nI p) (nI 2) x3 = some 0 := by rw [cr', if_pos w9]
          refine s_fld g hk (c := 3) (d := 124) (v := 9) hp (by omega) ?_ (fun h1 m => ?_)
          · show sh_X4_put h 0 (nI p) (nI 2) x3 = _
            rw [c57 _ e0, w9, L9]
          · show sh_X5_put h1 120 (nI p) (nI 2) x3 = _
            rw [mo' h1 m, one_n hP (fun q hq z => by rw [w9, L9, nI_eq (by omega) (by omega)] at z; omega) m, Option.bind_some, if_pos (by decide), if_pos w9, m69 h1 _ m, w9, L9]
        · rcases p_exists hv hP x3 with ⟨q, hq, rfl, f1⟩ | ⟨hn3, f1⟩
          · have e0 : sh_X4_putRefusal h 0 (nI p) (nI 2) (nI q) = some 0 := by rw [cr', if_neg w9, f1, Option.bind_some, if_neg (by decide)]
            refine s_fld g hk (c := 3) (d := 124) (v := q) hp (by omega) ?_ (fun h1 m => ?_)
            · exact c57 _ e0
            · show sh_X5_put h1 120 (nI p) (nI 2) (nI q) = _
              rw [mo' h1 m, one_p hP hq m, Option.bind_some, if_neg (by decide), m69 h1 _ m]
          · have e0 : sh_X4_putRefusal h 0 (nI p) (nI 2) x3 = some (-1) := by rw [cr', if_neg w9, f1, Option.bind_some, if_pos (by decide)]
            refine s_ref g hk (r := -1) (Or.inl rfl) (hcl _ e0 (Or.inl rfl)) (fun h1 _ _ m => ?_)
            show sh_X5_put h1 120 (nI p) (nI 2) x3 = _
            rw [mo' h1 m, one_n hP hn3 m, Option.bind_some, if_pos (by decide), if_neg w9]
      · obtain ⟨hi, c, d, hh, hcd, cr', mo', c57⟩ : ∃ hi c d : Nat, hi < 100000 ∧ ((c = 4 ∧ d = 125 ∧ hi = 9999) ∨ (c = 5 ∧ d = 123 ∧ hi = 99)) ∧ sh_X4_putRefusal h 0 (nI p) (nI j) x3 = (Option.bind (sh_X4_outside h x3 (nI 0) (nI hi)) fun v => some v) ∧ (∀ h1, MR (th h1) X → sh_X5_put h1 120 (nI p) (nI j) x3 = if x3 < 0 then b_X5_put_107 (th h1) 120 x3 else b_X5_put_104 (th h1) 120 (nI p) (nI j) x3 x3 (nI hi)) ∧ (∀ n, n ≤ hi → x3 = nI n → (sh_X4_putRefusal h 0 (nI p) (nI j) x3 = some 0 → sh_X4_put h 0 (nI p) (nI j) x3 = some (nI (X.1 c p), wI h (10 + c) p (nI n))) ∧ ∀ h1, MR (th h1) X → b_X5_put_104 (th h1) 120 (nI p) (nI j) x3 x3 (nI hi) = some (nI (X.1 c p), wI (th h1) d p (nI n))) := by
          rcases (by omega : j = 0 ∨ j = 1) with rfl | rfl
          · refine ⟨9999, 4, 125, by decide, by decide, cr, fun h1 m => mo h1 m, fun n hn e => ⟨fun e0 => ?_, fun h1 m => ?_⟩⟩
            · unfold sh_X4_put
              rw [e0, Option.bind_some, if_pos rfl, if_pos (by decide), xf0, rf3 v10, c_put57 (c := 4) (by omega) _ (by omega), hv.2.2.2.1 4 p (by decide) (by decide) (by omega), e]
            · rw [e, m_put104 m (by omega) (nI 0) (by omega) (by omega) hn (Or.inl rfl)]
              rfl
          · refine ⟨99, 5, 123, by decide, by decide, cr, fun h1 m => mo h1 m, fun n hn e => ⟨fun e0 => ?_, fun h1 m => ?_⟩⟩
            · unfold sh_X4_put
              rw [e0, Option.bind_some, if_pos rfl, if_neg (by decide), if_pos (by decide), xf0, rf4 v10, c_put57 (c := 5) (by omega) _ (by omega), hv.2.2.2.1 5 p (by decide) (by decide) (by omega), e]
            · rw [e, m_put104 m (by omega) (nI 1) (by omega) (by omega) hn (Or.inr rfl)]
              rfl
        rcases range1 h x3 (lo := 0) (hi := hi) (by decide) hh with ⟨r, hr, f1, f2⟩ | ⟨n, _, hn, e3, f1, f2⟩
        · have e0 : sh_X4_putRefusal h 0 (nI p) (nI j) x3 = some r := by rw [cr', f1]; rfl
          refine s_ref g hk hr (hcl _ e0 hr) (fun h1 _ _ m => ?_)
          show sh_X5_put h1 120 (nI p) (nI j) x3 = _
          rw [mo' h1 m]
          have f2' := f2 h1
          unfold sh_X5_wrongDays b_X5_wrongDays_21 at f2'
          by_cases z : x3 < 0
          · have z' : ¬ nI 0 ≤ x3 := fun y => by
              rw [Int32.le_iff_toInt_le, nI_toInt (by decide)] at y
              rw [Int32.lt_iff_toInt_lt, show (0 : Int32).toInt = 0 from by decide] at z
              omega
            rw [if_neg z'] at f2'
            have f3 : (-4 : Int32) = r := Option.some.inj f2'
            rw [if_pos z]
            unfold b_X5_put_107
            rw [if_neg (show ¬ 0 ≤ x3 from z'), ← f3]
            rfl
          · have z' : nI 0 ≤ x3 := by
              obtain ⟨n, hn, rfl⟩ := nI_of z
              exact nI_le (by omega) (by omega)
            rw [if_pos z'] at f2'
            rw [if_neg z]
            by_cases y : x3 ≤ nI hi
            · rw [if_pos y] at f2'
              have f3 : (0 : Int32) = r := Option.some.inj f2'
              exact absurd f3.symm (isR_neg hr).1
            · rw [if_neg y] at f2'
              have f3 : (-6 : Int32) = r := Option.some.inj f2'
              unfold b_X5_put_104 b_X5_put_107
              rw [if_neg y, if_pos (show 0 ≤ x3 from z'), ← f3]
              rfl
        · have e0 : sh_X4_putRefusal h 0 (nI p) (nI j) x3 = some 0 := by rw [cr', f1]; rfl
          refine s_fld g hk (c := c) (d := d) (v := n) hp (by omega) ((c57 n hn e3).1 e0) (fun h1 m => ?_)
          show sh_X5_put h1 120 (nI p) (nI j) x3 = _
          rw [mo' h1 m, if_neg (show ¬ x3 < 0 from by rw [e3]; exact nI_pos (by omega)), (c57 n hn e3).2 h1 m]
    · have e0 : sh_X4_putRefusal h 0 (nI p) x2 x3 = some (-2) := by
        unfold sh_X4_putRefusal
        rw [xf0, e1, Option.bind_some, if_neg (by decide)]
        by_cases z : x2 < 0
        · rw [if_pos z]
          rfl
        · rw [if_neg z, if_neg]
          · rfl
          · intro y
            rcases w with w | w
            · exact z w
            · rw [Int32.le_iff_toInt_le, nI_toInt (by decide)] at w
              rw [L2, Int32.le_iff_toInt_le, nI_toInt (by decide)] at y
              omega
      refine s_ref g hk (r := -2) (Or.inr (Or.inl rfl)) (hcl _ e0 (Or.inr (Or.inl rfl))) (fun h2 _ _ m => ?_)
      show Option.bind (sh_X5_isOne (th h2) 120 (nI p)) _ = _
      rw [one_p hP hp m, Option.bind_some, if_neg (by decide)]
      show Option.bind (sh_X5_in (th h2) x2.toInt64 (0 : Int64) (2 : Int64)) _ = _
      rw [e2 (th h2), Option.bind_some, if_pos (by decide)]
      show Option.bind (sh_X5_isOne (th h2) 120 (nI p)) _ = _
      rw [one_p hP hp m, Option.bind_some, if_neg (by decide)]
      rfl
  · have e0 : sh_X4_putRefusal h 0 x1 x2 x3 = some (-1) := by
      unfold sh_X4_putRefusal
      rw [xf0, e1, Option.bind_some, if_pos (by decide)]
    refine s_ref g hk (r := -1) (Or.inl rfl) (hcl _ e0 (Or.inl rfl)) (fun h2 _ _ m => ?_)
    show Option.bind (sh_X5_isOne (th h2) 120 x1) _ = _
    rw [one_n hP hn m, Option.bind_some, if_pos (by decide)]
    show Option.bind (sh_X5_isOne (th h2) 120 x1) _ = _
    rw [one_n hP hn m, Option.bind_some, if_pos (by decide)]
    rfl
end PU
