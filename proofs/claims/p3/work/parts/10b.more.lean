theorem jcst13 : Cond.castable RX6 RX1 ∈ jNW := jinN_mem (j := 9231) (by decide +kernel)
theorem jcst83 : Cond.castable RX8 RX3 ∈ jNW := jinN_mem (j := 9232) (by decide +kernel)
section JIn
variable {p : Program} {l : Launch} {e : Env} {R : Room} {s : State} {m : MethodId} {args : Array Value} {below : List Frame} {meth : Method} {c : Code} {Q : State → Prop} {D : va_G} {cA : Nat → ClassId} {B b : Nat} {xl : Option Nat} {xs : Nat → Int} {cc : ByteArray} {own : String}
theorem jund_no : ∀ t, t ∈ jtags 0 → ∀ u, u ∈ [1, 2, 3, 6, 8] → jund t u = false → ∀ q r : vw_C, vwCl[t]? = some q → vwCl[u]? = some r → (q.1, r.1) ∈ jNC := by
  intro t ht u hu hn q r hq hr
  simp only [jtags, if_true, List.mem_cons, List.not_mem_nil, or_false] at ht hu
  rcases ht with e | e | e | e | e | e <;> subst e <;> rcases hu with f | f | f | f | f <;> subst f <;> first | (cases hn; done) | (cases hq; cases hr; decide +kernel)
theorem jund_yes : ∀ t, t ∈ jtags 0 → ∀ u, u ∈ [1, 2, 3, 6, 8] → jund t u = true → t = u ∨ (t = 6 ∧ u = 1) ∨ (t = 8 ∧ u = 3) := by
  intro t ht u hu hn
  simp only [jtags, if_true, List.mem_cons, List.not_mem_nil, or_false] at ht hu
  rcases ht with e | e | e | e | e | e <;> subst e <;> rcases hu with f | f | f | f | f <;> subst f <;> first | (cases hn; done) | omega
theorem jx_inst (hx : p.tables.exec = Jvm.exec) (hb : c.code = cc) (ho : s.vm.findClass own = some m.cls) (hK : jK D cA s) {pc x u : Nat} {L S : List AV} {h : JH} {cu su : Nat} {r : Int} {q : vw_C} (hu : u ∈ [1, 2, 3, 6, 8]) (hq : vwCl[u]? = some q) (hl : (Cond.classLink own x q.1).before args s = true) (h0 : 0 ≤ r) (hlt : r.toNat < h.1) (hf : jfam 0 (h.2.1 r.toNat).1 = true) (hd : decode cc pc = .ok (.instanceof x, 3))
    (kk : jXW p l e R s m args below meth c Q D cA B b (pc + 3) L ((0, if jund (h.2.1 r.toNat).1 u = true then 1 else 0) :: S) h cu su) : jXW p l e R s m args below meth c Q D cA B b pc L ((2, r) :: S) h cu su := by
  intro H locs ls hH hS hL hs
  obtain ⟨g1, g3⟩ := jms1 hs
  have ht := jfam_in hf
  have hvt : (h.2.1 r.toNat).1 < 13 := jfam_lt (by omega) hf
  obtain ⟨cell, q1, q2, q3⟩ := jbody hH hlt rfl hvt
  obtain ⟨qv, hqv⟩ := jcl_some hvt
  have hcls := (hK.1 _ qv hqv).2
  have hcell : ∃ cell : Cell, H[B + r.toNat]? = some cell ∧ cell.vm.isStatics = false ∧ s.vm.findClass qv.1 = some cell.cls := ⟨cell, q1, by rw [q3]; rfl, by rw [q2]; exact hcls.1⟩
  rw [List.map_cons, jv_r B b h0]
  cases hj : jund (h.2.1 r.toNat).1 u with
  | true =>
    rw [hj, if_pos rfl] at kk
    have hk := kk H locs ls hH hS hL (jmc (jok_i.mpr (by omega)) g3)
    rw [List.map_cons] at hk
    rcases jund_yes _ ht u hu hj with e | ⟨e1, e2⟩ | ⟨e1, e2⟩
    · rw [e] at hqv
      cases hqv.symm.trans hq
      exact va_instS hx hb ho hl hcls hcell hd hk
    · rw [e1] at hqv
      subst e2
      cases hqv
      cases hq
      exact va_instY hx hb ho hl (hK.2.2.1 _ jcst13) hcell hd hk
    · rw [e1] at hqv
      subst e2
      cases hqv
      cases hq
      exact va_instY hx hb ho hl (hK.2.2.1 _ jcst83) hcell hd hk
  | false =>
    rw [hj, if_neg (by decide)] at kk
    have hk := kk H locs ls hH hS hL (jmc (jok_i.mpr (by omega)) g3)
    rw [List.map_cons] at hk
    exact va_instNo hx hb ho hl (hK.2.2.2.2 _ (jund_no _ ht u hu hj qv q hqv hq)) hcell hd hk
theorem jcpy_hp {H H1 : Heap} {h : JH} {a sp d dp n : Nat} (hH : jHp D cA B b H h) (hz : H1.size = H.size) (ho : ∀ q : Nat, q ≠ B + d → H1[q]? = H[q]?) (hc : jcell D cA B b H1 d (h.2.1 d).1 (h.2.1 d).2 (va_cpy (h.2.2 a) (h.2.2 d) sp dp n)) : jHp D cA B b H1 (jcpy h a sp d dp n) := by
  refine ⟨by rw [hz]; exact hH.1, fun k hk => ?_⟩
  have hk' : k < h.1 := hk
  by_cases e : k = d
  · subst e
    have e2 : (jcpy h a sp k dp n).2.2 k = va_cpy (h.2.2 a) (h.2.2 k) sp dp n := by
      funext j
      show (if k = k ∧ dp ≤ j ∧ j < dp + n then h.2.2 a (sp + (j - dp)) else h.2.2 k j) = _
      unfold va_cpy
      by_cases g : dp ≤ j ∧ j < dp + n
      · rw [if_pos ⟨rfl, g⟩, if_pos g]
      · rw [if_neg (fun q => g q.2), if_neg g]
    rw [e2]
    exact hc
  · have e2 : (jcpy h a sp d dp n).2.2 k = h.2.2 k := by
      funext j
      show (if k = d ∧ dp ≤ j ∧ j < dp + n then h.2.2 a (sp + (j - dp)) else h.2.2 k j) = _
      rw [if_neg (fun q => e q.1)]
    rw [e2]
    exact (hH.2 k hk').kept (ho _ (by omega))
theorem jx_copy20 (hx : p.tables.exec = Jvm.exec) (hb : c.code = cc) (ho : s.vm.findClass own = some m.cls) (hK : jK D cA s) {pc x : Nat} {L S : List AV} {h : JH} {cu su : Nat} {n dp d sp a : Int} (hml : c.maxLocals = L.length) (w1 : (Cond.methodLink own x arraycopyName).before args s = true) (w2 : (Cond.native arraycopyName).before args s = true) (w3 : (Cond.static arraycopyName).before args s = true) (w4 : (Cond.initialized "java/lang/System").before args s = true) (hf : 1 ≤ R.frames) (hl : 60 ≤ R.locals)
    (n0 : 0 ≤ n) (dp0 : 0 ≤ dp) (sp0 : 0 ≤ sp) (a0 : 0 ≤ a) (ha : a.toNat < h.1) (d0 : 0 ≤ d) (hd : d.toNat < h.1) (t1 : (h.2.1 a.toNat).1 = 20) (t2 : (h.2.1 d.toNat).1 = 20) (s1 : sp.toNat + n.toNat ≤ (h.2.1 a.toNat).2) (s2 : dp.toNat + n.toNat ≤ (h.2.1 d.toNat).2) (hw : jwid S ≤ 8) (hdc : decode cc pc = .ok (.invokestatic x, 3))
    (kk : jXW p l e R s m args below meth c Q D cA B b (pc + 3) L S (jcpy h a.toNat sp.toNat d.toNat dp.toNat n.toNat) cu su) : jXW p l e R s m args below meth c Q D cA B b pc L ((0, n) :: (0, dp) :: (2, d) :: (0, sp) :: (2, a) :: S) h cu su := by
  intro H locs ls hH hS hL hs
  obtain ⟨g1, hs⟩ := jms1 hs
  obtain ⟨g2, hs⟩ := jms1 hs
  obtain ⟨g3, hs⟩ := jms1 hs
  obtain ⟨g4, hs⟩ := jms1 hs
  obtain ⟨g5, hs⟩ := jms1 hs
  have i1 := jok_i.mp g1
  have i2 := jok_i.mp g2
  have i4 := jok_i.mp g4
  obtain ⟨-, ca, va⟩ := jarr hH ha t1 (by decide)
  obtain ⟨-, cd, vd⟩ := jarr hH hd t2 (by decide)
  have c1 := j32_clamp n0 i1.2
  have c2 := j32_clamp dp0 i2.2
  have c4 := j32_clamp sp0 i4.2
  have e1 := j32 i1.1 i1.2
  have e2 := j32 i2.1 i2.2
  have e4 := j32 i4.1 i4.2
  obtain ⟨-, k0, hk0, cm0, hkk0⟩ := (hK.2.1 20 (by decide) (by decide)).1 (h.2.1 a.toNat).2 (jV B b 20 (h.2.2 a.toNat))
  obtain ⟨-, k1, hk1, cm1, hkk1⟩ := (hK.2.1 20 (by decide) (by decide)).1 (h.2.1 d.toNat).2 (jV B b 20 (h.2.2 d.toNat))
  rw [List.map_cons, List.map_cons, List.map_cons, List.map_cons, List.map_cons, jv_i, jv_i, jv_i, jv_r B b d0, jv_r B b a0]
  intro T hT X
  have neg : ∀ {z : Int}, 0 ≤ z → z < 2147483648 → ¬ Int32.ofInt z < 0 := by
    intro z z0 z1
    rw [j32_0, j32_lt ⟨by omega, z1⟩ ⟨by omega, by omega⟩]
    omega
  obtain ⟨vm', X', step⟩ := X.arraycopy hx ho w1 w2 w3 w4 (src := B + a.toNat) (dst := B + d.toNat) (cs := arrV (cA 20) (h.2.1 a.toNat).2 (jV B b 20 (h.2.2 a.toNat))) (cd := arrV (cA 20) (h.2.1 d.toNat).2 (jV B b 20 (h.2.2 d.toNat))) (srcPos := Int32.ofInt sp) (destPos := Int32.ofInt dp) (n := Int32.ofInt n) (by rw [hT]; exact ca) (by rw [hT]; exact cd)
    (fun _ h => by cases h) (fun _ h => by cases h) (fun h => by cases h) (fun h => by cases h) hk0 hk1 hkk0 hkk1 (by decide) (neg sp0 i4.2) (neg dp0 i2.2) (neg n0 i1.2)
    (by rw [e4, e1, arrV_size]; omega)
    (by rw [e2, e1, arrV_size]; omega)
    (fun vm₁ _ i hi => by
      rw [c1] at hi
      rw [c4]
      have e : (arrV (cA 20) (h.2.1 a.toNat).2 (jV B b 20 (h.2.2 a.toNat))).slots.getD (sp.toNat + i) .null = jV B b 20 (h.2.2 a.toNat) (sp.toNat + i) := by
        rw [Array.getD_eq_getD_getElem?, arrV_read _ _ (by omega)]
        rfl
      refine ⟨?_, ?_⟩
      · rw [e]
        rfl
      · rw [e]
        exact trivial)
    (g := F0 m pc ls (.int (Int32.ofInt n) :: .int (Int32.ofInt dp) :: .ref (B + d.toNat) :: .int (Int32.ofInt sp) :: .ref (B + a.toNat) :: S.map (jv B b))) rfl (by rw [hml]; exact hL.1) (rest := S.map (jv B b)) rfl (by rw [hb]; exact hdc) hf (by
      rw [jcat_sum S hs]
      show 2 * 0 + _ + (7 + 11) ≤ _
      omega)
  have ec : copied (arrV (cA 20) (h.2.1 a.toNat).2 (jV B b 20 (h.2.2 a.toNat))) (arrV (cA 20) (h.2.1 d.toNat).2 (jV B b 20 (h.2.2 d.toNat))) (Int32.ofInt sp) (Int32.ofInt dp) (Int32.ofInt n) = arrV (cA 20) (h.2.1 d.toNat).2 (jV B b 20 (va_cpy (h.2.2 a.toNat) (h.2.2 d.toNat) sp.toNat dp.toNat n.toNat)) := by
    have := va_copied (fun z : Int => jv B b (0, z)) (cA 20) (cA 20) (n1 := (h.2.1 d.toNat).2) (dp := dp.toNat) (h.2.2 a.toNat) (h.2.2 d.toNat) s1
    rw [← c1, ← c2, ← c4] at this ⊢
    exact this
  rw [ec] at X' step
  have hl2 : B + d.toNat < H.size := (Array.getElem?_eq_some_iff.mp cd).1
  have hheap : ((T.setVm vm').setCell (B + d.toNat) (arrV (cA 20) (h.2.1 d.toNat).2 (jV B b 20 (va_cpy (h.2.2 a.toNat) (h.2.2 d.toNat) sp.toNat dp.toNat n.toNat)))).heap = H.setIfInBounds (B + d.toNat) (arrV (cA 20) (h.2.1 d.toNat).2 (jV B b 20 (va_cpy (h.2.2 a.toNat) (h.2.2 d.toNat) sp.toNat dp.toNat n.toNat))) := by rw [← hT]; rfl
  have oq : ∀ q : Nat, q ≠ B + d.toNat → (H.setIfInBounds (B + d.toNat) (arrV (cA 20) (h.2.1 d.toNat).2 (jV B b 20 (va_cpy (h.2.2 a.toNat) (h.2.2 d.toNat) sp.toNat dp.toNat n.toNat))))[q]? = H[q]? := fun q hq => by simp [Array.getElem?_setIfInBounds, Ne.symm hq]
  have hcell : jcell D cA B b (H.setIfInBounds (B + d.toNat) (arrV (cA 20) (h.2.1 d.toNat).2 (jV B b 20 (va_cpy (h.2.2 a.toNat) (h.2.2 d.toNat) sp.toNat dp.toNat n.toNat)))) d.toNat (h.2.1 d.toNat).1 (h.2.1 d.toNat).2 (va_cpy (h.2.2 a.toNat) (h.2.2 d.toNat) sp.toNat dp.toNat n.toNat) := by
    rw [t2]
    refine ⟨fun j hj => ?_, Or.inr ⟨by decide, by decide, by simp [Array.getElem?_setIfInBounds, hl2]⟩⟩
    unfold va_cpy
    split
    · have z := va (sp.toNat + (j - dp.toNat)) (by omega)
      exact ⟨z.1, fun q => absurd q (by decide), z.2.2.1, z.2.2.2.1, z.2.2.2.2⟩
    · exact vd _ hj
  obtain ⟨t, a1, b1⟩ := kk _ _ ls (jcpy_hp hH (by simp) oq hcell) ⟨by simp; exact hS.1, fun q g1 g2 => by
      rw [oq q (fun e => g2 (by rw [e]; exact Nat.le_add_right _ _))]
      exact hS.2.1 q g1 g2, fun q hq => by
      rcases List.mem_append.mp hq with h | h
      · exact hS.2.2 q h
      · obtain ⟨z, -, hz⟩ := List.mem_map.mp h
        rw [← hz]
        exact Nat.le_add_right _ _⟩ hL hs _ hheap X'
  exact ⟨t, step t a1, b1⟩
theorem jx_copy21 (hx : p.tables.exec = Jvm.exec) (hb : c.code = cc) (ho : s.vm.findClass own = some m.cls) (hK : jK D cA s) {pc x : Nat} {L S : List AV} {h : JH} {cu su : Nat} {n dp d sp a : Int} (hml : c.maxLocals = L.length) (w1 : (Cond.methodLink own x arraycopyName).before args s = true) (w2 : (Cond.native arraycopyName).before args s = true) (w3 : (Cond.static arraycopyName).before args s = true) (w4 : (Cond.initialized "java/lang/System").before args s = true) (hf : 1 ≤ R.frames) (hl : 60 ≤ R.locals)
    (n0 : 0 ≤ n) (dp0 : 0 ≤ dp) (sp0 : 0 ≤ sp) (a0 : 0 ≤ a) (ha : a.toNat < h.1) (d0 : 0 ≤ d) (hd : d.toNat < h.1) (t1 : (h.2.1 a.toNat).1 = 21) (t2 : (h.2.1 d.toNat).1 = 21) (s1 : sp.toNat + n.toNat ≤ (h.2.1 a.toNat).2) (s2 : dp.toNat + n.toNat ≤ (h.2.1 d.toNat).2) (hw : jwid S ≤ 8) (hdc : decode cc pc = .ok (.invokestatic x, 3))
    (kk : jXW p l e R s m args below meth c Q D cA B b (pc + 3) L S (jcpy h a.toNat sp.toNat d.toNat dp.toNat n.toNat) cu su) : jXW p l e R s m args below meth c Q D cA B b pc L ((0, n) :: (0, dp) :: (2, d) :: (0, sp) :: (2, a) :: S) h cu su := by
  intro H locs ls hH hS hL hs
  obtain ⟨g1, hs⟩ := jms1 hs
  obtain ⟨g2, hs⟩ := jms1 hs
  obtain ⟨g3, hs⟩ := jms1 hs
  obtain ⟨g4, hs⟩ := jms1 hs
  obtain ⟨g5, hs⟩ := jms1 hs
  have i1 := jok_i.mp g1
  have i2 := jok_i.mp g2
  have i4 := jok_i.mp g4
  obtain ⟨-, ca, va⟩ := jarr hH ha t1 (by decide)
  obtain ⟨-, cd, vd⟩ := jarr hH hd t2 (by decide)
  have c1 := j32_clamp n0 i1.2
  have c2 := j32_clamp dp0 i2.2
  have c4 := j32_clamp sp0 i4.2
  have e1 := j32 i1.1 i1.2
  have e2 := j32 i2.1 i2.2
  have e4 := j32 i4.1 i4.2
  obtain ⟨-, k0, hk0, cm0, hkk0⟩ := (hK.2.1 21 (by decide) (by decide)).1 (h.2.1 a.toNat).2 (jV B b 21 (h.2.2 a.toNat))
  obtain ⟨-, k1, hk1, cm1, hkk1⟩ := (hK.2.1 21 (by decide) (by decide)).1 (h.2.1 d.toNat).2 (jV B b 21 (h.2.2 d.toNat))
  rw [List.map_cons, List.map_cons, List.map_cons, List.map_cons, List.map_cons, jv_i, jv_i, jv_i, jv_r B b d0, jv_r B b a0]
  intro T hT X
  have neg : ∀ {z : Int}, 0 ≤ z → z < 2147483648 → ¬ Int32.ofInt z < 0 := by
    intro z z0 z1
    rw [j32_0, j32_lt ⟨by omega, z1⟩ ⟨by omega, by omega⟩]
    omega
  obtain ⟨vm', X', step⟩ := X.arraycopy hx ho w1 w2 w3 w4 (src := B + a.toNat) (dst := B + d.toNat) (cs := arrV (cA 21) (h.2.1 a.toNat).2 (jV B b 21 (h.2.2 a.toNat))) (cd := arrV (cA 21) (h.2.1 d.toNat).2 (jV B b 21 (h.2.2 d.toNat))) (srcPos := Int32.ofInt sp) (destPos := Int32.ofInt dp) (n := Int32.ofInt n) (by rw [hT]; exact ca) (by rw [hT]; exact cd)
    (fun _ h => by cases h) (fun _ h => by cases h) (fun h => by cases h) (fun h => by cases h) hk0 hk1 hkk0 hkk1 (by decide) (neg sp0 i4.2) (neg dp0 i2.2) (neg n0 i1.2)
    (by rw [e4, e1, arrV_size]; omega)
    (by rw [e2, e1, arrV_size]; omega)
    (fun vm₁ _ i hi => by
      rw [c1] at hi
      rw [c4]
      have e : (arrV (cA 21) (h.2.1 a.toNat).2 (jV B b 21 (h.2.2 a.toNat))).slots.getD (sp.toNat + i) .null = jV B b 21 (h.2.2 a.toNat) (sp.toNat + i) := by
        rw [Array.getD_eq_getD_getElem?, arrV_read _ _ (by omega)]
        rfl
      refine ⟨?_, ?_⟩
      · rw [e]
        rfl
      · rw [e]
        exact trivial)
    (g := F0 m pc ls (.int (Int32.ofInt n) :: .int (Int32.ofInt dp) :: .ref (B + d.toNat) :: .int (Int32.ofInt sp) :: .ref (B + a.toNat) :: S.map (jv B b))) rfl (by rw [hml]; exact hL.1) (rest := S.map (jv B b)) rfl (by rw [hb]; exact hdc) hf (by
      rw [jcat_sum S hs]
      show 2 * 0 + _ + (7 + 11) ≤ _
      omega)
  have ec : copied (arrV (cA 21) (h.2.1 a.toNat).2 (jV B b 21 (h.2.2 a.toNat))) (arrV (cA 21) (h.2.1 d.toNat).2 (jV B b 21 (h.2.2 d.toNat))) (Int32.ofInt sp) (Int32.ofInt dp) (Int32.ofInt n) = arrV (cA 21) (h.2.1 d.toNat).2 (jV B b 21 (va_cpy (h.2.2 a.toNat) (h.2.2 d.toNat) sp.toNat dp.toNat n.toNat)) := by
    have := va_copied (fun z : Int => jv B b (1, z)) (cA 21) (cA 21) (n1 := (h.2.1 d.toNat).2) (dp := dp.toNat) (h.2.2 a.toNat) (h.2.2 d.toNat) s1
    rw [← c1, ← c2, ← c4] at this ⊢
    exact this
  rw [ec] at X' step
  have hl2 : B + d.toNat < H.size := (Array.getElem?_eq_some_iff.mp cd).1
  have hheap : ((T.setVm vm').setCell (B + d.toNat) (arrV (cA 21) (h.2.1 d.toNat).2 (jV B b 21 (va_cpy (h.2.2 a.toNat) (h.2.2 d.toNat) sp.toNat dp.toNat n.toNat)))).heap = H.setIfInBounds (B + d.toNat) (arrV (cA 21) (h.2.1 d.toNat).2 (jV B b 21 (va_cpy (h.2.2 a.toNat) (h.2.2 d.toNat) sp.toNat dp.toNat n.toNat))) := by rw [← hT]; rfl
  have oq : ∀ q : Nat, q ≠ B + d.toNat → (H.setIfInBounds (B + d.toNat) (arrV (cA 21) (h.2.1 d.toNat).2 (jV B b 21 (va_cpy (h.2.2 a.toNat) (h.2.2 d.toNat) sp.toNat dp.toNat n.toNat))))[q]? = H[q]? := fun q hq => by simp [Array.getElem?_setIfInBounds, Ne.symm hq]
  have hcell : jcell D cA B b (H.setIfInBounds (B + d.toNat) (arrV (cA 21) (h.2.1 d.toNat).2 (jV B b 21 (va_cpy (h.2.2 a.toNat) (h.2.2 d.toNat) sp.toNat dp.toNat n.toNat)))) d.toNat (h.2.1 d.toNat).1 (h.2.1 d.toNat).2 (va_cpy (h.2.2 a.toNat) (h.2.2 d.toNat) sp.toNat dp.toNat n.toNat) := by
    rw [t2]
    refine ⟨fun j hj => ?_, Or.inr ⟨by decide, by decide, by simp [Array.getElem?_setIfInBounds, hl2]⟩⟩
    unfold va_cpy
    split
    · have z := va (sp.toNat + (j - dp.toNat)) (by omega)
      exact ⟨z.1, fun q => absurd q (by decide), z.2.2.1, z.2.2.2.1, z.2.2.2.2⟩
    · exact vd _ hj
  obtain ⟨t, a1, b1⟩ := kk _ _ ls (jcpy_hp hH (by simp) oq hcell) ⟨by simp; exact hS.1, fun q g1 g2 => by
      rw [oq q (fun e => g2 (by rw [e]; exact Nat.le_add_right _ _))]
      exact hS.2.1 q g1 g2, fun q hq => by
      rcases List.mem_append.mp hq with h | h
      · exact hS.2.2 q h
      · obtain ⟨z, -, hz⟩ := List.mem_map.mp h
        rw [← hz]
        exact Nat.le_add_right _ _⟩ hL hs _ hheap X'
  exact ⟨t, step t a1, b1⟩
end JIn
