/-! what is made, bodies in arrays, the machine's own members, calls -/
theorem jdv {B b t k : Nat} (ht : t < 13) (hk : k < jN t) : defaultValue (jTy t k) = jV B b t (jdef t) k := by
  have h := jTy_kind t ht k hk
  unfold jV jfkd jdef
  rw [if_pos (by omega), if_pos (by omega)]
  cases hty : jTy t k <;> rw [hty] at h <;> simp only [jtk, beq_iff_eq] at h <;> first | (rw [h]; rfl) | exact absurd h (by decide)
section JN
variable {p : Program} {l : Launch} {e : Env} {R : Room} {s : State} {m : MethodId} {args : Array Value} {below : List Frame} {meth : Method} {c : Code} {Q : State → Prop} {D : va_G} {cA : Nat → ClassId} {B b : Nat} {xl : Option Nat} {xs : Nat → Int} {cc : ByteArray} {own : String}
theorem jHp.new {H H1 : Heap} {h : JH} {t n : Nat} (hH : jHp D cA B b H h) (hz : H1.size = B + h.1 + 1) (ho : ∀ q : Nat, q < B + h.1 → H1[q]? = H[q]?) (hc : jcell D cA B b H1 h.1 t n (jdef t)) : jHp D cA B b H1 (jnew h t n) := by
  refine ⟨by rw [hz]; rfl, fun k hk => ?_⟩
  have hk' : k < h.1 + 1 := hk
  by_cases e : k = h.1
  · subst e
    have e1 : (jnew h t n).2.1 h.1 = (t, n) := by simp [jnew]
    have e2 : (jnew h t n).2.2 h.1 = jdef t := by funext j; simp [jnew]
    rw [e1, e2]
    exact hc
  · have e1 : (jnew h t n).2.1 k = h.2.1 k := by simp [jnew, e]
    have e2 : (jnew h t n).2.2 k = h.2.2 k := by funext j; simp [jnew, e]
    rw [e1, e2]
    exact (hH.2 k (by omega)).kept (ho _ (by omega))
theorem jS_new {H H1 : Heap} {h : JH} {locs : List Loc} (hS : va_S (fun q => B ≤ q) s.heap H locs) (hH : jHp D cA B b H h) (hz : H1.size = B + h.1 + 1) (ho : ∀ q : Nat, q < B + h.1 → H1[q]? = H[q]?) : va_S (fun q => B ≤ q) s.heap H1 locs := by
  refine ⟨Nat.le_trans hS.1 (by rw [hz, hH.1]; omega), fun q h1 h2 => ?_, hS.2.2⟩
  rw [ho q (by have := hH.1; have := hS.1; omega)]
  exact hS.2.1 q h1 h2
theorem jdef_ok {t k : Nat} (ht : t < 13 ∨ (20 ≤ t ∧ t ≤ 25)) : jcok t k (jdef t k) := by
  rcases ht with ht | ht
  · unfold jcok jfkd jdef
    rw [if_pos (by omega), if_pos (by omega)]
    have hf : jfty t k = 0 ∨ jfty t k = 1 ∨ jfty t k = 2 ∨ jfty t k = 3 := by
      unfold jfty
      cases vwCl[t]? with
      | none => simp
      | some q =>
        simp only
        unfold jfk
        by_cases e1 : (q.2.1 k).2.2.1 = "I"
        · rw [if_pos e1]; omega
        · rw [if_neg e1]
          by_cases e2 : (q.2.1 k).2.2.1 = "J"
          · rw [if_pos e2]; omega
          · rw [if_neg e2]
            by_cases e3 : (q.2.1 k).2.2.1 = "Z"
            · rw [if_pos e3]; omega
            · rw [if_neg e3]; omega
    rcases hf with e | e | e | e <;> rw [e] <;> refine ⟨?_, ?_, ?_, ?_, ?_⟩ <;> simp [jok, jsk] <;> omega
  · have : t = 20 ∨ t = 21 ∨ t = 22 ∨ t = 23 ∨ t = 24 ∨ t = 25 := by omega
    rcases this with e | e | e | e | e | e <;> subst e <;> refine ⟨?_, ?_, ?_, ?_, ?_⟩ <;> simp [jok, jfkd, jak, jdef]
theorem jx_newo (hx : p.tables.exec = Jvm.exec) (hb : c.code = cc) (ho : s.vm.findClass own = some m.cls) (hts : ∀ w ∈ jTB, w.before args s = true) (hK : jK D cA s) {pc : Nat} {L S : List AV} {h : JH} {cu su t x : Nat} {q : vw_C} (hq : vwCl[t]? = some q) (h1 : (Cond.classLink own x q.1).before args s = true) (h2 : (Cond.instantiable q.1 q.2.2).before args s = true) (h3 : (Cond.initialized q.1).before args s = true) (hcu : cu + 1 ≤ R.cells) (hsu : su + jN t ≤ R.slots) (hd : decode cc pc = .ok (.new x, 3))
    (kk : jXW p l e R s m args below meth c Q D cA B b (pc + 3) L ((2, (h.1 : Int)) :: S) (jnew h t (jN t)) (cu + 1) (su + jN t)) : jXW p l e R s m args below meth c Q D cA B b pc L S h cu su := by
  intro H locs ls hH hS hL hs
  have hKn := hK.1 t q hq
  have hN := jcl_N hq
  have ht := jcl_lt hq
  rw [hN] at hsu kk
  refine W.newcK hx hb ho h1 h2 h3 rfl hd hcu hsu hKn.2.1 (h := B + h.1) hH.1 fun H1 kC hkC e1 z1 o1 => ?_
  have hk := kk H1 locs ls (hH.new z1 o1 ⟨fun j _ => jdef_ok (Or.inl ht), Or.inl ⟨ht, hN.symm, (u_born (jTy t) hts (jlays t q hq) hKn hkC e1 (jTy_ok t q hq)).to (fun j hj => jdv ht (by rw [hN]; exact hj))⟩⟩) (jS_new hS hH z1 o1) hL (jmc (jok_a.mpr (by omega)) hs)
  rw [List.map_cons, jv_r B b (by omega)] at hk
  exact hk
theorem jx_newa (hx : p.tables.exec = Jvm.exec) (hb : c.code = cc) (hts : ∀ w ∈ jTB, w.before args s = true) (hK : jK D cA s) {pc : Nat} {L S : List AV} {h : JH} {cu su : Nat} {a : ArrayType} {n : Int} (ha : jat a < 24) (h0 : 0 ≤ n) (h1 : n < 60000) (hcu : cu + 1 ≤ R.cells) (hsu : su + n.toNat ≤ R.slots) (hd : decode cc pc = .ok (.newarray a, 2))
    (kk : jXW p l e R s m args below meth c Q D cA B b (pc + 2) L ((2, (h.1 : Int)) :: S) (jnew h (jat a) n.toNat) (cu + 1) (su + n.toNat)) : jXW p l e R s m args below meth c Q D cA B b pc L ((0, n) :: S) h cu su := by
  intro H locs ls hH hS hL hs
  obtain ⟨g1, g3⟩ := jms1 hs
  have hty : newarray.typeOf a = jty (jat a) ∧ 20 ≤ jat a ∧ componentBytes (newarray.typeOf a) ≤ 8 ∧ (∀ j, defaultValue (newarray.typeOf a) = jV B b (jat a) (jdef (jat a)) j) ∧ ∀ cX : ClassId, va_RA s cX (jty (jat a)) → s.vm.findClass ("[" ++ (newarray.typeOf a).toString) = some cX := by
    cases a <;> simp [jat] at ha <;> exact ⟨rfl, by decide, by decide, fun _ => rfl, fun _ h => h⟩
  obtain ⟨ty1, ty2, ty3, ty4, ty5⟩ := hty
  have hw := hts _ (jarrW a ha)
  rw [List.map_cons, jv_i]
  refine va_newaK hx hb hw rfl hd rfl (by rw [j32_0, j32_lt ⟨by omega, by omega⟩ ⟨by omega, by omega⟩]; omega) (j32_clamp h0 (by omega)) (by have := Nat.mul_le_mul_left n.toNat ty3; omega) hcu hsu (h := B + h.1) hH.1 fun H1 cX e1 z1 o1 hAr hNm => ?_
  have hcX : cX = cA (jat a) := Option.some.inj (hNm.symm.trans (ty5 _ (hK.2.1 _ ty2 (by omega)).2))
  subst hcX
  have hk := kk H1 locs ls (hH.new z1 o1 ⟨fun j _ => jdef_ok (Or.inr ⟨ty2, by omega⟩), Or.inr ⟨ty2, by omega, by rw [e1]; congr 2; funext j; exact ty4 j⟩⟩) (jS_new hS hH z1 o1) hL (jmc (jok_a.mpr (by omega)) g3)
  rw [List.map_cons, jv_r B b (by omega)] at hk
  exact hk
theorem jx_anew (hx : p.tables.exec = Jvm.exec) (hb : c.code = cc) (ho : s.vm.findClass own = some m.cls) (hK : jK D cA s) {pc t x : Nat} {C : String} {L S : List AV} {h : JH} {cu su : Nat} {n : Int} (ht : t = 24 ∨ t = 25) (hC : jty t = .object C) (hcl : (Cond.classLink own x C).before args s = true) (hov : va_AO C s) (h0 : 0 ≤ n) (h1 : n < 60000) (hcu : cu + 1 ≤ R.cells) (hsu : su + n.toNat ≤ R.slots) (hd : decode cc pc = .ok (.anewarray x, 3))
    (kk : jXW p l e R s m args below meth c Q D cA B b (pc + 3) L ((2, (h.1 : Int)) :: S) (jnew h t n.toNat) (cu + 1) (su + n.toNat)) : jXW p l e R s m args below meth c Q D cA B b pc L ((0, n) :: S) h cu su := by
  intro H locs ls hH hS hL hs
  obtain ⟨g1, g3⟩ := jms1 hs
  have hcl' : (Int32.ofInt n).toNatClampNeg = n.toNat := j32_clamp h0 (by omega)
  rw [List.map_cons, jv_i]
  refine W.anew hx hb ho hcl (va_AO.use hov) rfl hd rfl (by rw [j32_0, j32_lt ⟨by omega, by omega⟩ ⟨by omega, by omega⟩]; omega) (by rw [hcl']; omega) hcu (by rw [hcl']; exact hsu) fun cX kX comp f1 f2 f3 f4 => ?_
  rw [hcl']
  have hcX : cX = cA t := by
    have := (hK.2.1 t (by omega) (by omega)).2
    rw [hC] at this
    obtain ⟨_, _, _, _, _, q4⟩ := this
    exact Option.some.inj (f1.symm.trans q4)
  subst hcX
  generalize hH1 : H.push ({ cls := cA t, slots := Array.replicate n.toNat .null, vm := .none } : Cell) = H1
  have hsz := hH.1
  have z1 : H1.size = B + h.1 + 1 := by rw [← hH1, Array.size_push, hsz]
  have e1 : H1[B + h.1]? = some (arrV (cA t) n.toNat (fun _ => .null)) := by rw [← hH1, ← hsz, Array.getElem?_push_size, ← arrV_new]
  have o1 : ∀ q : Nat, q < B + h.1 → H1[q]? = H[q]? := fun q hq => by rw [← hH1, Array.getElem?_push, if_neg (by omega)]
  have hk := kk H1 locs ls (hH.new z1 o1 ⟨fun j _ => jdef_ok (Or.inr ⟨by omega, by omega⟩), Or.inr ⟨by omega, by omega, by rw [e1]; congr 2; funext j; rcases ht with e | e <;> subst e <;> rfl⟩⟩) (jS_new hS hH z1 o1) hL (jmc (jok_a.mpr (by omega)) g3)
  rw [List.map_cons, jv_r B b (by omega)] at hk
  show W p l e R s m args below meth c H1 locs (cu + 1) (su + n.toNat) Q (F0 m (pc + 3) ls (.ref H.size :: S.map (jv B b)))
  rw [hsz]
  exact hk
/-- the cell of a body -/
theorem jbody {H : Heap} {h : JH} {a t : Nat} (hH : jHp D cA B b H h) (ha : a < h.1) (ht : (h.2.1 a).1 = t) (h13 : t < 13) : ∃ cell : Cell, H[B + a]? = some cell ∧ cell.cls = D.1 t ∧ cell.vm = .none := by
  obtain ⟨-, hc2⟩ := hH.2 _ ha
  rw [ht] at hc2
  rcases hc2 with ⟨-, -, cell, q1, q2, q3, -⟩ | ⟨z, -⟩
  · exact ⟨cell, q1, q2, q3⟩
  · omega
theorem jfam_lt {f t : Nat} (hf : f < 13) (h : jfam f t = true) : t < 13 := by
  have := jfam_in h
  unfold jtags at this
  split at this
  · simp only [List.mem_cons, List.not_mem_nil, or_false] at this
    omega
  · simp only [List.mem_singleton] at this
    omega
theorem jx_asto (hx : p.tables.exec = Jvm.exec) (hb : c.code = cc) (hK : jK D cA s) {pc t f : Nat} {L S : List AV} {h : JH} {cu su : Nat} {r i v : Int} (htf : (t = 24 ∧ f = 4) ∨ (t = 25 ∧ f = 0)) (h0 : 0 ≤ r) (hlt : r.toNat < h.1) (ht : (h.2.1 r.toNat).1 = t) (hi0 : 0 ≤ i) (hi : i.toNat < (h.2.1 r.toNat).2) (hv0 : 0 ≤ v) (hv : v.toNat < h.1) (hfa : jfam f (h.2.1 v.toNat).1 = true) (hd : decode cc pc = .ok (.aastore, 1))
    (kk : jXW p l e R s m args below meth c Q D cA B b (pc + 1) L S (jwr h r.toNat i.toNat v) cu su) : jXW p l e R s m args below meth c Q D cA B b pc L ((2, v) :: (0, i) :: (2, r) :: S) h cu su := by
  intro H locs ls hH hS hL hs
  obtain ⟨g1, hs⟩ := jms1 hs
  obtain ⟨g4, g2, g3⟩ := jms2 hs
  have gi := jok_i.mp g4
  have t20 : 20 ≤ t ∧ t ≤ 25 := by omega
  obtain ⟨-, ha, hc⟩ := jarr hH hlt ht t20.1
  have hvt : (h.2.1 v.toNat).1 < 13 := jfam_lt (by omega) hfa
  obtain ⟨cell, q1, q2, q3⟩ := jbody hH hv rfl hvt
  obtain ⟨qv, hqv⟩ := jcl_some hvt
  have hcls := (hK.1 _ qv hqv).2
  obtain ⟨kC, hkC, -⟩ := hcls.2
  have hkd : ∀ j, jfkd t j = 2 := by intro j; rcases htf with ⟨e, -⟩ | ⟨e, -⟩ <;> subst e <;> rfl
  have key : ∃ (kA : Class) (comp : ClassId) (C : String) (kE : Class), s.vm.classes[cA t]? = some kA ∧ kA.kind = .array comp (.object C) ∧ s.vm.classes[comp]? = some kE ∧ s.vm.assignable (D.1 (h.2.1 v.toNat).1) comp = true := by
    have hra := (hK.2.1 t t20.1 t20.2).2
    rcases htf with ⟨e, e2⟩ | ⟨e, e2⟩
    · subst e
      subst e2
      obtain ⟨kA, comp, k1, k2, k3, -⟩ := (hra : va_RA s (cA 24) (.object RX4))
      have e4 : (h.2.1 v.toNat).1 = 4 := by have := jfam_in hfa; simpa [jtags] using this
      rw [e4] at hqv hcls hkC ⊢
      cases hqv
      have hcomp : comp = D.1 4 := Option.some.inj (k3.symm.trans hcls.1)
      subst hcomp
      exact ⟨kA, _, _, kC, k1, k2, hkC, va_assign hcls⟩
    · subst e
      subst e2
      obtain ⟨kA, comp, k1, k2, k3, -⟩ := (hra : va_RA s (cA 25) (.object RX0))
      obtain ⟨kE, hkE, -⟩ := Vm.findClass_spec k3
      refine ⟨kA, comp, _, kE, k1, k2, hkE, ?_⟩
      by_cases e0 : (h.2.1 v.toNat).1 = 0
      · rw [e0] at hqv hcls ⊢
        cases hqv
        have hcomp : comp = D.1 0 := Option.some.inj (k3.symm.trans hcls.1)
        subst hcomp
        exact va_assign hcls
      · exact vb_asgC (hK.2.2.1 _ (jcast _ _ hqv hfa e0)) _ _ k3 hcls.1
  obtain ⟨kA, comp, C, kE, k1, k2, k3, k4⟩ := key
  rw [List.map_cons, List.map_cons, List.map_cons, jv_r B b h0, jv_i, jv_r B b hv0]
  refine W.aast hx hb ha (fun q h => by cases h) (fun h => by cases h) k1 k2 rfl k3 ⟨by rw [j32_0, j32_lt gi ⟨by omega, by omega⟩]; omega, by rw [arrV_size, j32_clamp hi0 gi.2]; exact hi⟩ q1 (fun q h => by rw [q3] at h; cases h) (by rw [q2]; exact hkC) (by rw [q2]; exact k4) rfl rfl hd fun H1 e z oq => ?_
  rw [j32_clamp hi0 gi.2] at e ⊢
  refine kk H1 _ ls (hH.wr z oq ?_) (jS_put hS z oq) hL g3
  rw [ht]
  refine ⟨jcok_set hc ⟨by rw [hkd]; exact jok_a.mpr (by omega), fun q => by omega, fun q => by omega, fun q => by omega, fun q => by omega⟩, Or.inr ⟨t20.1, t20.2, ?_⟩⟩
  rw [e, jarr_upd (x := v)]
  rw [hkd, jv_r B b hv0]
theorem jcat_sum (S : List AV) (h : ∀ v ∈ S, jok v) : ((S.map (jv B b)).map fun v => v.category).sum = jwid S := by
  induction S with
  | nil => rfl
  | cons v r ih =>
    obtain ⟨g1, g2⟩ := jms1 h
    have := ih g2
    simp only [jwid, List.map_cons, List.sum_cons] at this ⊢
    rw [jv_cat B b g1, this]
theorem jx_obji (hx : p.tables.exec = Jvm.exec) (hb : c.code = cc) (ho : s.vm.findClass own = some m.cls) {pc x : Nat} {L S : List AV} {h : JH} {cu su : Nat} {r : Int} (hml : c.maxLocals = L.length) (h1 : (Cond.methodLink own x Lib.objectInit).before args s = true) (h2 : (Cond.instanceMethod Lib.objectInit).before args s = true) (h3 : (Cond.code Lib.objectInit ⟨#[0xb1]⟩ 1 none).before args s = true) (hf : 1 ≤ R.frames) (hl : 60 ≤ R.locals) (h0 : 0 ≤ r) (hw : jwid S ≤ 8) (hd : decode cc pc = .ok (.invokespecial x, 3))
    (kk : jXW p l e R s m args below meth c Q D cA B b (pc + 3) L S h cu su) : jXW p l e R s m args below meth c Q D cA B b pc L ((2, r) :: S) h cu su := by
  intro H locs ls hH hS hL hs
  obtain ⟨g1, g3⟩ := jms1 hs
  rw [List.map_cons, jv_r B b h0]
  refine W.objInit hx hb ho h1 h2 h3 rfl (by show ls.size = _; rw [hml]; exact hL.1) rfl hd hf ?_ (kk H locs ls hH hS hL g3)
  have := jcat_sum (B := B) (b := b) S g3
  show 2 * 0 + _ + 12 ≤ _
  rw [this]
  omega
theorem jnn {z : Int32} (hz : ¬ z < 0) : z.toInt = (z.toNatClampNeg : Int) := by
  have hz0 : (0 : Int) ≤ z.toInt := by
    have := Int32.not_lt.mp hz
    simpa using Int32.le_iff_toInt_le.mp this
  show z.toInt = ((z.toInt.toNat : Nat) : Int)
  omega
end JN
