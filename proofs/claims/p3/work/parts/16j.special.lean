/-! SPECIAL WRITES OF THE REFERENCE -/
def sp0 (a i : Nat) : Bool := (a == 0 && (i == 3 || i == 7)) || (a == 19 && (i == 3 || i == 4)) || a == 18 || a == 24
theorem Gd.wrE {G : GH} {h h' : JH} {a i t n : Nat} {v lo hi : Int} (g : Gd G h) (e : h' = jwr h a i v) (ha : AD a t n) (hx : sp0 a i = false) (ht : rT a i = (lo, hi)) (h1 : lo ≤ v) (h2 : v ≤ hi) (x : Ex h') : Gd G h' := by
  obtain ⟨g1, g2, g3, g4, g5, g6, g7, g8⟩ := g
  unfold sp0 at hx
  simp only [Bool.or_eq_false_iff, Bool.and_eq_false_iff, beq_eq_false_iff_ne] at hx
  have e1 := jwr_ty e
  have a83 := ha.1
  refine ⟨e1.1.trans g1, ⟨by rw [e1.1]; exact g2.1, by rw [e1.2]; exact g2.2⟩, fun b j hb hj => ?_, fun b hb hb2 => dOk_ne e (by omega) (g4 b hb hb2), fun j hj => ?_, fun j hj => ?_, ?_, x⟩
  · rw [jwr_v e]
    split
    · rename_i hc
      rw [hc.1, hc.2, ht]
      exact ⟨h1, h2⟩
    · exact g3 b j hb hj
  · rw [jw_ne e (by omega)] at hj
    rw [jw_ne e (by omega)]
    exact g5 j hj
  · rw [jw_ne e (by omega)] at hj
    rw [jw_ne e (by omega)]
    exact g6 j hj
  · rw [jw_ne e (by omega), jw_ne e (by omega)]
    exact g7
theorem Cs.wr {h h' : JH} {a i : Nat} {v : Int} (x : Cs h) (e : h' = jwr h a i v) (ha : 3 ≤ a) (c1 : a ≠ 46) (c2 : a ≠ 43) (c3 : a ≠ 42 ∨ i ≠ 1) : Cs h' := ⟨fun t ht => by
  rw [jw_ne e (Or.inl (by omega))] at ht
  rw [jw_ne e (Or.inl (by omega))]
  exact x.1 t ht, x.2.ne e c1 c2 c3⟩
theorem Cw.wr {h h' : JH} {a i : Nat} {v : Int} (x : Cw h) (e : h' = jwr h a i v) (ha : 3 ≤ a) : Cw h' := fun t ht => by
  rw [jw_ne e (Or.inl (by omega))] at ht
  rw [jw_ne e (Or.inl (by omega))]
  exact x t ht
theorem Sc.w43 {h h' : JH} {i : Nat} {v : Int} (x : Sc h) (e : h' = jwr h 43 i v) (hi : h.2.2 42 1 ≤ (i : Int)) : Sc h' := fun s t hs ht => by
  rw [jw_ne (k := 42) (j := 1) e (Or.inl (by decide)), jw_ne (k := 46) (j := 4 * s + t) e (Or.inl (by decide))]
  refine ⟨fun q => ?_, (x s t hs ht).2⟩
  rw [jw_ne (k := 43) (j := t) e (Or.inr (by omega))]
  exact (x s t hs ht).1 q
theorem Sc.things {h h' : JH} {v c : Int} (x : Sc h) (e : h' = jwr h 42 1 v) (hc : h.2.2 42 1 = c) (hv : v = c + 1) (hw : 2 ≤ h.2.2 43 c.toNat) : Sc h' := fun s t hs ht => by
  rw [jw_eq e, jw_ne (k := 46) (j := 4 * s + t) e (Or.inl (by decide)), jw_ne (k := 43) (j := t) e (Or.inl (by decide))]
  have y := x s t hs ht
  refine ⟨fun q => ?_, fun q => y.2 (by omega)⟩
  rcases Int.lt_or_le (t : Int) c with z | z
  · exact y.1 (by omega)
  · rw [y.2 (by omega), show t = c.toNat by omega]
    omega
theorem Sc.w46 {h h' : JH} {i s t : Nat} {v : Int} (x : Sc h) (e : h' = jwr h 46 i v) (hi : i = 4 * s + t) (t4 : t < 4) (ht : (t : Int) < h.2.2 42 1) (hv : v < h.2.2 43 t) : Sc h' := fun s' t' hs' ht' => by
  rw [jw_ne (k := 42) (j := 1) e (Or.inl (by decide)), jw_ne (k := 43) (j := t') e (Or.inl (by decide))]
  rcases Decidable.em (4 * s' + t' = i) with r | r
  · rw [r, jw_eq e]
    have et : t' = t := by omega
    subst et
    exact ⟨fun _ => hv, fun q => by omega⟩
  · rw [jw_ne (k := 46) (j := 4 * s' + t') e (Or.inr r)]
    exact x s' t' hs' ht'
theorem Gd.b48 {G : GH} {h : JH} (g : Gd G h) (q : Nat) (hq : (q : Int) < h.2.2 42 9) : h.2.2 48 q ≤ 100 := by
  have b := g.rg ad42 (i := 9) (by decide) rf42_9
  exact (g.rg ad48 (i := q) (by omega) (rt48 q)).2
theorem Rf.wrA {h h' : JH} {a i : Nat} {v : Int} (x : Rf h) (e : h' = jwr h a i v) (ha : a ≠ 42) (b : ∀ q : Nat, (q : Int) < h.2.2 42 9 → h.2.2 48 q ≤ 100)
    (c1 : a = 43 → h.2.2 42 1 ≤ (i : Int)) (c2 : a = 45 → 1 ≤ v) (c3 : a = 48 → h.2.2 42 9 ≤ (i : Int)) (c4 : a = 49 → 100 * h.2.2 42 9 ≤ (i : Int))
    (c5 : a = 50 → 100 * h.2.2 42 9 ≤ (i : Int) ∨ h.2.2 49 i = 0) (c6 : a = 51 → 400 * h.2.2 42 9 ≤ (i : Int)) (c7 : a = 53 → 100 * h.2.2 42 9 ≤ (i : Int) ∨ (0 ≤ v ∧ v < h.2.2 50 i))
    (c8 : a = 56 ∨ a = 57 ∨ a = 58 ∨ a = 59 → h.2.2 42 22 + h.2.2 42 23 ≤ (i : Int)) : Rf h' := by
  obtain ⟨x1, x2, x3, x4, x5⟩ := x
  have f : ∀ j, h'.2.2 42 j = h.2.2 42 j := fun j => jw_ne e (Or.inl (by omega))
  refine ⟨fun t ht => ?_, fun t ht => ?_, fun q hq => ?_, by rw [f, f]; exact x4, fun j hj => ?_⟩
  · rw [f] at ht
    rw [jw_ne e (by omega)]
    exact x1 t ht
  · rw [f] at ht
    rw [jwr_v e]
    split
    · rename_i hc
      exact c2 hc.1.symm
    · exact x2 t ht
  · rw [f] at hq
    have bq := b q hq
    have e48 : h'.2.2 48 q = h.2.2 48 q := jw_ne e (by omega)
    rw [e48]
    refine Tr.fr (by rw [f]; exact Int.le_refl _) (fun t ht => jw_ne e (by omega)) (x3 q hq) (fun j j1 j2 => jw_ne e (by omega)) (fun j j1 j2 hk => ?_) (fun j j1 j2 => jw_ne e (by omega)) (fun j j1 j2 hk p1 p2 => ?_)
    · rcases Decidable.em (a = 50 ∧ j = i) with ⟨r1, r2⟩ | r
      · subst r2
        rcases c5 r1 with z | z
        · omega
        · exact absurd z hk
      · exact jw_ne e (by omega)
    · rcases Decidable.em (a = 53 ∧ j = i) with ⟨r1, r2⟩ | r
      · subst r1
        subst r2
        rw [jw_eq e]
        rcases c7 rfl with z | z
        · omega
        · exact z
      · rw [jw_ne e (by omega)]
        exact ⟨p1, p2⟩
  · rw [f, f] at hj
    have y := x5 j hj
    have f56 : h'.2.2 56 j = h.2.2 56 j := jw_ne e (by omega)
    have f57 : h'.2.2 57 j = h.2.2 57 j := jw_ne e (by omega)
    have f58 : h'.2.2 58 j = h.2.2 58 j := jw_ne e (by omega)
    have f59 : h'.2.2 59 j = h.2.2 59 j := jw_ne e (by omega)
    refine ⟨fun q => ?_, fun q => ?_, fun q => ?_⟩
    · rw [f57, f58, f59]
      rw [f56] at q
      exact y.1 q
    · rw [f56] at q
      obtain ⟨y0, y1, y2⟩ := y.2.1 q
      rw [f57, f]
      refine ⟨y0, y1, ?_⟩
      rw [jw_ne e (by omega)]
      exact y2
    · rw [f58, f59]
      rw [f56] at q
      exact y.2.2 q
theorem Rf.fld {h h' : JH} {i : Nat} {v : Int} (x : Rf h) (e : h' = jwr h 42 i v) (h1 : h.2.2 42 1 ≤ h'.2.2 42 1) (h2 : ∀ t : Nat, (t : Int) < h'.2.2 42 1 → 2 ≤ h.2.2 43 t) (h3 : ∀ t : Nat, (t : Int) < 9 * h'.2.2 42 1 → 1 ≤ h.2.2 45 t) (h4 : h.2.2 42 9 ≤ h'.2.2 42 9) (h5 : ∀ q : Nat, (q : Int) < h'.2.2 42 9 → Tr h q 13 0 (h.2.2 48 q).toNat []) (h6 : h'.2.2 42 22 + h'.2.2 42 23 ≤ 40) (h7 : ∀ j : Nat, (j : Int) < h'.2.2 42 22 + h'.2.2 42 23 → NtOk h j) : Rf h' := by
  have f : ∀ a j, a ≠ 42 → h'.2.2 a j = h.2.2 a j := fun a j ha => jw_ne e (Or.inl ha)
  refine ⟨fun t ht => by rw [f 43 _ (by decide)]; exact h2 t ht, fun t ht => by rw [f 45 _ (by decide)]; exact h3 t ht, fun q hq => ?_, h6, fun j hj => ?_⟩
  · rw [f 48 _ (by decide)]
    exact Tr.fr h1 (fun t _ => f _ _ (by decide)) (h5 q hq) (fun j _ _ => f _ _ (by decide)) (fun j _ _ _ => f _ _ (by decide)) (fun j _ _ => f _ _ (by decide)) (fun j _ _ _ a b => by rw [f 53 _ (by decide)]; exact ⟨a, b⟩)
  · have y := h7 j hj
    refine ⟨fun q => ?_, fun q => ?_, fun q => ?_⟩
    · rw [f 57 _ (by decide), f 58 _ (by decide), f 59 _ (by decide)]
      rw [f 56 _ (by decide)] at q
      exact y.1 q
    · rw [f 56 _ (by decide)] at q
      obtain ⟨y0, y1, y2⟩ := y.2.1 q
      rw [f 57 _ (by decide), f 49 _ (by decide)]
      exact ⟨y0, by omega, y2⟩
    · rw [f 58 _ (by decide), f 59 _ (by decide)]
      rw [f 56 _ (by decide)] at q
      exact y.2.2 q
section SpecialG
variable {G : GH} {h h' : JH} {i : Nat} {v : Int}
theorem Gd.s43 (g : Gd G h) (e : h' = jwr h 43 i v) (hi : h.2.2 42 1 ≤ (i : Int)) (b1 : 0 ≤ v) (b2 : v ≤ 3) : Gd G h' :=
  g.wrE e ad43 rfl (rt43 i) b1 b2 ⟨⟨g.ex.1.1.wr e (by decide), g.ex.1.2.w43 e hi⟩, g.ex.2.wrA e (by decide) g.b48 (fun _ => hi) (fun q => absurd q (by decide)) (fun q => absurd q (by decide)) (fun q => absurd q (by decide)) (fun q => absurd q (by decide)) (fun q => absurd q (by decide)) (fun q => absurd q (by decide)) (fun q => absurd q (by decide))⟩
theorem Gd.s45 (g : Gd G h) (e : h' = jwr h 45 i v) (b1 : 1 ≤ v) (b2 : v ≤ 99) : Gd G h' :=
  g.wrE e ad45 rfl (rt45 i) (by omega) b2 ⟨g.ex.1.wr e (by decide) (by decide) (by decide) (Or.inl (by decide)), g.ex.2.wrA e (by decide) g.b48 (fun q => absurd q (by decide)) (fun _ => b1) (fun q => absurd q (by decide)) (fun q => absurd q (by decide)) (fun q => absurd q (by decide)) (fun q => absurd q (by decide)) (fun q => absurd q (by decide)) (fun q => absurd q (by decide))⟩
theorem Gd.s46 {s t : Nat} (g : Gd G h) (e : h' = jwr h 46 i v) (hi : i = 4 * s + t) (t4 : t < 4) (ht : (t : Int) < h.2.2 42 1) (hv : v < h.2.2 43 t) (b1 : 0 ≤ v) (b2 : v ≤ 2) : Gd G h' :=
  g.wrE e ad46 rfl (rt46 i) b1 b2 ⟨⟨g.ex.1.1.wr e (by decide), g.ex.1.2.w46 e hi t4 ht hv⟩, g.ex.2.wrA e (by decide) g.b48 (fun q => absurd q (by decide)) (fun q => absurd q (by decide)) (fun q => absurd q (by decide)) (fun q => absurd q (by decide)) (fun q => absurd q (by decide)) (fun q => absurd q (by decide)) (fun q => absurd q (by decide)) (fun q => absurd q (by decide))⟩
theorem Gd.s48 (g : Gd G h) (e : h' = jwr h 48 i v) (hi : h.2.2 42 9 ≤ (i : Int)) (b1 : 0 ≤ v) (b2 : v ≤ 100) : Gd G h' :=
  g.wrE e ad48 rfl (rt48 i) b1 b2 ⟨g.ex.1.wr e (by decide) (by decide) (by decide) (Or.inl (by decide)), g.ex.2.wrA e (by decide) g.b48 (fun q => absurd q (by decide)) (fun q => absurd q (by decide)) (fun _ => hi) (fun q => absurd q (by decide)) (fun q => absurd q (by decide)) (fun q => absurd q (by decide)) (fun q => absurd q (by decide)) (fun q => absurd q (by decide))⟩
theorem Gd.s49 (g : Gd G h) (e : h' = jwr h 49 i v) (hi : 100 * h.2.2 42 9 ≤ (i : Int)) (b1 : 0 ≤ v) (b2 : v ≤ 2) : Gd G h' :=
  g.wrE e ad49 rfl (rt49 i) b1 b2 ⟨g.ex.1.wr e (by decide) (by decide) (by decide) (Or.inl (by decide)), g.ex.2.wrA e (by decide) g.b48 (fun q => absurd q (by decide)) (fun q => absurd q (by decide)) (fun q => absurd q (by decide)) (fun _ => hi) (fun q => absurd q (by decide)) (fun q => absurd q (by decide)) (fun q => absurd q (by decide)) (fun q => absurd q (by decide))⟩
theorem Gd.s50 (g : Gd G h) (e : h' = jwr h 50 i v) (hi : 100 * h.2.2 42 9 ≤ (i : Int) ∨ h.2.2 49 i = 0) (b1 : -999 ≤ v) (b2 : v ≤ 999) : Gd G h' :=
  g.wrE e ad50 rfl (rt50 i) b1 b2 ⟨g.ex.1.wr e (by decide) (by decide) (by decide) (Or.inl (by decide)), g.ex.2.wrA e (by decide) g.b48 (fun q => absurd q (by decide)) (fun q => absurd q (by decide)) (fun q => absurd q (by decide)) (fun q => absurd q (by decide)) (fun _ => hi) (fun q => absurd q (by decide)) (fun q => absurd q (by decide)) (fun q => absurd q (by decide))⟩
theorem Gd.s51 (g : Gd G h) (e : h' = jwr h 51 i v) (hi : 400 * h.2.2 42 9 ≤ (i : Int)) (b1 : -128 ≤ v) (b2 : v ≤ 127) : Gd G h' :=
  g.wrE e ad51 rfl (rt51 i) b1 b2 ⟨g.ex.1.wr e (by decide) (by decide) (by decide) (Or.inl (by decide)), g.ex.2.wrA e (by decide) g.b48 (fun q => absurd q (by decide)) (fun q => absurd q (by decide)) (fun q => absurd q (by decide)) (fun q => absurd q (by decide)) (fun q => absurd q (by decide)) (fun _ => hi) (fun q => absurd q (by decide)) (fun q => absurd q (by decide))⟩
theorem Gd.s53 (g : Gd G h) (e : h' = jwr h 53 i v) (hi : 100 * h.2.2 42 9 ≤ (i : Int) ∨ (0 ≤ v ∧ v < h.2.2 50 i)) (b1 : 0 ≤ v) (b2 : v ≤ 3) : Gd G h' :=
  g.wrE e ad53 rfl (rt53 i) b1 b2 ⟨g.ex.1.wr e (by decide) (by decide) (by decide) (Or.inl (by decide)), g.ex.2.wrA e (by decide) g.b48 (fun q => absurd q (by decide)) (fun q => absurd q (by decide)) (fun q => absurd q (by decide)) (fun q => absurd q (by decide)) (fun q => absurd q (by decide)) (fun q => absurd q (by decide)) (fun _ => hi) (fun q => absurd q (by decide))⟩
theorem Gd.sNt {a t n : Nat} {lo hi : Int} (g : Gd G h) (e : h' = jwr h a i v) (ha : AD a t n) (hs : a = 56 ∨ a = 57 ∨ a = 58 ∨ a = 59) (hi' : h.2.2 42 22 + h.2.2 42 23 ≤ (i : Int)) (hr : rT a i = (lo, hi)) (b1 : lo ≤ v) (b2 : v ≤ hi) : Gd G h' :=
  g.wrE e ha (by rcases hs with q | q | q | q <;> subst q <;> rfl) hr b1 b2 ⟨g.ex.1.wr e (by omega) (by omega) (by omega) (Or.inl (by omega)), g.ex.2.wrA e (by omega) g.b48 (fun q => by omega) (fun q => by omega) (fun q => by omega) (fun q => by omega) (fun q => by omega) (fun q => by omega) (fun q => by omega) (fun _ => hi')⟩
theorem Gd.things {c : Int} (g : Gd G h) (e : h' = jwr h 42 1 v) (hc : h.2.2 42 1 = c) (hv : v = c + 1) (b2 : v ≤ 4) (hw : 2 ≤ h.2.2 43 c.toNat) (h9 : ∀ j : Nat, j < 9 → 1 ≤ h.2.2 45 (9 * c.toNat + j)) : Gd G h' := by
  have b := g.rg ad42 (i := 1) (by decide) rf42_1
  rw [hc] at b
  have f : ∀ j, j ≠ 1 → h'.2.2 42 j = h.2.2 42 j := fun j hj => jw_ne e (Or.inr hj)
  obtain ⟨x1, x2, x3, x4, x5⟩ := g.ex.2
  refine g.wrE e ad42 rfl rf42_1 (by omega) b2 ⟨⟨g.ex.1.1.wr e (by decide), g.ex.1.2.things e hc hv hw⟩, Rf.fld g.ex.2 e (by rw [jw_eq e]; omega) (fun t ht => ?_) (fun t ht => ?_) (by rw [f 9 (by decide)]; exact Int.le_refl _) (fun q hq => x3 q (by rw [← f 9 (by decide)]; exact hq)) (by rw [f 22 (by decide), f 23 (by decide)]; exact x4) (fun j hj => x5 j (by rw [← f 22 (by decide), ← f 23 (by decide)]; exact hj))⟩
  · rw [jw_eq e] at ht
    by_cases q : (t : Int) < c
    · exact x1 t (by omega)
    · rw [show t = c.toNat by omega]; exact hw
  · rw [jw_eq e] at ht
    by_cases q : (t : Int) < 9 * c
    · exact x2 t (by omega)
    · rw [show t = 9 * c.toNat + (t - 9 * c.toNat) by omega]; exact h9 _ (by omega)
theorem Gd.less22 (g : Gd G h) (e : h' = jwr h 42 22 v) (b1 : 0 ≤ v) (b2 : v ≤ h.2.2 42 22) : Gd G h' := by
  have b := g.rg ad42 (i := 22) (by decide) rf42_22
  have f : ∀ j, j ≠ 22 → h'.2.2 42 j = h.2.2 42 j := fun j hj => jw_ne e (Or.inr hj)
  obtain ⟨x1, x2, x3, x4, x5⟩ := g.ex.2
  exact g.wrE e ad42 rfl rf42_22 b1 (by omega) ⟨g.ex.1.wr e (by decide) (by decide) (by decide) (Or.inr (by decide)), Rf.fld g.ex.2 e (by rw [f 1 (by decide)]; exact Int.le_refl _) (fun t ht => x1 t (by rw [← f 1 (by decide)]; exact ht)) (fun t ht => x2 t (by rw [← f 1 (by decide)]; exact ht)) (by rw [f 9 (by decide)]; exact Int.le_refl _) (fun q hq => x3 q (by rw [← f 9 (by decide)]; exact hq)) (by rw [jw_eq e, f 23 (by decide)]; omega) (fun j hj => x5 j (by rw [jw_eq e, f 23 (by decide)] at hj; omega))⟩
theorem Gd.less23 (g : Gd G h) (e : h' = jwr h 42 23 v) (b1 : 0 ≤ v) (b2 : v ≤ h.2.2 42 23) : Gd G h' := by
  have b := g.rg ad42 (i := 23) (by decide) rf42_23
  have f : ∀ j, j ≠ 23 → h'.2.2 42 j = h.2.2 42 j := fun j hj => jw_ne e (Or.inr hj)
  obtain ⟨x1, x2, x3, x4, x5⟩ := g.ex.2
  exact g.wrE e ad42 rfl rf42_23 b1 (by omega) ⟨g.ex.1.wr e (by decide) (by decide) (by decide) (Or.inr (by decide)), Rf.fld g.ex.2 e (by rw [f 1 (by decide)]; exact Int.le_refl _) (fun t ht => x1 t (by rw [← f 1 (by decide)]; exact ht)) (fun t ht => x2 t (by rw [← f 1 (by decide)]; exact ht)) (by rw [f 9 (by decide)]; exact Int.le_refl _) (fun q hq => x3 q (by rw [← f 9 (by decide)]; exact hq)) (by rw [jw_eq e, f 22 (by decide)]; omega) (fun j hj => x5 j (by rw [jw_eq e, f 22 (by decide)] at hj; omega))⟩
theorem Gd.more22 (g : Gd G h) (e : h' = jwr h 42 22 v) (hv : v = h.2.2 42 22 + 1) (hu : h.2.2 42 23 = 0) (b2 : v ≤ 40) (nt : NtOk h (h.2.2 42 22).toNat) : Gd G h' := by
  have b := g.rg ad42 (i := 22) (by decide) rf42_22
  have f : ∀ j, j ≠ 22 → h'.2.2 42 j = h.2.2 42 j := fun j hj => jw_ne e (Or.inr hj)
  obtain ⟨x1, x2, x3, x4, x5⟩ := g.ex.2
  exact g.wrE e ad42 rfl rf42_22 (by omega) b2 ⟨g.ex.1.wr e (by decide) (by decide) (by decide) (Or.inr (by decide)), Rf.fld g.ex.2 e (by rw [f 1 (by decide)]; exact Int.le_refl _) (fun t ht => x1 t (by rw [← f 1 (by decide)]; exact ht)) (fun t ht => x2 t (by rw [← f 1 (by decide)]; exact ht)) (by rw [f 9 (by decide)]; exact Int.le_refl _) (fun q hq => x3 q (by rw [← f 9 (by decide)]; exact hq)) (by rw [jw_eq e, f 23 (by decide)]; omega) (fun j hj => by
    rw [jw_eq e, f 23 (by decide)] at hj
    by_cases q : (j : Int) < h.2.2 42 22
    · exact x5 j (by omega)
    · rw [show j = (h.2.2 42 22).toNat by omega]; exact nt)⟩
theorem Gd.both {h1 : JH} {w : Int} (g : Gd G h) (e1 : h1 = jwr h 42 22 v) (e2 : h' = jwr h1 42 23 w) (b1 : 0 ≤ v) (b2 : 0 ≤ w) (hs : v + w = h.2.2 42 22 + h.2.2 42 23) : Gd G h' := by
  obtain ⟨x1, x2, x3, x4, x5⟩ := g.ex.2
  have f1 : ∀ a j, (a ≠ 42 ∨ j ≠ 22) → h1.2.2 a j = h.2.2 a j := fun a j hj => jw_ne e1 hj
  have f2 : ∀ a j, (a ≠ 42 ∨ j ≠ 23) → h'.2.2 a j = h1.2.2 a j := fun a j hj => jw_ne e2 hj
  have v22 : h'.2.2 42 22 = v := by rw [f2 42 22 (by omega), jw_eq e1]
  have v23 : h'.2.2 42 23 = w := jw_eq e2
  have hR : Rf h' := by
    have f : ∀ a j, (a ≠ 42 ∨ (j ≠ 22 ∧ j ≠ 23)) → h'.2.2 a j = h.2.2 a j := fun a j hj => by rw [f2 a j (by omega), f1 a j (by omega)]
    refine ⟨fun t ht => ?_, fun t ht => ?_, fun q hq => ?_, by rw [v22, v23]; omega, fun j hj => ?_⟩
    · rw [f 42 1 (by omega)] at ht
      rw [f 43 _ (by omega)]
      exact x1 t ht
    · rw [f 42 1 (by omega)] at ht
      rw [f 45 _ (by omega)]
      exact x2 t ht
    · rw [f 42 9 (by omega)] at hq
      rw [f 48 _ (by omega)]
      exact Tr.fr (by rw [f 42 1 (by omega)]; exact Int.le_refl _) (fun t _ => f _ _ (by omega)) (x3 q hq) (fun j _ _ => f _ _ (by omega)) (fun j _ _ _ => f _ _ (by omega)) (fun j _ _ => f _ _ (by omega)) (fun j _ _ _ a b => by rw [f 53 _ (by omega)]; exact ⟨a, b⟩)
    · rw [v22, v23] at hj
      have y := x5 j (by omega)
      refine ⟨fun q => ?_, fun q => ?_, fun q => ?_⟩
      · rw [f 57 _ (by omega), f 58 _ (by omega), f 59 _ (by omega)]
        rw [f 56 _ (by omega)] at q
        exact y.1 q
      · rw [f 56 _ (by omega)] at q
        rw [f 57 _ (by omega), f 49 _ (by omega), f 42 9 (by omega)]
        exact y.2.1 q
      · rw [f 58 _ (by omega), f 59 _ (by omega)]
        rw [f 56 _ (by omega)] at q
        exact y.2.2 q
  have hC : Cs h' := (g.ex.1.wr e1 (by decide) (by decide) (by decide) (Or.inr (by decide))).wr e2 (by decide) (by decide) (by decide) (Or.inr (by decide))
  obtain ⟨g1, g2, g3, g4, g5, g6, g7, g8⟩ := g
  have t1 := jwr_ty e1
  have t2 := jwr_ty e2
  refine ⟨by rw [t2.1, t1.1]; exact g1, ⟨by rw [t2.1, t1.1]; exact g2.1, by rw [t2.2, t1.2]; exact g2.2⟩, fun b j hb hj => ?_, fun b hb hb2 => dOk_ne e2 (by omega) (dOk_ne e1 (by omega) (g4 b hb hb2)), fun j hj => ?_, fun j hj => ?_, ?_, hC, hR⟩
  · rcases Decidable.em (b = 42 ∧ j = 22) with ⟨r1, r2⟩ | r
    · subst r1
      subst r2
      rw [rf42_22, v22]
      have : h.2.2 42 22 + h.2.2 42 23 ≤ 40 := x4
      exact ⟨b1, by omega⟩
    · rcases Decidable.em (b = 42 ∧ j = 23) with ⟨r1, r2⟩ | r'
      · subst r1
        subst r2
        rw [rf42_23, v23]
        have : h.2.2 42 22 + h.2.2 42 23 ≤ 40 := x4
        exact ⟨b2, by omega⟩
      · rw [f2 b j (by omega), f1 b j (by omega)]
        exact g3 b j hb hj
  · rw [f2 _ _ (by omega), f1 _ _ (by omega)] at hj
    rw [f2 _ _ (by omega), f1 _ _ (by omega)]
    exact g5 j hj
  · rw [f2 _ _ (by omega), f1 _ _ (by omega)] at hj
    rw [f2 _ _ (by omega), f1 _ _ (by omega)]
    exact g6 j hj
  · rw [f2 19 _ (by omega), f1 19 _ (by omega), f2 19 _ (by omega), f1 19 _ (by omega)]
    exact g7
theorem Gd.quarrels {c : Int} (g : Gd G h) (e : h' = jwr h 42 9 v) (hc : h.2.2 42 9 = c) (hv : v = c + 1) (b2 : v ≤ 6) (tr : Tr h c.toNat 13 0 (h.2.2 48 c.toNat).toNat []) : Gd G h' := by
  have b := g.rg ad42 (i := 9) (by decide) rf42_9
  rw [hc] at b
  have f : ∀ j, j ≠ 9 → h'.2.2 42 j = h.2.2 42 j := fun j hj => jw_ne e (Or.inr hj)
  obtain ⟨x1, x2, x3, x4, x5⟩ := g.ex.2
  exact g.wrE e ad42 rfl rf42_9 (by omega) b2 ⟨g.ex.1.wr e (by decide) (by decide) (by decide) (Or.inr (by decide)), Rf.fld g.ex.2 e (by rw [f 1 (by decide)]; exact Int.le_refl _) (fun t ht => x1 t (by rw [← f 1 (by decide)]; exact ht)) (fun t ht => x2 t (by rw [← f 1 (by decide)]; exact ht)) (by rw [jw_eq e]; omega) (fun q hq => by
    rw [jw_eq e] at hq
    by_cases z : (q : Int) < c
    · exact x3 q (by omega)
    · rw [show q = c.toNat by omega]; exact tr) (by rw [f 22 (by decide), f 23 (by decide)]; exact x4) (fun j hj => x5 j (by rw [← f 22 (by decide), ← f 23 (by decide)]; exact hj))⟩
/-- the changes move down by one -/
theorem Gd.shift {h1 h2 h3 : JH} {k : Nat} {w1 w2 w3 w4 : Int} (g : Gd G h) (hd : h.2.2 42 22 = 40) (k1 : 1 ≤ k) (k2 : k < 40) (e1 : h1 = jwr h 56 (k - 1) w1) (e2 : h2 = jwr h1 57 (k - 1) w2) (e3 : h3 = jwr h2 58 (k - 1) w3) (e4 : h' = jwr h3 59 (k - 1) w4) (v1 : h.2.2 56 k = w1) (v2 : h.2.2 57 k = w2) (v3 : h.2.2 58 k = w3) (v4 : h.2.2 59 k = w4) : Gd G h' := by
  have r1 := g.rg ad56 (i := k) (by omega) (rt56 k)
  have r2 := g.rg ad57 (i := k) (by omega) (rt57 k)
  have r3 := g.rg ad58 (i := k) (by omega) (rt58 k)
  have r4 := g.rg ad59 (i := k) (by omega) (rt59 k)
  have r5 := g.rg ad42 (i := 23) (by decide) rf42_23
  obtain ⟨x1, x2, x3, x4, x5⟩ := g.ex.2
  have F : ∀ a j, ¬ (56 ≤ a ∧ a ≤ 59 ∧ j = k - 1) → h'.2.2 a j = h.2.2 a j := fun a j n => by rw [jw_ne e4 (by omega), jw_ne e3 (by omega), jw_ne e2 (by omega), jw_ne e1 (by omega)]
  have u1 : h'.2.2 56 (k - 1) = h.2.2 56 k := by rw [jw_ne e4 (by omega), jw_ne e3 (by omega), jw_ne e2 (by omega), jw_eq e1, v1]
  have u2 : h'.2.2 57 (k - 1) = h.2.2 57 k := by rw [jw_ne e4 (by omega), jw_ne e3 (by omega), jw_eq e2, v2]
  have u3 : h'.2.2 58 (k - 1) = h.2.2 58 k := by rw [jw_ne e4 (by omega), jw_eq e3, v3]
  have u4 : h'.2.2 59 (k - 1) = h.2.2 59 k := by rw [jw_eq e4, v4]
  have hR : Rf h' := by
    refine ⟨fun t ht => ?_, fun t ht => ?_, fun q hq => ?_, by rw [F 42 22 (by omega), F 42 23 (by omega)]; exact x4, fun j hj => ?_⟩
    · rw [F 42 1 (by omega)] at ht
      rw [F 43 _ (by omega)]
      exact x1 t ht
    · rw [F 42 1 (by omega)] at ht
      rw [F 45 _ (by omega)]
      exact x2 t ht
    · rw [F 42 9 (by omega)] at hq
      rw [F 48 _ (by omega)]
      exact Tr.fr (by rw [F 42 1 (by omega)]; exact Int.le_refl _) (fun t _ => F _ _ (by omega)) (x3 q hq) (fun j _ _ => F _ _ (by omega)) (fun j _ _ _ => F _ _ (by omega)) (fun j _ _ => F _ _ (by omega)) (fun j _ _ _ a b => by rw [F 53 _ (by omega)]; exact ⟨a, b⟩)
    · rw [F 42 22 (by omega), F 42 23 (by omega)] at hj
      rcases Decidable.em (j = k - 1) with r | r
      · subst r
        have y := x5 k (by omega)
        refine ⟨fun q => ?_, fun q => ?_, fun q => ?_⟩
        · rw [u2, u3, u4]
          rw [u1] at q
          exact y.1 q
        · rw [u1] at q
          rw [u2, F 49 _ (by omega), F 42 9 (by omega)]
          exact y.2.1 q
        · rw [u3, u4]
          rw [u1] at q
          exact y.2.2 q
      · have y := x5 j hj
        refine ⟨fun q => ?_, fun q => ?_, fun q => ?_⟩
        · rw [F 57 _ (by omega), F 58 _ (by omega), F 59 _ (by omega)]
          rw [F 56 _ (by omega)] at q
          exact y.1 q
        · rw [F 56 _ (by omega)] at q
          rw [F 57 _ (by omega), F 49 _ (by omega), F 42 9 (by omega)]
          exact y.2.1 q
        · rw [F 58 _ (by omega), F 59 _ (by omega)]
          rw [F 56 _ (by omega)] at q
          exact y.2.2 q
  have hC : Cs h' := (((g.ex.1.wr e1 (by decide) (by decide) (by decide) (Or.inl (by decide))).wr e2 (by decide) (by decide) (by decide) (Or.inl (by decide))).wr e3 (by decide) (by decide) (by decide) (Or.inl (by decide))).wr e4 (by decide) (by decide) (by decide) (Or.inl (by decide))
  obtain ⟨g1, g2, g3, g4, g5, g6, g7, g8⟩ := g
  have t1 := jwr_ty e1
  have t2 := jwr_ty e2
  have t3 := jwr_ty e3
  have t4 := jwr_ty e4
  refine ⟨by rw [t4.1, t3.1, t2.1, t1.1]; exact g1, ⟨by rw [t4.1, t3.1, t2.1, t1.1]; exact g2.1, by rw [t4.2, t3.2, t2.2, t1.2]; exact g2.2⟩, fun b j hb hj => ?_, fun b hb hb2 => dOk_ne e4 (by omega) (dOk_ne e3 (by omega) (dOk_ne e2 (by omega) (dOk_ne e1 (by omega) (g4 b hb hb2)))), fun j hj => ?_, fun j hj => ?_, ?_, hC, hR⟩
  · rcases Decidable.em (56 ≤ b ∧ b ≤ 59 ∧ j = k - 1) with ⟨z1, z2, z3⟩ | z
    · subst z3
      rcases (show b = 56 ∨ b = 57 ∨ b = 58 ∨ b = 59 by omega) with q | q | q | q <;> subst q
      · rw [rt56, u1]; exact r1
      · rw [rt57, u2]; exact r2
      · rw [rt58, u3]; exact r3
      · rw [rt59, u4]; exact r4
    · rw [F b j z]
      exact g3 b j hb hj
  · rw [F _ _ (by omega)] at hj
    rw [F _ _ (by omega)]
    exact g5 j hj
  · rw [F _ _ (by omega)] at hj
    rw [F _ _ (by omega)]
    exact g6 j hj
  · rw [F 19 _ (by omega), F 19 _ (by omega)]
    exact g7
end SpecialG
/-! a node of a tree -/
def NdOk (h : JH) (q n e : Nat) : Prop :=
  (h.2.2 49 (100 * q + n) = 1 → 1 ≤ h.2.2 50 (100 * q + n) ∧ h.2.2 50 (100 * q + n) ≤ 4 ∧ 0 ≤ h.2.2 53 (100 * q + n) ∧ h.2.2 53 (100 * q + n) < h.2.2 50 (100 * q + n) ∧ ∀ w : Nat, (w : Int) < h.2.2 50 (100 * q + n) → (n : Int) < h.2.2 51 (4 * (100 * q + n) + w) ∧ h.2.2 51 (4 * (100 * q + n) + w) < (e : Int)) ∧
  (h.2.2 49 (100 * q + n) = 2 → 0 ≤ h.2.2 50 (100 * q + n) ∧ h.2.2 50 (100 * q + n) < h.2.2 42 1 ∧ ∀ w : Nat, (w : Int) < h.2.2 43 (h.2.2 50 (100 * q + n)).toNat → (n : Int) < h.2.2 51 (4 * (100 * q + n) + w) ∧ h.2.2 51 (4 * (100 * q + n) + w) < (e : Int))
theorem NdOk.mono {h : JH} {q n e e' : Nat} (x : NdOk h q n e) (he : e ≤ e') : NdOk h q n e' := by
  refine ⟨fun k => ?_, fun k => ?_⟩
  · obtain ⟨a, b, c, d, z⟩ := x.1 k
    exact ⟨a, b, c, d, fun w hw => ⟨(z w hw).1, by have := (z w hw).2; omega⟩⟩
  · obtain ⟨a, b, z⟩ := x.2 k
    exact ⟨a, b, fun w hw => ⟨(z w hw).1, by have := (z w hw).2; omega⟩⟩
theorem chain_at {c : Nat → Nat} : ∀ {k m : Nat}, c 0 ≤ m → m < c k → ∃ w, w < k ∧ c w ≤ m ∧ m < c (w + 1) := by
  intro k
  induction k with
  | zero => intro m h1 h2; omega
  | succ k ih =>
    intro m h1 h2
    rcases Nat.lt_or_ge m (c k) with z | z
    · obtain ⟨w, a, b, d⟩ := ih h1 z
      exact ⟨w, by omega, b, d⟩
    · exact ⟨k, by omega, z, h2⟩
theorem Tr.nd {h : JH} {q : Nat} : ∀ {N n e : Nat} {S : List Nat}, Tr h q N n e S → ∀ m, n ≤ m → m < e → NdOk h q m e := by
  intro N
  induction N with
  | zero => intro n e S x; exact x.elim
  | succ N ih =>
    intro n e S x m m1 m2
    rcases x with ⟨k0, x⟩ | ⟨k0, k, c, hv, k1, k4, hp, c0, ck, hc⟩ | ⟨k0, t, k, c, hv, ht, hS, hw, k1, c0, ck, hc⟩
    · rw [show m = n by omega]
      exact ⟨fun z => absurd (k0.symm.trans z) (by decide), fun z => absurd (k0.symm.trans z) (by decide)⟩
    · rcases Nat.lt_or_ge n m with z | z
      · obtain ⟨w, w1, w2, w3⟩ := chain_at (c := c) (k := k) (m := m) (by omega) (by omega)
        exact (ih (hc w w1).2.2 m w2 w3).mono (by rw [← ck]; exact chain_to (fun w hw => (hc w hw).2.1) (w + 1) (by omega))
      · rw [show m = n by omega]
        refine ⟨fun _ => ⟨by omega, by omega, hp.1, by rw [hv]; exact hp.2, fun w hw => ?_⟩, fun z => absurd (k0.symm.trans z) (by decide)⟩
        have w1 : w < k := by omega
        have b1 := chain_le (fun w hw => (hc w hw).2.1) w (by omega)
        have b2 := chain_to (fun w hw => (hc w hw).2.1) (w + 1) (by omega)
        have b3 := (hc w w1).2.1
        rw [(hc w w1).1]
        omega
    · rcases Nat.lt_or_ge n m with z | z
      · obtain ⟨w, w1, w2, w3⟩ := chain_at (c := c) (k := k) (m := m) (by omega) (by omega)
        exact (ih (hc w w1).2.2 m w2 w3).mono (by rw [← ck]; exact chain_to (fun w hw => (hc w hw).2.1) (w + 1) (by omega))
      · rw [show m = n by omega]
        refine ⟨fun z => absurd (k0.symm.trans z) (by decide), fun _ => ⟨by omega, by rw [hv]; exact ht, fun w hw2 => ?_⟩⟩
        rw [hv, Int.toNat_natCast, hw] at hw2
        have w1 : w < k := by omega
        have b1 := chain_le (fun w hw => (hc w hw).2.1) w (by omega)
        have b2 := chain_to (fun w hw => (hc w hw).2.1) (w + 1) (by omega)
        have b3 := (hc w w1).2.1
        rw [(hc w w1).1]
        omega
section NodeG
variable {G : GH} {h : JH} {q n v : Int}
theorem Gd.nd (g : Gd G h) (q0 : 0 ≤ q) (q1 : q < h.2.2 42 9) (n0 : 0 ≤ n) (n1 : n < h.2.2 48 q.toNat) : NdOk h q.toNat n.toNat (h.2.2 48 q.toNat).toNat :=
  (g.ex.2.2.2.1 q.toNat (by omega)).nd n.toNat (by omega) (by omega)
theorem Gd.nd1 (g : Gd G h) (q0 : 0 ≤ q) (q1 : q < h.2.2 42 9) (n0 : 0 ≤ n) (n1 : n < h.2.2 48 q.toNat) {i : Int} (hi : i = 100 * q + n) (hk : h.2.2 49 i.toNat = 1) (hv : h.2.2 50 i.toNat = v) : 1 ≤ v ∧ v ≤ 4 := by
  rw [show i.toNat = 100 * q.toNat + n.toNat by omega] at hk hv
  have := (g.nd q0 q1 n0 n1).1 hk
  omega
theorem Gd.nd1p (g : Gd G h) (q0 : 0 ≤ q) (q1 : q < h.2.2 42 9) (n0 : 0 ≤ n) (n1 : n < h.2.2 48 q.toNat) {i p : Int} (hi : i = 100 * q + n) (hk : h.2.2 49 i.toNat = 1) (hv : h.2.2 50 i.toNat = v) (hp : h.2.2 53 i.toNat = p) : 0 ≤ p ∧ p < v := by
  rw [show i.toNat = 100 * q.toNat + n.toNat by omega] at hk hv hp
  have := (g.nd q0 q1 n0 n1).1 hk
  omega
theorem Gd.nd2 (g : Gd G h) (q0 : 0 ≤ q) (q1 : q < h.2.2 42 9) (n0 : 0 ≤ n) (n1 : n < h.2.2 48 q.toNat) {i : Int} (hi : i = 100 * q + n) (hk : h.2.2 49 i.toNat = 2) (hv : h.2.2 50 i.toNat = v) : 0 ≤ v ∧ v < h.2.2 42 1 := by
  rw [show i.toNat = 100 * q.toNat + n.toNat by omega] at hk hv
  have := (g.nd q0 q1 n0 n1).2 hk
  omega
end NodeG
theorem h9_of {h : JH} {c : Int} (c0 : 0 ≤ c) (e0 : h.2.2 45 (9 * c).toNat = 1) (e1 : h.2.2 45 (9 * c + 1).toNat = 1) (e2 : h.2.2 45 (9 * c + 2).toNat = 1) (e3 : h.2.2 45 (9 * c + 3).toNat = 1) (e4 : h.2.2 45 (9 * c + 4).toNat = 1) (e5 : h.2.2 45 (9 * c + 5).toNat = 1) (e6 : h.2.2 45 (9 * c + 6).toNat = 1) (e7 : h.2.2 45 (9 * c + 7).toNat = 1) (e8 : h.2.2 45 (9 * c + 8).toNat = 1) : ∀ j : Nat, j < 9 → 1 ≤ h.2.2 45 (9 * c.toNat + j) := by
  intro j hj
  rcases (show j = 0 ∨ j = 1 ∨ j = 2 ∨ j = 3 ∨ j = 4 ∨ j = 5 ∨ j = 6 ∨ j = 7 ∨ j = 8 by omega) with q | q | q | q | q | q | q | q | q <;> subst q
  · rw [show 9 * c.toNat + 0 = (9 * c).toNat by omega, e0]; decide
  · rw [show 9 * c.toNat + 1 = (9 * c + 1).toNat by omega, e1]; decide
  · rw [show 9 * c.toNat + 2 = (9 * c + 2).toNat by omega, e2]; decide
  · rw [show 9 * c.toNat + 3 = (9 * c + 3).toNat by omega, e3]; decide
  · rw [show 9 * c.toNat + 4 = (9 * c + 4).toNat by omega, e4]; decide
  · rw [show 9 * c.toNat + 5 = (9 * c + 5).toNat by omega, e5]; decide
  · rw [show 9 * c.toNat + 6 = (9 * c + 6).toNat by omega, e6]; decide
  · rw [show 9 * c.toNat + 7 = (9 * c + 7).toNat by omega, e7]; decide
  · rw [show 9 * c.toNat + 8 = (9 * c + 8).toNat by omega, e8]; decide
theorem NtOk.w {h : JH} {j : Nat} {a b c : Int} (e1 : h.2.2 56 j = -1) (e2 : h.2.2 57 j = a) (e3 : h.2.2 58 j = b) (e4 : h.2.2 59 j = c) (b1 : a < 36) (b2 : 1 ≤ b) (b3 : b ≤ 99) (b4 : 1 ≤ c) (b5 : c ≤ 99) : NtOk h j := ⟨fun _ => by omega, fun q => by omega, fun q => by omega⟩
theorem NtOk.c {h : JH} {j : Nat} {b c : Int} (e1 : h.2.2 56 j = 1) (e3 : h.2.2 58 j = b) (e4 : h.2.2 59 j = c) (b2 : 0 ≤ b) (b3 : b ≤ 99) (b4 : 0 ≤ c) (b5 : c ≤ 99) : NtOk h j := ⟨fun q => by omega, fun q => by omega, fun _ => by omega⟩
theorem NtOk.e {h : JH} {j : Nat} {a : Int} (e1 : h.2.2 56 j = 0) (e2 : h.2.2 57 j = a) (b1 : 0 ≤ a) (b2 : a < 100 * h.2.2 42 9) (e3 : h.2.2 49 a.toNat = 0) : NtOk h j := ⟨fun q => by omega, fun _ => by rw [e2]; exact ⟨b1, b2, e3⟩, fun q => by omega⟩
section NodeC
variable {G : GH} {h : JH} {q n v : Int}
theorem Gd.nd1c (g : Gd G h) (q0 : 0 ≤ q) (q1 : q < h.2.2 42 9) (n0 : 0 ≤ n) (n1 : n < h.2.2 48 q.toNat) {i : Int} (hi : i = 100 * q + n) (hk : h.2.2 49 i.toNat = 1) (hv : h.2.2 50 i.toNat = v) {w j c : Int} (w0 : 0 ≤ w) (w1 : w < v) (hj : j = 4 * i + w) (hc : h.2.2 51 j.toNat = c) : n < c ∧ c < h.2.2 48 q.toNat := by
  rw [show j.toNat = 4 * (100 * q.toNat + n.toNat) + w.toNat by omega] at hc
  rw [show i.toNat = 100 * q.toNat + n.toNat by omega] at hk hv
  have := ((g.nd q0 q1 n0 n1).1 hk).2.2.2.2 w.toNat (by omega)
  omega
theorem Gd.nd2c (g : Gd G h) (q0 : 0 ≤ q) (q1 : q < h.2.2 42 9) (n0 : 0 ≤ n) (n1 : n < h.2.2 48 q.toNat) {i : Int} (hi : i = 100 * q + n) (hk : h.2.2 49 i.toNat = 2) (hv : h.2.2 50 i.toNat = v) {t k : Int} (ht : t = v) (hk3 : h.2.2 43 t.toNat = k) {w j c : Int} (w0 : 0 ≤ w) (w1 : w < k) (hj : j = 4 * i + w) (hc : h.2.2 51 j.toNat = c) : n < c ∧ c < h.2.2 48 q.toNat := by
  subst ht
  rw [show j.toNat = 4 * (100 * q.toNat + n.toNat) + w.toNat by omega] at hc
  rw [show i.toNat = 100 * q.toNat + n.toNat by omega] at hk hv
  have := ((g.nd q0 q1 n0 n1).2 hk).2.2 w.toNat (by rw [hv, hk3]; omega)
  omega
end NodeC
theorem Gd.sw {G : GH} {h : JH} (g : Gd G h) {s t y k : Int} (s0 : 0 ≤ s) (s1 : s ≤ 80) (t0 : 0 ≤ t) (t1 : t < h.2.2 42 1) (t3 : t ≤ 3) {i : Int} (hi : i = 4 * s + t) (e46 : h.2.2 46 i.toNat = y) (e43 : h.2.2 43 t.toNat = k) : y < k := by
  have := (g.ex.1.2 s.toNat t.toNat (by omega) (by omega)).1 (by omega)
  rw [show 4 * s.toNat + t.toNat = i.toNat by omega, e46, e43] at this
  exact this
