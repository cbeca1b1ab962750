/-! ways drawn: a state's digits are ways -/
def DS (t s : Int) : Prop := 0 ≤ s ∧ s < 4 ^ t.toNat ∧ ∀ j : Int, 0 ≤ j → j ≤ 3 → jand (jshr s (2 * j)) 3 ≤ 2
def dsOk (t s d : Nat) : Bool := !((List.range 4).all (fun j => decide (jand (jshr (s : Int) (2 * (j : Int))) 3 ≤ 2))) || (decide (0 ≤ jor (s : Int) (jshl (d : Int) (2 * (t : Int)))) && decide (jor (s : Int) (jshl (d : Int) (2 * (t : Int))) < 4 ^ (t + 1)) && (List.range 4).all (fun j => decide (jand (jshr (jor (s : Int) (jshl (d : Int) (2 * (t : Int)))) (2 * (j : Int))) 3 ≤ 2)))
set_option maxRecDepth 100000 in
theorem ds_all : (List.range 4).all (fun t => (List.range (4 ^ t)).all (fun s => (List.range 3).all (fun d => dsOk t s d))) = true := by decide +kernel
theorem DS_0 : DS 0 0 := by
  refine ⟨by decide, by decide, fun j h0 h1 => ?_⟩
  rcases (show j = 0 ∨ j = 1 ∨ j = 2 ∨ j = 3 by omega) with e | e | e | e <;> subst e <;> decide
theorem DS_step {t s d r q : Int} (H : DS t s) (t0 : 0 ≤ t) (t1 : t ≤ 3) (d0 : 0 ≤ d) (d1 : d ≤ 2) (eq : jshl d (2 * t) = q) (er : jor s q = r) : DS (t + 1) r := by
  obtain ⟨h0, h1, h2⟩ := H
  have a1 := List.all_eq_true.mp ds_all t.toNat (List.mem_range.mpr (by omega))
  have hs : s.toNat < 4 ^ t.toNat := by
    have : ((4 ^ t.toNat : Nat) : Int) = (4 : Int) ^ t.toNat := by simp
    omega
  have a2 := List.all_eq_true.mp a1 s.toNat (List.mem_range.mpr hs)
  have a3 := List.all_eq_true.mp a2 d.toNat (List.mem_range.mpr (by omega))
  unfold dsOk at a3
  have es : ((s.toNat : Nat) : Int) = s := by omega
  have ed : ((d.toNat : Nat) : Int) = d := by omega
  have et : ((t.toNat : Nat) : Int) = t := by omega
  rw [es, ed, et, eq, er] at a3
  simp only [Bool.or_eq_true, Bool.not_eq_true', Bool.and_eq_true, decide_eq_true_eq, List.all_eq_true, List.mem_range] at a3
  rcases a3 with a3 | ⟨⟨b1, b2⟩, b3⟩
  · exfalso
    have : (List.range 4).all (fun j => decide (jand (jshr s (2 * (j : Int))) 3 ≤ 2)) = true := by
      rw [List.all_eq_true]
      intro j hj
      have := List.mem_range.mp hj
      exact decide_eq_true (h2 j (by omega) (by omega))
    rw [this] at a3
    cases a3
  · refine ⟨b1, by rw [show (t + 1).toNat = t.toNat + 1 by omega]; exact b2, fun j j0 j1 => ?_⟩
    have := b3 j.toNat (by omega)
    rw [show ((j.toNat : Nat) : Int) = j by omega] at this
    exact this
theorem DS_d {t s j q r : Int} (H : DS t s) (j0 : 0 ≤ j) (j1 : j ≤ 3) (e1 : jshr s (2 * j) = q) (e2 : jand q 3 = r) : r ≤ 2 := by
  have := H.2.2 j j0 j1
  rw [e1, e2] at this
  exact this
theorem Gd.ways {G : GH} {h h' : JH} {i : Nat} {v : Int} (g : Gd G h) (e : h' = jwr h 2 i v) (hi : h.2.2 1 0 ≤ (i : Int)) (b1 : 0 ≤ v) (b2 : v ≤ 3) : Gd G h' := by
  obtain ⟨g1, g2, g3, g4, g5, g6, g7, g8, g9⟩ := g
  have e1 := jwr_ty e
  refine ⟨e1.1.trans g1, ⟨by rw [e1.1]; exact g2.1, by rw [e1.2]; exact g2.2⟩, fun b j hb hj => ?_, fun b hb hb2 => dOk_ne e (by omega) (g4 b hb hb2), fun j hj => ?_, fun j hj => ?_, ?_, ⟨fun t ht => ?_, g8.2.ne e (by decide) (by decide) (Or.inl (by decide))⟩, ?_⟩
  · rw [jwr_v e]
    split
    · rename_i hc
      rw [hc.1, rt2]
      exact ⟨b1, b2⟩
    · exact g3 b j hb hj
  · rw [jw_ne e (by omega)] at hj
    rw [jw_ne e (by omega)]
    exact g5 j hj
  · rw [jw_ne e (by omega)] at hj
    rw [jw_ne e (by omega)]
    exact g6 j hj
  · rw [jw_ne e (by omega), jw_ne e (by omega)]
    exact g7
  · rw [jw_ne e (Or.inl (by decide))] at ht
    rw [jw_ne e (Or.inr (by omega))]
    exact g8.1 t ht
  · refine Rf.fr g9 (fun a j hx => jw_ne e (Or.inl (fun q => ?_)))
    subst q
    cases hx
theorem Gd.size {G : GH} {h h' : JH} {c v : Int} (g : Gd G h) (e : h' = jwr h 1 0 v) (hc : h.2.2 1 0 = c) (hw : 2 ≤ h.2.2 2 c.toNat) (b1 : v = c + 1) (b2 : v ≤ 4) : Gd G h' := by
  have hb := g.rg ad1 (i := 0) (by decide) rf1_0
  obtain ⟨g1, g2, g3, g4, g5, g6, g7, g8, g9⟩ := g
  have e1 := jwr_ty e
  refine ⟨e1.1.trans g1, ⟨by rw [e1.1]; exact g2.1, by rw [e1.2]; exact g2.2⟩, fun b j hb hj => ?_, fun b hb hb2 => dOk_ne e (by omega) (g4 b hb hb2), fun j hj => ?_, fun j hj => ?_, ?_, ⟨fun t ht => ?_, g8.2.ne e (by decide) (by decide) (Or.inl (by decide))⟩, ?_⟩
  · rw [jwr_v e]
    split
    · rename_i hc2
      rw [hc2.1, hc2.2, rf1_0]
      exact ⟨by omega, b2⟩
    · exact g3 b j hb hj
  · rw [jw_ne e (by omega)] at hj
    rw [jw_ne e (by omega)]
    exact g5 j hj
  · rw [jw_ne e (by omega)] at hj
    rw [jw_ne e (by omega)]
    exact g6 j hj
  · rw [jw_ne e (by omega), jw_ne e (by omega)]
    exact g7
  · rw [jw_eq e] at ht
    rw [jw_ne e (Or.inl (by decide))]
    by_cases q : (t : Int) < c
    · exact g8.1 t (by rw [hc]; exact q)
    · rw [show t = c.toNat by omega]
      exact hw
  · refine Rf.fr g9 (fun a j hx => jw_ne e (Or.inl (fun q => ?_)))
    subst q
    cases hx
/-! cells made later -/
def Kx (W : List (Nat × Nat)) (h h' : JH) : Prop := h.1 ≤ h'.1 ∧ (∀ a, a < h.1 → h'.2.1 a = h.2.1 a) ∧ ∀ a i, a < h.1 → inW W a i = false → h'.2.2 a i = h.2.2 a i
theorem Kp.x {W : List (Nat × Nat)} {h h' : JH} (k : Kp W h h') : Kx W h h' := ⟨by rw [k.1]; exact Nat.le_refl _, fun a _ => by rw [k.2.1], fun a i _ hw => k.2.2 a i hw⟩
theorem Kx.wr {W : List (Nat × Nat)} {h h1 h' : JH} {a i : Nat} {v : Int} (k : Kx W h h1) (e : h' = jwr h1 a i v) (hw : inW W a i = true) : Kx W h h' := by
  refine ⟨by rw [(jwr_ty e).1]; exact k.1, fun b hb => by rw [(jwr_ty e).2]; exact k.2.1 b hb, fun b j hb hj => ?_⟩
  rw [jwr_v e, if_neg]
  · exact k.2.2 b j hb hj
  · rintro ⟨rfl, rfl⟩
    rw [hj] at hw
    cases hw
theorem Kx.tr {W W' : List (Nat × Nat)} {h h1 h' : JH} (k : Kx W h h1) (k' : Kp W' h1 h') (hs : subW W' W = true) : Kx W h h' :=
  ⟨by rw [k'.1]; exact k.1, fun a ha => by rw [k'.2.1]; exact k.2.1 a ha, fun b j hb hj => (k'.2.2 b j (inW_sub hs hj)).trans (k.2.2 b j hb hj)⟩
theorem Kx.tx {W W' : List (Nat × Nat)} {h h1 h' : JH} (k : Kp W h h1) (k' : Kx W' h1 h') (hs : subW W' W = true) : Kx W h h' :=
  ⟨by rw [← k.1]; exact k'.1, fun a ha => by rw [k'.2.1 a (by rw [k.1]; exact ha), k.2.1], fun b j hb hj => (k'.2.2 b j (by rw [k.1]; exact hb) (inW_sub hs hj)).trans (k.2.2 b j hj)⟩
/-- an answer within bounds; cells may have been made -/
def PN (W : List (Nat × Nat)) (h : JH) (t : Nat) (lo hi : Int) (v : Option AV) (h' : JH) : Prop := ∃ r : Int, v = some (t, r) ∧ lo ≤ r ∧ r ≤ hi ∧ (∃ G, Gd G h') ∧ Kx W h h' ∧ h'.1 ≤ h.1 + 13
/-! a quarrel is made -/
def QP (h0 h : JH) (r c : Nat) (m : Int) : Prop := h.1 = r + (c - 1) ∧ (∀ a, a < r → h.2.1 a = h0.2.1 a) ∧ h.2.1 r = (4, 14) ∧ (∀ k, 2 ≤ k → k < c → h.2.1 (r + (k - 1)) = (dty k, (dln k m).toNat)) ∧ (∀ a i, a < r → h.2.2 a i = h0.2.2 a i) ∧ h.2.2 r 0 = 0 ∧ h.2.2 r 1 = -1 ∧ (∀ k, 2 ≤ k → k < c → h.2.2 r k = ((r + (k - 1) : Nat) : Int)) ∧ ∀ k i, 2 ≤ k → k < c → h.2.2 (r + (k - 1)) i = 0
section MkQ
variable {h0 h h' : JH} {r c t n : Nat} {m : Int} {G : GH}
theorem QP.step (q : QP h0 h r c m) (hc : 2 ≤ c) (h20 : 20 ≤ t ∧ t ≤ 23) (ht : dty c = t) (hn : (dln c m).toNat = n) : QP h0 (jwr (jnew h t n) r c ((h.1 : Nat) : Int)) r (c + 1) m := by
  obtain ⟨q1, q2, q3, q4, q5, q6, q7, q8, q9⟩ := q
  have e1 : ∀ a, a ≠ h.1 → (jwr (jnew h t n) r c ((h.1 : Nat) : Int)).2.1 a = h.2.1 a := fun a ha => by show (if a = h.1 then (t, n) else h.2.1 a) = _; rw [if_neg ha]
  have e2 : (jwr (jnew h t n) r c ((h.1 : Nat) : Int)).2.1 h.1 = (t, n) := by show (if h.1 = h.1 then (t, n) else h.2.1 h.1) = _; rw [if_pos rfl]
  have e3 : ∀ a i, (jwr (jnew h t n) r c ((h.1 : Nat) : Int)).2.2 a i = if a = r ∧ i = c then ((h.1 : Nat) : Int) else if a = h.1 then jdef t i else h.2.2 a i := fun a i => rfl
  have hd : ∀ i, jdef t i = 0 := fun i => by unfold jdef; rw [if_neg (by omega), if_neg (by omega)]
  refine ⟨by show h.1 + 1 = _; omega, fun a ha => by rw [e1 a (by omega)]; exact q2 a ha, by rw [e1 r (by omega)]; exact q3, fun k k1 k2 => ?_, fun a i ha => by rw [e3, if_neg (by omega), if_neg (by omega)]; exact q5 a i ha, by rw [e3, if_neg (by omega), if_neg (by omega)]; exact q6, by rw [e3, if_neg (by omega), if_neg (by omega)]; exact q7, fun k k1 k2 => ?_, fun k i k1 k2 => ?_⟩
  · by_cases e : k = c
    · subst e
      rw [← q1, e2, ht, hn]
    · rw [e1 _ (by omega)]
      exact q4 k k1 (by omega)
  · by_cases e : k = c
    · subst e
      rw [e3, if_pos ⟨rfl, rfl⟩, q1]
    · rw [e3, if_neg (by omega), if_neg (by omega)]
      exact q8 k k1 (by omega)
  · by_cases e : k = c
    · subst e
      rw [e3, if_neg (by omega), if_pos (by omega)]
      exact hd i
    · rw [e3, if_neg (by omega), if_neg (by omega)]
      exact q9 k i k1 (by omega)
def gQ (G : GH) (r : Nat) (m : Int) : GH := (r + 13, fun a => if a < r then G.2 a else if a = r then (1, m, 0) else (a - r + 1, m, 0))
theorem QP.gd (q : QP h0 h r 14 m) (g : Gd G h0) (hr : h0.1 = r) (m1 : 1 ≤ m) (m2 : m ≤ 100) : Gd (gQ G r m) h ∧ IsQ (gQ G r m) r m ∧ Kx [] h0 h := by
  obtain ⟨q1, q2, q3, q4, q5, q6, q7, q8, q9⟩ := q
  obtain ⟨g1, g2, g3, g4, g5, g6, g7, g8⟩ := g
  have f83 := g2.1
  have hG : G.1 = r := by rw [← g1]; exact hr
  have hro : ∀ a, a < r → (gQ G r m).2 a = G.2 a := fun a ha => by show (if a < r then G.2 a else _) = _; rw [if_pos ha]
  have hr1 : (gQ G r m).2 r = (1, m, 0) := by show (if r < r then G.2 r else if r = r then (1, m, 0) else _) = _; rw [if_neg (by omega), if_pos rfl]
  have hrk : ∀ k, 2 ≤ k → k ≤ 13 → (gQ G r m).2 (r + (k - 1)) = (k, m, 0) := fun k k1 k2 => by
    show (if r + (k - 1) < r then G.2 _ else if r + (k - 1) = r then (1, m, 0) else (r + (k - 1) - r + 1, m, 0)) = _
    rw [if_neg (by omega), if_neg (by omega)]
    congr 1
    omega
  refine ⟨⟨q1, ⟨by rw [q1]; omega, fun a ha => by rw [q2 a (by omega)]; exact g2.2 a ha⟩, fun a i ha hi => by rw [q5 a i (by omega)]; exact g3 a i ha hi, fun a a1 a2 => ?_, fun j hj => ?_, fun j hj => ?_, ?_, ?_⟩, ⟨by omega, by show r < r + 13; omega, by rw [hr1], by rw [hr1]⟩, by rw [q1]; omega, fun a ha => q2 a (by omega), fun a i ha _ => q5 a i (by omega)⟩
  · have a2' : a < r + 13 := a2
    by_cases hlt : a < r
    · have d := g4 a a1 (by omega)
      have h1 := q2 a hlt
      have h2 : ∀ k, h.2.2 a k = h0.2.2 a k := fun k => q5 a k hlt
      have h3 := hro a hlt
      rcases d with d | d | d
      · refine Or.inl ?_
        unfold dFe at d ⊢
        rw [h1, h3]
        simp only [h2]
        exact d
      · refine Or.inr (Or.inl ?_)
        obtain ⟨d1, d2, d3, d4, d5, d6, d7, d8, d9, d10⟩ := d
        unfold dQu
        rw [h1, h3]
        simp only [h2]
        refine ⟨d1, d2, d3, d4, by show a + 12 < r + 13; omega, d6, d7, d8, d9, fun k k1 k2 => ⟨(d10 k k1 k2).1, ?_⟩⟩
        rw [hro _ (by omega)]
        exact (d10 k k1 k2).2
      · refine Or.inr (Or.inr ?_)
        unfold dAr at d ⊢
        rw [h1, h3]
        simp only [h2]
        exact d
    · by_cases he : a = r
      · subst he
        refine Or.inr (Or.inl ?_)
        unfold dQu
        rw [hr1]
        exact ⟨rfl, q3, m1, m2, by show a + 12 < a + 13; omega, by rw [q6]; exact Int.le_refl _, by rw [q6]; show (0 : Int) ≤ m; omega, by rw [q7]; exact Int.le_refl _, by rw [q7]; show (-1 : Int) ≤ m - 1; omega, fun k k1 k2 => ⟨q8 k k1 (by omega), hrk k k1 k2⟩⟩
      · obtain ⟨k, hk, k1, k2⟩ : ∃ k, a = r + (k - 1) ∧ 2 ≤ k ∧ k ≤ 13 := ⟨a - r + 1, by omega, by omega, by omega⟩
        subst hk
        refine Or.inr (Or.inr ?_)
        unfold dAr
        rw [hrk k k1 k2]
        refine ⟨k1, k2, m1, m2, q4 k k1 (by omega), fun i _ => ?_⟩
        rw [q9 k i k1 (by omega)]
        unfold dR
        repeat' split
        all_goals (simp only; omega)
  · rw [q5 0 3 (by omega)] at hj
    obtain ⟨s, s1, s2, s3, s4⟩ := g5 j hj
    exact ⟨s, by rw [q5 18 j (by omega)]; exact s1, s2, by show s < r + 13; omega, by rw [hro s (by omega)]; exact s4⟩
  · rw [q5 0 7 (by omega)] at hj
    obtain ⟨s, s1, s2, s3, s4⟩ := g6 j hj
    exact ⟨s, by rw [q5 24 j (by omega)]; exact s1, s2, by show s < r + 13; omega, by rw [hro s (by omega)]; exact s4⟩
  · rw [q5 19 4 (by omega), q5 19 3 (by omega)]
    exact g7
  · exact g8.fr (fun a k hk => q5 a k (by have := exF_lt hk; omega))
/-- a quarrel is put behind those that stand -/
theorem Gd.wr18 {i : Nat} (g : Gd G h) (q : IsQ G r m) (e : h' = jwr h 18 i ((r : Nat) : Int)) (hi : h.2.2 0 3 ≤ (i : Int)) (hr : (r : Int) ≤ 1000000000) : Gd G h' := by
  obtain ⟨g1, g2, g3, g4, g5, g6, g7, g8⟩ := g
  have e1 := jwr_ty e
  have q83 := q.1
  refine ⟨e1.1.trans g1, ⟨by rw [e1.1]; exact g2.1, by rw [e1.2]; exact g2.2⟩, fun b j hb hj => ?_, fun b hb hb2 => dOk_ne e (by omega) (g4 b hb hb2), fun j hj => ?_, fun j hj => ?_, ?_, g8.wr e rfl⟩
  · rw [jwr_v e]
    split
    · rename_i hc
      rw [hc.1, rt18]
      exact ⟨by show (-1 : Int) ≤ _; omega, hr⟩
    · exact g3 b j hb hj
  · rw [jw_ne e (Or.inl (by decide))] at hj
    rw [jw_ne e (Or.inr (by omega))]
    exact g5 j hj
  · rw [jw_ne e (Or.inl (by decide))] at hj
    rw [jw_ne e (Or.inl (by decide))]
    exact g6 j hj
  · rw [jw_ne e (by omega), jw_ne e (by omega)]
    exact g7
theorem Gd.wr03 {c v : Int} (g : Gd G h) (q : IsQ G r m) (e : h' = jwr h 0 3 v) (hc : h.2.2 0 3 = c) (hq : h.2.2 18 c.toNat = (r : Int)) (hv : v = c + 1) (hv6 : v ≤ 6) : Gd G h' := by
  have b := g.rg ad0 (i := 3) (by decide) rf0_3
  obtain ⟨g1, g2, g3, g4, g5, g6, g7, g8⟩ := g
  have e1 := jwr_ty e
  refine ⟨e1.1.trans g1, ⟨by rw [e1.1]; exact g2.1, by rw [e1.2]; exact g2.2⟩, fun b j hb hj => ?_, fun b hb hb2 => dOk_ne e (by omega) (g4 b hb hb2), fun j hj => ?_, fun j hj => ?_, ?_, g8.wr e rfl⟩
  · rw [jwr_v e]
    split
    · rename_i hc2
      rw [hc2.1, hc2.2, rf0_3]
      exact ⟨by omega, hv6⟩
    · exact g3 b j hb hj
  · rw [jw_eq e] at hj
    rw [jw_ne e (Or.inl (by decide))]
    by_cases z : (j : Int) < c
    · exact g5 j (by rw [hc]; exact z)
    · refine ⟨r, ?_, q.1, q.2.1, q.2.2.1⟩
      rw [show j = c.toNat by omega]
      exact hq
  · rw [jw_ne e (Or.inr (by decide))] at hj
    rw [jw_ne e (Or.inl (by decide))]
    exact g6 j hj
  · rw [jw_ne e (by omega), jw_ne e (by omega)]
    exact g7
/-- a feeling is made, put behind those that stand, counted -/
def gF (G : GH) (n p : Int) : GH := (G.1 + 1, fun a => if a = G.1 then (0, n, p) else G.2 a)
theorem Gd.newF {n p : Int} (g : Gd G h) (ht : jfam 0 t = true) (n0 : 0 ≤ n) (n1 : n ≤ 19) (p0 : 0 ≤ p) (p1 : p ≤ 100) (e : h' = jwr (jwr (jwr (jnew h t 3) h.1 0 19) h.1 1 n) h.1 2 p) : Gd (gF G n p) h' ∧ h'.1 = h.1 + 1 ∧ Kx [] h h' := by
  obtain ⟨g1, g2, g3, g4, g5, g6, g7, g8⟩ := g
  have f83 := g2.1
  have ty : ∀ a, h'.2.1 a = if a = h.1 then (t, 3) else h.2.1 a := fun a => by subst e; rfl
  have vv : ∀ a i, h'.2.2 a i = if a = h.1 ∧ i = 2 then p else if a = h.1 ∧ i = 1 then n else if a = h.1 ∧ i = 0 then 19 else if a = h.1 then jdef t i else h.2.2 a i := fun a i => by subst e; rfl
  have vo : ∀ a i, a < h.1 → h'.2.2 a i = h.2.2 a i := fun a i ha => by rw [vv, if_neg (by omega), if_neg (by omega), if_neg (by omega), if_neg (by omega)]
  have to : ∀ a, a < h.1 → h'.2.1 a = h.2.1 a := fun a ha => by rw [ty, if_neg (by omega)]
  have sz : h'.1 = h.1 + 1 := by subst e; rfl
  have ro : ∀ a, a < h.1 → (gF G n p).2 a = G.2 a := fun a ha => by show (if a = G.1 then _ else G.2 a) = _; rw [if_neg (by omega)]
  have rn : (gF G n p).2 h.1 = (0, n, p) := by show (if h.1 = G.1 then (0, n, p) else _) = _; rw [if_pos g1]
  refine ⟨⟨by rw [sz, g1]; rfl, ⟨by rw [sz]; omega, fun a ha => by rw [to a (by omega)]; exact g2.2 a ha⟩, fun a i ha hi => by rw [vo a i (by omega)]; exact g3 a i ha hi, fun a a1 a2 => ?_, fun j hj => ?_, fun j hj => ?_, ?_, ?_⟩, sz, by rw [sz]; omega, fun a ha => to a ha, fun a i ha _ => vo a i ha⟩
  · have a2' : a < G.1 + 1 := a2
    by_cases hlt : a < h.1
    · have d := g4 a a1 (by omega)
      have h1 := to a hlt
      have h2 : ∀ k, h'.2.2 a k = h.2.2 a k := fun k => vo a k hlt
      have h3 := ro a hlt
      rcases d with d | d | d
      · refine Or.inl ?_
        unfold dFe at d ⊢
        rw [h1, h3]
        simp only [h2]
        exact d
      · refine Or.inr (Or.inl ?_)
        obtain ⟨d1, d2, d3, d4, d5, d6, d7, d8, d9, d10⟩ := d
        unfold dQu
        rw [h1, h3]
        simp only [h2]
        refine ⟨d1, d2, d3, d4, by show a + 12 < G.1 + 1; omega, d6, d7, d8, d9, fun k k1 k2 => ⟨(d10 k k1 k2).1, ?_⟩⟩
        rw [ro _ (by omega)]
        exact (d10 k k1 k2).2
      · refine Or.inr (Or.inr ?_)
        unfold dAr at d ⊢
        rw [h1, h3]
        simp only [h2]
        exact d
    · have he : a = h.1 := by omega
      subst he
      refine Or.inl ?_
      unfold dFe
      rw [rn, ty, if_pos rfl, vv, vv, vv, if_neg (by omega), if_neg (by omega), if_pos ⟨rfl, rfl⟩, if_neg (by omega), if_pos ⟨rfl, rfl⟩, if_pos ⟨rfl, rfl⟩]
      exact ⟨rfl, ht, rfl, rfl, rfl, rfl, n0, n1, p0, p1⟩
  · rw [vo 0 3 (by omega)] at hj
    obtain ⟨s, s1, s2, s3, s4⟩ := g5 j hj
    exact ⟨s, by rw [vo 18 j (by omega)]; exact s1, s2, by show s < G.1 + 1; omega, by rw [ro s (by omega)]; exact s4⟩
  · rw [vo 0 7 (by omega)] at hj
    obtain ⟨s, s1, s2, s3, s4⟩ := g6 j hj
    exact ⟨s, by rw [vo 24 j (by omega)]; exact s1, s2, by show s < G.1 + 1; omega, by rw [ro s (by omega)]; exact s4⟩
  · rw [vo 19 4 (by omega), vo 19 3 (by omega)]
    exact g7
  · exact g8.fr (fun a k hk => vo a k (by have := exF_lt hk; omega))
theorem gF_at {n p : Int} (g : Gd G h) : 83 ≤ h.1 ∧ h.1 < (gF G n p).1 ∧ ((gF G n p).2 h.1).1 = 0 ∧ ((gF G n p).2 h.1).2.1 = n := by
  have e : (gF G n p).2 h.1 = (0, n, p) := by show (if h.1 = G.1 then (0, n, p) else _) = _; rw [if_pos g.1]
  rw [e]
  exact ⟨g.2.1.1, by show h.1 < G.1 + 1; rw [g.1]; omega, rfl, rfl⟩
theorem newF_ty {s n p : Int} (ht : jfam 0 t = true) (hh : h' = jwr (jwr (jwr (jnew h t 3) h.1 0 s) h.1 1 n) h.1 2 p) : jfam 0 (h'.2.1 h.1).1 = true := by
  subst hh
  show jfam 0 (if h.1 = h.1 then (t, 3) else h.2.1 h.1).1 = true
  rw [if_pos rfl]
  exact ht
theorem Gd.putF {h1 h2 : JH} {c v : Int} {f : Nat} (g : Gd G h) (hf : 83 ≤ f ∧ f < G.1 ∧ (G.2 f).1 = 0 ∧ (G.2 f).2.1 = c) (hc : h.2.2 0 7 = c) (e1 : h1 = jwr h 24 c.toNat (f : Int)) (e2 : h2 = jwr h1 0 7 v) (hv : v = c + 1) (hv2 : v ≤ 20) (hr : (f : Int) ≤ 1000000000) : Gd G h2 := by
  have b := g.rg ad0 (i := 7) (by decide) rf0_7
  obtain ⟨g1, g2, g3, g4, g5, g6, g7, g8⟩ := g
  have t1 := jwr_ty e1
  have t2 := jwr_ty e2
  have ne : ∀ a j, a ≠ 24 → (a ≠ 0 ∨ j ≠ 7) → h2.2.2 a j = h.2.2 a j := fun a j n1 n2 => (jw_ne e2 n2).trans (jw_ne e1 (Or.inl n1))
  refine ⟨(t2.1.trans t1.1).trans g1, ⟨by rw [t2.1, t1.1]; exact g2.1, by rw [t2.2, t1.2]; exact g2.2⟩, fun a j hb hj => ?_, fun b hb hb2 => dOk_ne e2 (by omega) (dOk_ne e1 (by omega) (g4 b hb hb2)), fun j hj => ?_, fun j hj => ?_, ?_, (g8.wr e1 rfl).wr e2 rfl⟩
  · by_cases z : a = 24
    · subst z
      rw [jw_ne e2 (Or.inl (by decide)), jwr_v e1, rt24]
      split
      · exact ⟨by show (-1 : Int) ≤ _; omega, hr⟩
      · have := g3 24 j hb hj
        rw [rt24] at this
        exact this
    · by_cases y : a = 0 ∧ j = 7
      · rw [y.1, y.2, jw_eq e2, rf0_7]
        exact ⟨by omega, hv2⟩
      · rw [ne a j z (by omega)]
        exact g3 a j hb hj
  · rw [ne 0 3 (by decide) (by decide)] at hj
    rw [ne 18 j (by decide) (Or.inl (by decide))]
    exact g5 j hj
  · rw [jw_eq e2] at hj
    rw [jw_ne e2 (Or.inl (by decide))]
    by_cases z : (j : Int) < c
    · rw [jw_ne e1 (Or.inr (by omega))]
      exact g6 j (by rw [hc]; exact z)
    · refine ⟨f, ?_, hf.1, hf.2.1, hf.2.2.1, by rw [hf.2.2.2]; omega⟩
      rw [show j = c.toNat by omega]
      exact jw_eq e1
  · rw [ne 19 4 (by decide) (by decide), ne 19 3 (by decide) (by decide)]
    exact g7
end MkQ
