/-! THE GENERAL STATE: types of the cells that the constructors made, ranges of their contents; quarrels and feelings that are made later by their roles. -/
def rTab : List (List (Int × Int)) := [[(1, 1), (7, 7), (18, 18), (0, 6), (19, 19), (23, 23), (24, 24), (0, 20), (25, 25), (0, 40), ((-2147483648), 2147483647), (26, 26), (37, 37), (38, 38), (39, 39), (40, 40), (41, 41)], [(0, 4), ((-9223372036854775808), 9223372036854775807), (0, 1), (2, 2), (3, 3), (4, 4), (5, 5), (6, 6)], [(0, 3)], [((-1), 3)], [((-2147483648), 2147483647)], [((-9223372036854775808), 9223372036854775807)], [((-9223372036854775808), 9223372036854775807)], [(0, 200), ((-1), 200), (0, 200), (0, 200), (0, 6), (8, 8), (9, 9), (10, 10), (11, 11), (12, 12), (13, 13), (14, 14), (15, 15), (16, 16), (17, 17)], [((-128), 127)], [(0, 199)], [(0, 2)], [((-2147483648), 2147483647)], [(0, 4)], [(0, 199)], [((-2147483648), 2147483647)], [((-2147483648), 2147483647)], [((-2147483648), 2147483647)], [((-2147483648), 2147483647)], [((-1), 1000000000)], [(20, 20), (21, 21), (22, 22), (0, 6), (0, 6), (0, 1000)], [((-2147483648), 2147483647)], [((-2147483648), 2147483647)], [((-2147483648), 2147483647)], [(19, 19), (0, 0), (0, 0)], [((-1), 1000000000)], [((-2147483648), 2147483647)], [(0, 4), (0, 4), (27, 27), (0, 3), (28, 28), (29, 29), (30, 30), (0, 4), (31, 31), (0, 4), (32, 32), (33, 33), (34, 34), (35, 35), (36, 36)], [((-99), 99)], [(0, 9)], [(0, 99)], [(0, 99)], [(0, 99)], [(0, 99)], [(0, 100)], [(0, 999)], [(0, 100)], [(0, 99)], [((-1), 29)], [(0, 60)], [((-9223372036854775808), 9223372036854775807)], [((-9223372036854775808), 9223372036854775807)], [((-2147483648), 2147483647)], [((-2147483648), 2147483647), (0, 4), (43, 43), (44, 44), (45, 45), (0, 81), (46, 46), (47, 47), ((-9223372036854775808), 9223372036854775807), (0, 6), (48, 48), (49, 49), (50, 50), (51, 51), (52, 52), (53, 53), (54, 54), (0, 200), (55, 55), (0, 6), ((-2147483648), 2147483647), ((-2147483648), 2147483647), (0, 40), (0, 40), (56, 56), (57, 57), (58, 58), (59, 59), (0, 20), (60, 60), (61, 61), (0, 6), (62, 62), (63, 63), (64, 64), (65, 65), ((-2147483648), 2147483647), ((-2147483648), 2147483647), ((-2147483648), 2147483647), (0, 1), ((-2147483648), 2147483647), ((-2147483648), 2147483647), ((-2147483648), 2147483647), (66, 66), (0, 4), (0, 4), (67, 67), (0, 3), (68, 68), (69, 69), (70, 70), (0, 4), (71, 71), (0, 4), (72, 72), (73, 73), (74, 74), (75, 75), (76, 76), (77, 77), (0, 1000), (78, 78), (79, 79), (80, 80), (81, 81), (82, 82)], [(0, 3)], [((-1), 3)], [(0, 99)], [(0, 2)], [((-9223372036854775808), 9223372036854775807)], [(0, 100)], [(0, 2)], [((-999), 999)], [((-128), 127)], [(0, 99)], [(0, 3)], [((-128), 127)], [(0, 202)], [((-1), 1)], [(0, 2799)], [((-999), 999)], [((-999), 999)], [(0, 5)], [(0, 100)], [((-9999), 9999)], [(0, 9)], [((-1), 2)], [(0, 3)], [(0, 3)], [((-99), 99)], [(0, 9)], [(0, 99)], [(0, 99)], [(0, 99)], [(0, 99)], [(0, 100)], [(0, 999)], [(0, 100)], [(0, 99)], [(0, 2)], [((-2147483648), 2147483647)], [((-6), 19)], [(0, 60)], [((-9223372036854775808), 9223372036854775807)], [((-9223372036854775808), 9223372036854775807)]]
def rT (a i : Nat) : Int × Int := match rTab.getD a [] with
  | [x] => x
  | l => l.getD i (0, 0)
def AD (a t n : Nat) : Prop := a < 83 ∧ frT.getD a (0, 0) = (t, n)
def Rg (h : JH) : Prop := ∀ a i, a < 83 → i < (frT.getD a (0, 0)).2 → (rT a i).1 ≤ h.2.2 a i ∧ h.2.2 a i ≤ (rT a i).2
/-- how many cells there are; each later cell's role: 0 a feeling (its number, its part), 1 a quarrel (its nodes), 2 .. 13 a quarrel's arrays -/
abbrev GH : Type := Nat × (Nat → Nat × Int × Int)
def dty (c : Nat) : Nat := if c = 12 then 21 else if c = 13 then 23 else 20
def dln (c : Nat) (m : Int) : Int := if c = 5 ∨ c = 6 then 4 * m else m
def dR (c : Nat) (m : Int) : Int × Int := if c = 2 then (0, 2) else if c = 4 then (0, 4) else if c = 5 then (0, m - 1) else if c = 7 then (-1, m - 1) else if c = 9 ∨ c = 10 then (0, 3) else if c = 13 then (0, 1) else if c = 12 then (-9223372036854775808, 9223372036854775807) else (-2147483648, 2147483647)
def dFe (G : GH) (h : JH) (a : Nat) : Prop := (G.2 a).1 = 0 ∧ jfam 0 (h.2.1 a).1 = true ∧ (h.2.1 a).2 = 3 ∧ h.2.2 a 0 = 19 ∧ h.2.2 a 1 = (G.2 a).2.1 ∧ h.2.2 a 2 = (G.2 a).2.2 ∧ 0 ≤ (G.2 a).2.1 ∧ (G.2 a).2.1 ≤ 19 ∧ 0 ≤ (G.2 a).2.2 ∧ (G.2 a).2.2 ≤ 100
def dQu (G : GH) (h : JH) (a : Nat) : Prop := (G.2 a).1 = 1 ∧ h.2.1 a = (4, 14) ∧ 1 ≤ (G.2 a).2.1 ∧ (G.2 a).2.1 ≤ 100 ∧ a + 12 < G.1 ∧ 0 ≤ h.2.2 a 0 ∧ h.2.2 a 0 ≤ (G.2 a).2.1 ∧ -1 ≤ h.2.2 a 1 ∧ h.2.2 a 1 ≤ (G.2 a).2.1 - 1 ∧ ∀ c, 2 ≤ c → c ≤ 13 → h.2.2 a c = ((a + (c - 1) : Nat) : Int) ∧ G.2 (a + (c - 1)) = (c, (G.2 a).2.1, 0)
def dAr (G : GH) (h : JH) (a : Nat) : Prop := 2 ≤ (G.2 a).1 ∧ (G.2 a).1 ≤ 13 ∧ 1 ≤ (G.2 a).2.1 ∧ (G.2 a).2.1 ≤ 100 ∧ h.2.1 a = (dty (G.2 a).1, (dln (G.2 a).1 (G.2 a).2.1).toNat) ∧ ∀ i : Nat, (i : Int) < dln (G.2 a).1 (G.2 a).2.1 → (dR (G.2 a).1 (G.2 a).2.1).1 ≤ h.2.2 a i ∧ h.2.2 a i ≤ (dR (G.2 a).1 (G.2 a).2.1).2
def dOk (G : GH) (h : JH) (a : Nat) : Prop := dFe G h a ∨ dQu G h a ∨ dAr G h a
def Pq (G : GH) (h : JH) : Prop := ∀ j : Nat, (j : Int) < h.2.2 0 3 → ∃ r : Nat, h.2.2 18 j = (r : Int) ∧ 83 ≤ r ∧ r < G.1 ∧ (G.2 r).1 = 1
def Pf (G : GH) (h : JH) : Prop := ∀ j : Nat, (j : Int) < h.2.2 0 7 → ∃ r : Nat, h.2.2 24 j = (r : Int) ∧ 83 ≤ r ∧ r < G.1 ∧ (G.2 r).1 = 0 ∧ (G.2 r).2.1 = (j : Int)
theorem lt_r {a b c : Int} (h : a < b) (e : c = b) : a < c := by omega
/-- what is more of the class's things: their ways -/
def Cw (h : JH) : Prop := ∀ t : Nat, (t : Int) < h.2.2 1 0 → 2 ≤ h.2.2 2 t
/-- the nodes n .. e-1 of the reference's q-th quarrel are one tree; S: the things turned above -/
def Tr (h : JH) (q : Nat) : Nat → Nat → Nat → List Nat → Prop
  | 0, _, _, _ => False
  | N + 1, n, e, S =>
    (h.2.2 49 (100 * q + n) = 0 ∧ e = n + 1) ∨
    (h.2.2 49 (100 * q + n) = 1 ∧ ∃ (k : Nat) (c : Nat → Nat), h.2.2 50 (100 * q + n) = (k : Int) ∧ 1 ≤ k ∧ k ≤ 4 ∧ (0 ≤ h.2.2 53 (100 * q + n) ∧ h.2.2 53 (100 * q + n) < (k : Int)) ∧ c 0 = n + 1 ∧ c k = e ∧ ∀ w, w < k → h.2.2 51 (4 * (100 * q + n) + w) = (c w : Int) ∧ c w < c (w + 1) ∧ Tr h q N (c w) (c (w + 1)) S) ∨
    (h.2.2 49 (100 * q + n) = 2 ∧ ∃ (t k : Nat) (c : Nat → Nat), h.2.2 50 (100 * q + n) = (t : Int) ∧ (t : Int) < h.2.2 42 1 ∧ t ∉ S ∧ h.2.2 43 t = (k : Int) ∧ 2 ≤ k ∧ c 0 = n + 1 ∧ c k = e ∧ ∀ w, w < k → h.2.2 51 (4 * (100 * q + n) + w) = (c w : Int) ∧ c w < c (w + 1) ∧ Tr h q N (c w) (c (w + 1)) (t :: S))
/-- a change that the reference keeps -/
def NtOk (h : JH) (j : Nat) : Prop :=
  (h.2.2 56 j = -1 → h.2.2 57 j < 36 ∧ 1 ≤ h.2.2 58 j ∧ h.2.2 58 j ≤ 99 ∧ 1 ≤ h.2.2 59 j ∧ h.2.2 59 j ≤ 99) ∧
  (h.2.2 56 j = 0 → 0 ≤ h.2.2 57 j ∧ h.2.2 57 j < 100 * h.2.2 42 9 ∧ h.2.2 49 (h.2.2 57 j).toNat = 0) ∧
  (h.2.2 56 j = 1 → 0 ≤ h.2.2 58 j ∧ h.2.2 58 j ≤ 99 ∧ 0 ≤ h.2.2 59 j ∧ h.2.2 59 j ≤ 99)
/-- what is more of the reference -/
def Rf (h : JH) : Prop := (∀ t : Nat, (t : Int) < h.2.2 42 1 → 2 ≤ h.2.2 43 t) ∧ (∀ i : Nat, (i : Int) < 9 * h.2.2 42 1 → 1 ≤ h.2.2 45 i) ∧ (∀ q : Nat, (q : Int) < h.2.2 42 9 → Tr h q 13 0 (h.2.2 48 q).toNat []) ∧ h.2.2 42 22 + h.2.2 42 23 ≤ 40 ∧ ∀ j : Nat, (j : Int) < h.2.2 42 22 + h.2.2 42 23 → NtOk h j
/-- the ways of the reference's states are ways of its things -/
def Sc (h : JH) : Prop := ∀ s t : Nat, s < 81 → t < 4 → ((t : Int) < h.2.2 42 1 → h.2.2 46 (4 * s + t) < h.2.2 43 t) ∧ (h.2.2 42 1 ≤ (t : Int) → h.2.2 46 (4 * s + t) = 0)
def Cs (h : JH) : Prop := Cw h ∧ Sc h
def Ex (h : JH) : Prop := Cs h ∧ Rf h
theorem chain_le {c : Nat → Nat} {k : Nat} (hc : ∀ w, w < k → c w < c (w + 1)) : ∀ w, w ≤ k → c 0 + w ≤ c w := by
  intro w
  induction w with
  | zero => intro _; omega
  | succ w ih => intro hw; have := ih (by omega); have := hc w (by omega); omega
theorem chain_to {c : Nat → Nat} {k : Nat} (hc : ∀ w, w < k → c w < c (w + 1)) : ∀ w, w ≤ k → c w ≤ c k := by
  intro w hw
  have : ∀ d, w + d ≤ k → c w ≤ c (w + d) := by
    intro d
    induction d with
    | zero => intro _; exact Nat.le_refl _
    | succ d ih => intro hd; have := ih (by omega); have := hc (w + d) (by omega); rw [show w + (d + 1) = w + d + 1 by omega]; omega
  have := this (k - w) (by omega)
  rw [show w + (k - w) = k by omega] at this
  exact this
theorem Tr.lt {h : JH} {q : Nat} : ∀ {N n e : Nat} {S : List Nat}, Tr h q N n e S → n < e := by
  intro N n e S x
  cases N with
  | zero => exact x.elim
  | succ N =>
    rcases x with ⟨_, x⟩ | ⟨_, k, c, _, k1, _, _, c0, ck, hc⟩ | ⟨_, t, k, c, _, _, _, _, k1, c0, ck, hc⟩
    · omega
    · have := chain_le (fun w hw => (hc w hw).2.1) k (Nat.le_refl _); omega
    · have := chain_le (fun w hw => (hc w hw).2.1) k (Nat.le_refl _); omega
/-- a tree stays where its cells stay; ends may change, plans within the ways -/
theorem Tr.fr {h h' : JH} {q : Nat} (f5 : h.2.2 42 1 ≤ h'.2.2 42 1) (f6 : ∀ t : Nat, (t : Int) < h.2.2 42 1 → h'.2.2 43 t = h.2.2 43 t) : ∀ {N n e : Nat} {S : List Nat}, Tr h q N n e S → (∀ i, 100 * q + n ≤ i → i < 100 * q + e → h'.2.2 49 i = h.2.2 49 i) → (∀ i, 100 * q + n ≤ i → i < 100 * q + e → h.2.2 49 i ≠ 0 → h'.2.2 50 i = h.2.2 50 i) → (∀ i, 4 * (100 * q + n) ≤ i → i < 4 * (100 * q + e) → h'.2.2 51 i = h.2.2 51 i) → (∀ i, 100 * q + n ≤ i → i < 100 * q + e → h.2.2 49 i = 1 → 0 ≤ h.2.2 53 i → h.2.2 53 i < h.2.2 50 i → 0 ≤ h'.2.2 53 i ∧ h'.2.2 53 i < h.2.2 50 i) → Tr h' q N n e S := by
  intro N
  induction N with
  | zero => intro n e S x; exact x.elim
  | succ N ih =>
    intro n e S x f1 f2 f3 f4
    have lt := x.lt
    have fk := f1 (100 * q + n) (by omega) (by omega)
    rcases x with ⟨k0, x⟩ | ⟨k0, k, c, hv, k1, k4, hp, c0, ck, hc⟩ | ⟨k0, t, k, c, hv, ht, hS, hw, k1, c0, ck, hc⟩
    · exact Or.inl ⟨by rw [fk]; exact k0, x⟩
    · have fv := f2 (100 * q + n) (by omega) (by omega) (by rw [k0]; decide)
      have fp := f4 (100 * q + n) (by omega) (by omega) k0 hp.1 (by rw [hv]; exact hp.2)
      rw [hv] at fp
      refine Or.inr (Or.inl ⟨by rw [fk]; exact k0, k, c, by rw [fv]; exact hv, k1, k4, fp, c0, ck, fun w hw => ?_⟩)
      obtain ⟨a1, a2, a3⟩ := hc w hw
      have b1 := chain_le (fun w hw => (hc w hw).2.1) w (by omega)
      have b2 := chain_to (fun w hw => (hc w hw).2.1) (w + 1) (by omega)
      have b3 := chain_le (fun w hw => (hc w hw).2.1) k (Nat.le_refl _)
      refine ⟨by rw [f3 _ (by omega) (by omega)]; exact a1, a2, ih a3 (fun i i1 i2 => f1 i (by omega) (by omega)) (fun i i1 i2 => f2 i (by omega) (by omega)) (fun i i1 i2 => f3 i (by omega) (by omega)) (fun i i1 i2 => f4 i (by omega) (by omega))⟩
    · have fv := f2 (100 * q + n) (by omega) (by omega) (by rw [k0]; decide)
      have hk3 : k ≤ 4 ∨ 4 < k := by omega
      refine Or.inr (Or.inr ⟨by rw [fk]; exact k0, t, k, c, by rw [fv]; exact hv, by omega, hS, by rw [f6 t ht]; exact hw, k1, c0, ck, fun w hw2 => ?_⟩)
      obtain ⟨a1, a2, a3⟩ := hc w hw2
      have b1 := chain_le (fun w hw => (hc w hw).2.1) w (by omega)
      have b2 := chain_to (fun w hw => (hc w hw).2.1) (w + 1) (by omega)
      have b3 := chain_le (fun w hw => (hc w hw).2.1) k (Nat.le_refl _)
      refine ⟨by rw [f3 _ (by omega) (by omega)]; exact a1, a2, ih a3 (fun i i1 i2 => f1 i (by omega) (by omega)) (fun i i1 i2 => f2 i (by omega) (by omega)) (fun i i1 i2 => f3 i (by omega) (by omega)) (fun i i1 i2 => f4 i (by omega) (by omega))⟩
/-- the cells that Ex looks at -/
def exF (a i : Nat) : Bool := (a == 1 && i == 0) || a == 2 || a == 46 || (a == 42 && (i == 1 || i == 9 || i == 22 || i == 23)) || a == 43 || a == 45 || a == 48 || a == 49 || a == 50 || a == 51 || a == 53 || a == 56 || a == 57 || a == 58 || a == 59
/-- the cells that Rf looks at -/
def rfF (a i : Nat) : Bool := (a == 42 && (i == 1 || i == 9 || i == 22 || i == 23)) || a == 43 || a == 45 || a == 48 || a == 49 || a == 50 || a == 51 || a == 53 || a == 56 || a == 57 || a == 58 || a == 59
theorem Rf.fr {h h' : JH} (x : Rf h) (e : ∀ a i, rfF a i = true → h'.2.2 a i = h.2.2 a i) : Rf h' := by
  have e3 := e 42 1 rfl
  have e4 := e 42 9 rfl
  have e5 := e 42 22 rfl
  have e6 := e 42 23 rfl
  have f43 : ∀ i, h'.2.2 43 i = h.2.2 43 i := fun i => e 43 i rfl
  have f45 : ∀ i, h'.2.2 45 i = h.2.2 45 i := fun i => e 45 i rfl
  have f48 : ∀ i, h'.2.2 48 i = h.2.2 48 i := fun i => e 48 i rfl
  have f49 : ∀ i, h'.2.2 49 i = h.2.2 49 i := fun i => e 49 i rfl
  have f50 : ∀ i, h'.2.2 50 i = h.2.2 50 i := fun i => e 50 i rfl
  have f51 : ∀ i, h'.2.2 51 i = h.2.2 51 i := fun i => e 51 i rfl
  have f53 : ∀ i, h'.2.2 53 i = h.2.2 53 i := fun i => e 53 i rfl
  have f56 : ∀ i, h'.2.2 56 i = h.2.2 56 i := fun i => e 56 i rfl
  have f57 : ∀ i, h'.2.2 57 i = h.2.2 57 i := fun i => e 57 i rfl
  have f58 : ∀ i, h'.2.2 58 i = h.2.2 58 i := fun i => e 58 i rfl
  have f59 : ∀ i, h'.2.2 59 i = h.2.2 59 i := fun i => e 59 i rfl
  obtain ⟨x1, x2, x3, x4, x5⟩ := x
  refine ⟨fun t ht => by rw [f43]; exact x1 t (by rw [← e3]; exact ht), fun i hi => by rw [f45]; exact x2 i (by rw [← e3]; exact hi), fun q hq => ?_, by rw [e5, e6]; exact x4, fun j hj => ?_⟩
  · rw [f48]
    exact Tr.fr (by rw [e3]; exact Int.le_refl _) (fun t _ => f43 t) (x3 q (by rw [← e4]; exact hq)) (fun i _ _ => f49 i) (fun i _ _ _ => f50 i) (fun i _ _ => f51 i) (fun i _ _ _ a b => by rw [f53]; exact ⟨a, b⟩)
  · have := x5 j (by rw [← e5, ← e6]; exact hj)
    unfold NtOk at this ⊢
    simp only [e4, f49, f56, f57, f58, f59]
    exact this
theorem Ex.fr {h h' : JH} (x : Ex h) (e : ∀ a i, exF a i = true → h'.2.2 a i = h.2.2 a i) : Ex h' := by
  refine ⟨⟨fun t ht => by rw [e 2 t rfl]; exact x.1.1 t (by rw [← e 1 0 rfl]; exact ht), fun s t hs ht => by rw [e 42 1 rfl, e 46 _ rfl, e 43 _ rfl]; exact x.1.2 s t hs ht⟩, x.2.fr (fun a i ha => e a i ?_)⟩
  unfold rfF at ha
  unfold exF
  simp only [Bool.or_eq_true, Bool.and_eq_true, beq_iff_eq] at ha ⊢
  omega
theorem Ex.wr {h h' : JH} {a i : Nat} {v : Int} (x : Ex h) (e : h' = jwr h a i v) (hx : exF a i = false) : Ex h' := x.fr (fun b j hb => by
  subst e
  show (if b = a ∧ j = i then v else h.2.2 b j) = h.2.2 b j
  rw [if_neg]
  rintro ⟨rfl, rfl⟩
  rw [hx] at hb
  cases hb)
theorem Sc.ne {h h' : JH} {a i : Nat} {v : Int} (x : Sc h) (e : h' = jwr h a i v) (c1 : a ≠ 46) (c2 : a ≠ 43) (c3 : a ≠ 42 ∨ i ≠ 1) : Sc h' := fun s t hs ht => by
  rw [jw_ne (k := 42) (j := 1) e (by omega), jw_ne (k := 46) (j := 4 * s + t) e (by omega), jw_ne (k := 43) (j := t) e (by omega)]
  exact x s t hs ht
theorem exF_hi {a i : Nat} (ha : 83 ≤ a) : exF a i = false := by
  unfold exF
  simp only [Bool.or_eq_false_iff, Bool.and_eq_false_iff, beq_eq_false_iff_ne]
  omega
theorem exF_lt {a i : Nat} (h : exF a i = true) : a < 83 := by
  rcases Nat.lt_or_ge a 83 with z | z
  · exact z
  · rw [exF_hi z] at h
    cases h
def Gd (G : GH) (h : JH) : Prop := h.1 = G.1 ∧ FS h ∧ Rg h ∧ (∀ a, 83 ≤ a → a < G.1 → dOk G h a) ∧ Pq G h ∧ Pf G h ∧ h.2.2 19 4 ≤ h.2.2 19 3 ∧ Ex h
/-- a quarrel with so many nodes -/
def IsQ (G : GH) (r : Nat) (m : Int) : Prop := 83 ≤ r ∧ r < G.1 ∧ (G.2 r).1 = 1 ∧ (G.2 r).2.1 = m
/-- a feeling (the coin is one) -/
def IsF (G : GH) (r : Nat) : Prop := r = 23 ∨ (83 ≤ r ∧ r < G.1 ∧ (G.2 r).1 = 0)
/-- cells whose writing is looked at apart -/
def spx (a i : Nat) : Bool := (a == 0 && (i == 3 || i == 7)) || (a == 19 && (i == 3 || i == 4)) || a == 18 || a == 24 || exF a i
theorem ad0 : AD 0 11 17 := ⟨by decide, rfl⟩
theorem rf0_0 : rT 0 0 = (1, 1) := rfl
theorem rf0_1 : rT 0 1 = (7, 7) := rfl
theorem rf0_2 : rT 0 2 = (18, 18) := rfl
theorem rf0_3 : rT 0 3 = (0, 6) := rfl
theorem rf0_4 : rT 0 4 = (19, 19) := rfl
theorem rf0_5 : rT 0 5 = (23, 23) := rfl
theorem rf0_6 : rT 0 6 = (24, 24) := rfl
theorem rf0_7 : rT 0 7 = (0, 20) := rfl
theorem rf0_8 : rT 0 8 = (25, 25) := rfl
theorem rf0_9 : rT 0 9 = (0, 40) := rfl
theorem rf0_10 : rT 0 10 = ((-2147483648), 2147483647) := rfl
theorem rf0_11 : rT 0 11 = (26, 26) := rfl
theorem rf0_12 : rT 0 12 = (37, 37) := rfl
theorem rf0_13 : rT 0 13 = (38, 38) := rfl
theorem rf0_14 : rT 0 14 = (39, 39) := rfl
theorem rf0_15 : rT 0 15 = (40, 40) := rfl
theorem rf0_16 : rT 0 16 = (41, 41) := rfl
theorem ad1 : AD 1 10 8 := ⟨by decide, rfl⟩
theorem rf1_0 : rT 1 0 = (0, 4) := rfl
theorem rf1_1 : rT 1 1 = ((-9223372036854775808), 9223372036854775807) := rfl
theorem rf1_2 : rT 1 2 = (0, 1) := rfl
theorem rf1_3 : rT 1 3 = (2, 2) := rfl
theorem rf1_4 : rT 1 4 = (3, 3) := rfl
theorem rf1_5 : rT 1 5 = (4, 4) := rfl
theorem rf1_6 : rT 1 6 = (5, 5) := rfl
theorem rf1_7 : rT 1 7 = (6, 6) := rfl
theorem ad2 : AD 2 20 4 := ⟨by decide, rfl⟩
theorem rt2 (j : Nat) : rT 2 j = (0, 3) := rfl
theorem ad3 : AD 3 20 4 := ⟨by decide, rfl⟩
theorem rt3 (j : Nat) : rT 3 j = ((-1), 3) := rfl
theorem ad4 : AD 4 20 36 := ⟨by decide, rfl⟩
theorem rt4 (j : Nat) : rT 4 j = ((-2147483648), 2147483647) := rfl
theorem ad5 : AD 5 21 12 := ⟨by decide, rfl⟩
theorem rt5 (j : Nat) : rT 5 j = ((-9223372036854775808), 9223372036854775807) := rfl
theorem ad6 : AD 6 21 256 := ⟨by decide, rfl⟩
theorem rt6 (j : Nat) : rT 6 j = ((-9223372036854775808), 9223372036854775807) := rfl
theorem ad7 : AD 7 5 15 := ⟨by decide, rfl⟩
theorem rf7_0 : rT 7 0 = (0, 200) := rfl
theorem rf7_1 : rT 7 1 = ((-1), 200) := rfl
theorem rf7_2 : rT 7 2 = (0, 200) := rfl
theorem rf7_3 : rT 7 3 = (0, 200) := rfl
theorem rf7_4 : rT 7 4 = (0, 6) := rfl
theorem rf7_5 : rT 7 5 = (8, 8) := rfl
theorem rf7_6 : rT 7 6 = (9, 9) := rfl
theorem rf7_7 : rT 7 7 = (10, 10) := rfl
theorem rf7_8 : rT 7 8 = (11, 11) := rfl
theorem rf7_9 : rT 7 9 = (12, 12) := rfl
theorem rf7_10 : rT 7 10 = (13, 13) := rfl
theorem rf7_11 : rT 7 11 = (14, 14) := rfl
theorem rf7_12 : rT 7 12 = (15, 15) := rfl
theorem rf7_13 : rT 7 13 = (16, 16) := rfl
theorem rf7_14 : rT 7 14 = (17, 17) := rfl
theorem ad8 : AD 8 22 200 := ⟨by decide, rfl⟩
theorem rt8 (j : Nat) : rT 8 j = ((-128), 127) := rfl
theorem ad9 : AD 9 20 6 := ⟨by decide, rfl⟩
theorem rt9 (j : Nat) : rT 9 j = (0, 199) := rfl
theorem ad10 : AD 10 20 200 := ⟨by decide, rfl⟩
theorem rt10 (j : Nat) : rT 10 j = (0, 2) := rfl
theorem ad11 : AD 11 20 200 := ⟨by decide, rfl⟩
theorem rt11 (j : Nat) : rT 11 j = ((-2147483648), 2147483647) := rfl
theorem ad12 : AD 12 20 200 := ⟨by decide, rfl⟩
theorem rt12 (j : Nat) : rT 12 j = (0, 4) := rfl
theorem ad13 : AD 13 20 800 := ⟨by decide, rfl⟩
theorem rt13 (j : Nat) : rT 13 j = (0, 199) := rfl
theorem ad14 : AD 14 20 800 := ⟨by decide, rfl⟩
theorem rt14 (j : Nat) : rT 14 j = ((-2147483648), 2147483647) := rfl
theorem ad15 : AD 15 20 200 := ⟨by decide, rfl⟩
theorem rt15 (j : Nat) : rT 15 j = ((-2147483648), 2147483647) := rfl
theorem ad16 : AD 16 20 200 := ⟨by decide, rfl⟩
theorem rt16 (j : Nat) : rT 16 j = ((-2147483648), 2147483647) := rfl
theorem ad17 : AD 17 20 200 := ⟨by decide, rfl⟩
theorem rt17 (j : Nat) : rT 17 j = ((-2147483648), 2147483647) := rfl
theorem ad18 : AD 18 24 6 := ⟨by decide, rfl⟩
theorem rt18 (j : Nat) : rT 18 j = ((-1), 1000000000) := rfl
theorem ad19 : AD 19 7 6 := ⟨by decide, rfl⟩
theorem rf19_0 : rT 19 0 = (20, 20) := rfl
theorem rf19_1 : rT 19 1 = (21, 21) := rfl
theorem rf19_2 : rT 19 2 = (22, 22) := rfl
theorem rf19_3 : rT 19 3 = (0, 6) := rfl
theorem rf19_4 : rT 19 4 = (0, 6) := rfl
theorem rf19_5 : rT 19 5 = (0, 1000) := rfl
theorem ad20 : AD 20 20 6 := ⟨by decide, rfl⟩
theorem rt20 (j : Nat) : rT 20 j = ((-2147483648), 2147483647) := rfl
theorem ad21 : AD 21 20 6 := ⟨by decide, rfl⟩
theorem rt21 (j : Nat) : rT 21 j = ((-2147483648), 2147483647) := rfl
theorem ad22 : AD 22 20 24 := ⟨by decide, rfl⟩
theorem rt22 (j : Nat) : rT 22 j = ((-2147483648), 2147483647) := rfl
theorem ad23 : AD 23 0 3 := ⟨by decide, rfl⟩
theorem rf23_0 : rT 23 0 = (19, 19) := rfl
theorem rf23_1 : rT 23 1 = (0, 0) := rfl
theorem rf23_2 : rT 23 2 = (0, 0) := rfl
theorem ad24 : AD 24 25 20 := ⟨by decide, rfl⟩
theorem rt24 (j : Nat) : rT 24 j = ((-1), 1000000000) := rfl
theorem ad25 : AD 25 20 120 := ⟨by decide, rfl⟩
theorem rt25 (j : Nat) : rT 25 j = ((-2147483648), 2147483647) := rfl
theorem ad26 : AD 26 9 15 := ⟨by decide, rfl⟩
theorem rf26_0 : rT 26 0 = (0, 4) := rfl
theorem rf26_1 : rT 26 1 = (0, 4) := rfl
theorem rf26_2 : rT 26 2 = (27, 27) := rfl
theorem rf26_3 : rT 26 3 = (0, 3) := rfl
theorem rf26_4 : rT 26 4 = (28, 28) := rfl
theorem rf26_5 : rT 26 5 = (29, 29) := rfl
theorem rf26_6 : rT 26 6 = (30, 30) := rfl
theorem rf26_7 : rT 26 7 = (0, 4) := rfl
theorem rf26_8 : rT 26 8 = (31, 31) := rfl
theorem rf26_9 : rT 26 9 = (0, 4) := rfl
theorem rf26_10 : rT 26 10 = (32, 32) := rfl
theorem rf26_11 : rT 26 11 = (33, 33) := rfl
theorem rf26_12 : rT 26 12 = (34, 34) := rfl
theorem rf26_13 : rT 26 13 = (35, 35) := rfl
theorem rf26_14 : rT 26 14 = (36, 36) := rfl
theorem ad27 : AD 27 20 32 := ⟨by decide, rfl⟩
theorem rt27 (j : Nat) : rT 27 j = ((-99), 99) := rfl
theorem ad28 : AD 28 20 3 := ⟨by decide, rfl⟩
theorem rt28 (j : Nat) : rT 28 j = (0, 9) := rfl
theorem ad29 : AD 29 20 3 := ⟨by decide, rfl⟩
theorem rt29 (j : Nat) : rT 29 j = (0, 99) := rfl
theorem ad30 : AD 30 20 3 := ⟨by decide, rfl⟩
theorem rt30 (j : Nat) : rT 30 j = (0, 99) := rfl
theorem ad31 : AD 31 20 4 := ⟨by decide, rfl⟩
theorem rt31 (j : Nat) : rT 31 j = (0, 99) := rfl
theorem ad32 : AD 32 20 4 := ⟨by decide, rfl⟩
theorem rt32 (j : Nat) : rT 32 j = (0, 99) := rfl
theorem ad33 : AD 33 20 4 := ⟨by decide, rfl⟩
theorem rt33 (j : Nat) : rT 33 j = (0, 100) := rfl
theorem ad34 : AD 34 20 20 := ⟨by decide, rfl⟩
theorem rt34 (j : Nat) : rT 34 j = (0, 999) := rfl
theorem ad35 : AD 35 20 20 := ⟨by decide, rfl⟩
theorem rt35 (j : Nat) : rT 35 j = (0, 100) := rfl
theorem ad36 : AD 36 20 20 := ⟨by decide, rfl⟩
theorem rt36 (j : Nat) : rT 36 j = (0, 99) := rfl
theorem ad37 : AD 37 20 6 := ⟨by decide, rfl⟩
theorem rt37 (j : Nat) : rT 37 j = ((-1), 29) := rfl
theorem ad38 : AD 38 20 6 := ⟨by decide, rfl⟩
theorem rt38 (j : Nat) : rT 38 j = (0, 60) := rfl
theorem ad39 : AD 39 21 360 := ⟨by decide, rfl⟩
theorem rt39 (j : Nat) : rT 39 j = ((-9223372036854775808), 9223372036854775807) := rfl
theorem ad40 : AD 40 21 396 := ⟨by decide, rfl⟩
theorem rt40 (j : Nat) : rT 40 j = ((-9223372036854775808), 9223372036854775807) := rfl
theorem ad41 : AD 41 20 99 := ⟨by decide, rfl⟩
theorem rt41 (j : Nat) : rT 41 j = ((-2147483648), 2147483647) := rfl
theorem ad42 : AD 42 12 66 := ⟨by decide, rfl⟩
theorem rf42_0 : rT 42 0 = ((-2147483648), 2147483647) := rfl
theorem rf42_1 : rT 42 1 = (0, 4) := rfl
theorem rf42_2 : rT 42 2 = (43, 43) := rfl
theorem rf42_3 : rT 42 3 = (44, 44) := rfl
theorem rf42_4 : rT 42 4 = (45, 45) := rfl
theorem rf42_5 : rT 42 5 = (0, 81) := rfl
theorem rf42_6 : rT 42 6 = (46, 46) := rfl
theorem rf42_7 : rT 42 7 = (47, 47) := rfl
theorem rf42_8 : rT 42 8 = ((-9223372036854775808), 9223372036854775807) := rfl
theorem rf42_9 : rT 42 9 = (0, 6) := rfl
theorem rf42_10 : rT 42 10 = (48, 48) := rfl
theorem rf42_11 : rT 42 11 = (49, 49) := rfl
theorem rf42_12 : rT 42 12 = (50, 50) := rfl
theorem rf42_13 : rT 42 13 = (51, 51) := rfl
theorem rf42_14 : rT 42 14 = (52, 52) := rfl
theorem rf42_15 : rT 42 15 = (53, 53) := rfl
theorem rf42_16 : rT 42 16 = (54, 54) := rfl
theorem rf42_17 : rT 42 17 = (0, 200) := rfl
theorem rf42_18 : rT 42 18 = (55, 55) := rfl
theorem rf42_19 : rT 42 19 = (0, 6) := rfl
theorem rf42_20 : rT 42 20 = ((-2147483648), 2147483647) := rfl
theorem rf42_21 : rT 42 21 = ((-2147483648), 2147483647) := rfl
theorem rf42_22 : rT 42 22 = (0, 40) := rfl
theorem rf42_23 : rT 42 23 = (0, 40) := rfl
theorem rf42_24 : rT 42 24 = (56, 56) := rfl
theorem rf42_25 : rT 42 25 = (57, 57) := rfl
theorem rf42_26 : rT 42 26 = (58, 58) := rfl
theorem rf42_27 : rT 42 27 = (59, 59) := rfl
theorem rf42_28 : rT 42 28 = (0, 20) := rfl
theorem rf42_29 : rT 42 29 = (60, 60) := rfl
theorem rf42_30 : rT 42 30 = (61, 61) := rfl
theorem rf42_31 : rT 42 31 = (0, 6) := rfl
theorem rf42_32 : rT 42 32 = (62, 62) := rfl
theorem rf42_33 : rT 42 33 = (63, 63) := rfl
theorem rf42_34 : rT 42 34 = (64, 64) := rfl
theorem rf42_35 : rT 42 35 = (65, 65) := rfl
theorem rf42_36 : rT 42 36 = ((-2147483648), 2147483647) := rfl
theorem rf42_37 : rT 42 37 = ((-2147483648), 2147483647) := rfl
theorem rf42_38 : rT 42 38 = ((-2147483648), 2147483647) := rfl
theorem rf42_39 : rT 42 39 = (0, 1) := rfl
theorem rf42_40 : rT 42 40 = ((-2147483648), 2147483647) := rfl
theorem rf42_41 : rT 42 41 = ((-2147483648), 2147483647) := rfl
theorem rf42_42 : rT 42 42 = ((-2147483648), 2147483647) := rfl
theorem rf42_43 : rT 42 43 = (66, 66) := rfl
theorem rf42_44 : rT 42 44 = (0, 4) := rfl
theorem rf42_45 : rT 42 45 = (0, 4) := rfl
theorem rf42_46 : rT 42 46 = (67, 67) := rfl
theorem rf42_47 : rT 42 47 = (0, 3) := rfl
theorem rf42_48 : rT 42 48 = (68, 68) := rfl
theorem rf42_49 : rT 42 49 = (69, 69) := rfl
theorem rf42_50 : rT 42 50 = (70, 70) := rfl
theorem rf42_51 : rT 42 51 = (0, 4) := rfl
theorem rf42_52 : rT 42 52 = (71, 71) := rfl
theorem rf42_53 : rT 42 53 = (0, 4) := rfl
theorem rf42_54 : rT 42 54 = (72, 72) := rfl
theorem rf42_55 : rT 42 55 = (73, 73) := rfl
theorem rf42_56 : rT 42 56 = (74, 74) := rfl
theorem rf42_57 : rT 42 57 = (75, 75) := rfl
theorem rf42_58 : rT 42 58 = (76, 76) := rfl
theorem rf42_59 : rT 42 59 = (77, 77) := rfl
theorem rf42_60 : rT 42 60 = (0, 1000) := rfl
theorem rf42_61 : rT 42 61 = (78, 78) := rfl
theorem rf42_62 : rT 42 62 = (79, 79) := rfl
theorem rf42_63 : rT 42 63 = (80, 80) := rfl
theorem rf42_64 : rT 42 64 = (81, 81) := rfl
theorem rf42_65 : rT 42 65 = (82, 82) := rfl
theorem ad43 : AD 43 20 4 := ⟨by decide, rfl⟩
theorem rt43 (j : Nat) : rT 43 j = (0, 3) := rfl
theorem ad44 : AD 44 20 4 := ⟨by decide, rfl⟩
theorem rt44 (j : Nat) : rT 44 j = ((-1), 3) := rfl
theorem ad45 : AD 45 20 36 := ⟨by decide, rfl⟩
theorem rt45 (j : Nat) : rT 45 j = (0, 99) := rfl
theorem ad46 : AD 46 20 324 := ⟨by decide, rfl⟩
theorem rt46 (j : Nat) : rT 46 j = (0, 2) := rfl
theorem ad47 : AD 47 21 81 := ⟨by decide, rfl⟩
theorem rt47 (j : Nat) : rT 47 j = ((-9223372036854775808), 9223372036854775807) := rfl
theorem ad48 : AD 48 20 7 := ⟨by decide, rfl⟩
theorem rt48 (j : Nat) : rT 48 j = (0, 100) := rfl
theorem ad49 : AD 49 22 700 := ⟨by decide, rfl⟩
theorem rt49 (j : Nat) : rT 49 j = (0, 2) := rfl
theorem ad50 : AD 50 20 700 := ⟨by decide, rfl⟩
theorem rt50 (j : Nat) : rT 50 j = ((-999), 999) := rfl
theorem ad51 : AD 51 22 2800 := ⟨by decide, rfl⟩
theorem rt51 (j : Nat) : rT 51 j = ((-128), 127) := rfl
theorem ad52 : AD 52 20 2800 := ⟨by decide, rfl⟩
theorem rt52 (j : Nat) : rT 52 j = (0, 99) := rfl
theorem ad53 : AD 53 22 700 := ⟨by decide, rfl⟩
theorem rt53 (j : Nat) : rT 53 j = (0, 3) := rfl
theorem ad54 : AD 54 22 200 := ⟨by decide, rfl⟩
theorem rt54 (j : Nat) : rT 54 j = ((-128), 127) := rfl
theorem ad55 : AD 55 20 6 := ⟨by decide, rfl⟩
theorem rt55 (j : Nat) : rT 55 j = (0, 202) := rfl
theorem ad56 : AD 56 20 40 := ⟨by decide, rfl⟩
theorem rt56 (j : Nat) : rT 56 j = ((-1), 1) := rfl
theorem ad57 : AD 57 20 40 := ⟨by decide, rfl⟩
theorem rt57 (j : Nat) : rT 57 j = (0, 2799) := rfl
theorem ad58 : AD 58 20 40 := ⟨by decide, rfl⟩
theorem rt58 (j : Nat) : rT 58 j = ((-999), 999) := rfl
theorem ad59 : AD 59 20 40 := ⟨by decide, rfl⟩
theorem rt59 (j : Nat) : rT 59 j = ((-999), 999) := rfl
theorem ad60 : AD 60 20 20 := ⟨by decide, rfl⟩
theorem rt60 (j : Nat) : rT 60 j = (0, 5) := rfl
theorem ad61 : AD 61 20 20 := ⟨by decide, rfl⟩
theorem rt61 (j : Nat) : rT 61 j = (0, 100) := rfl
theorem ad62 : AD 62 20 6 := ⟨by decide, rfl⟩
theorem rt62 (j : Nat) : rT 62 j = ((-9999), 9999) := rfl
theorem ad63 : AD 63 20 6 := ⟨by decide, rfl⟩
theorem rt63 (j : Nat) : rT 63 j = (0, 9) := rfl
theorem ad64 : AD 64 20 4 := ⟨by decide, rfl⟩
theorem rt64 (j : Nat) : rT 64 j = ((-1), 2) := rfl
theorem ad65 : AD 65 22 100 := ⟨by decide, rfl⟩
theorem rt65 (j : Nat) : rT 65 j = (0, 3) := rfl
theorem ad66 : AD 66 22 9900 := ⟨by decide, rfl⟩
theorem rt66 (j : Nat) : rT 66 j = (0, 3) := rfl
theorem ad67 : AD 67 20 32 := ⟨by decide, rfl⟩
theorem rt67 (j : Nat) : rT 67 j = ((-99), 99) := rfl
theorem ad68 : AD 68 20 3 := ⟨by decide, rfl⟩
theorem rt68 (j : Nat) : rT 68 j = (0, 9) := rfl
theorem ad69 : AD 69 20 3 := ⟨by decide, rfl⟩
theorem rt69 (j : Nat) : rT 69 j = (0, 99) := rfl
theorem ad70 : AD 70 20 3 := ⟨by decide, rfl⟩
theorem rt70 (j : Nat) : rT 70 j = (0, 99) := rfl
theorem ad71 : AD 71 20 4 := ⟨by decide, rfl⟩
theorem rt71 (j : Nat) : rT 71 j = (0, 99) := rfl
theorem ad72 : AD 72 20 4 := ⟨by decide, rfl⟩
theorem rt72 (j : Nat) : rT 72 j = (0, 99) := rfl
theorem ad73 : AD 73 20 4 := ⟨by decide, rfl⟩
theorem rt73 (j : Nat) : rT 73 j = (0, 100) := rfl
theorem ad74 : AD 74 20 20 := ⟨by decide, rfl⟩
theorem rt74 (j : Nat) : rT 74 j = (0, 999) := rfl
theorem ad75 : AD 75 20 20 := ⟨by decide, rfl⟩
theorem rt75 (j : Nat) : rT 75 j = (0, 100) := rfl
theorem ad76 : AD 76 20 20 := ⟨by decide, rfl⟩
theorem rt76 (j : Nat) : rT 76 j = (0, 99) := rfl
theorem ad77 : AD 77 20 4 := ⟨by decide, rfl⟩
theorem rt77 (j : Nat) : rT 77 j = (0, 2) := rfl
theorem ad78 : AD 78 20 24 := ⟨by decide, rfl⟩
theorem rt78 (j : Nat) : rT 78 j = ((-2147483648), 2147483647) := rfl
theorem ad79 : AD 79 20 6 := ⟨by decide, rfl⟩
theorem rt79 (j : Nat) : rT 79 j = ((-6), 19) := rfl
theorem ad80 : AD 80 20 6 := ⟨by decide, rfl⟩
theorem rt80 (j : Nat) : rT 80 j = (0, 60) := rfl
theorem ad81 : AD 81 21 360 := ⟨by decide, rfl⟩
theorem rt81 (j : Nat) : rT 81 j = ((-9223372036854775808), 9223372036854775807) := rfl
theorem ad82 : AD 82 21 60 := ⟨by decide, rfl⟩
theorem rt82 (j : Nat) : rT 82 j = ((-9223372036854775808), 9223372036854775807) := rfl
section GdRows
variable {G : GH} {h h' : JH} {a t n i : Nat} {lo hi v : Int}
theorem Gd.ex (g : Gd G h) : Ex h := g.2.2.2.2.2.2.2
theorem Gd.lt (g : Gd G h) (ha : AD a t n) : a < h.1 := Nat.lt_of_lt_of_le ha.1 g.2.1.1
theorem Gd.ty (g : Gd G h) (ha : AD a t n) : h.2.1 a = (t, n) := by rw [g.2.1.2 a ha.1]; exact ha.2
theorem Gd.tg (g : Gd G h) (ha : AD a t n) : (h.2.1 a).1 = t := by rw [g.ty ha]
theorem Gd.ln (g : Gd G h) (ha : AD a t n) : (h.2.1 a).2 = n := by rw [g.ty ha]
theorem Gd.fam {f : Nat} (g : Gd G h) (ha : AD a t n) (hf : jfam f t = true) : jfam f (h.2.1 a).1 = true := by rw [g.ty ha]; exact hf
theorem Gd.rg (g : Gd G h) (ha : AD a t n) (hi' : i < n) (ht : rT a i = (lo, hi)) : lo ≤ h.2.2 a i ∧ h.2.2 a i ≤ hi := by
  have := g.2.2.1 a i ha.1 (by rw [ha.2]; exact hi')
  rw [ht] at this
  exact this
theorem Gd.pt {c : Int} (g : Gd G h) (ha : AD a t n) (hi' : i < n) (ht : rT a i = (c, c)) : h.2.2 a i = c := by
  have := g.rg ha hi' ht
  omega
theorem jwr_ty {a i : Nat} {v : Int} (e : h' = jwr h a i v) : h'.1 = h.1 ∧ h'.2.1 = h.2.1 := by subst e; exact ⟨rfl, rfl⟩
theorem jwr_v {a i k j : Nat} {v : Int} (e : h' = jwr h a i v) : h'.2.2 k j = if k = a ∧ j = i then v else h.2.2 k j := by subst e; rfl
theorem dOk_ne {b j : Nat} {w : Int} (e : h' = jwr h b j w) (hne : a ≠ b) (d : dOk G h a) : dOk G h' a := by
  have h1 : h'.2.1 = h.2.1 := (jwr_ty e).2
  have h2 : ∀ k, h'.2.2 a k = h.2.2 a k := fun k => jw_ne e (Or.inl hne)
  unfold dOk dFe dQu dAr at d ⊢
  rw [h1]
  simp only [h2]
  exact d
theorem Gd.wr (g : Gd G h) (e : h' = jwr h a i v) (ha : AD a t n) (hx : spx a i = false) (ht : rT a i = (lo, hi)) (h1 : lo ≤ v) (h2 : v ≤ hi) : Gd G h' := by
  obtain ⟨g1, g2, g3, g4, g5, g6, g7, g8⟩ := g
  have hxE : exF a i = false := by
    unfold spx at hx
    rw [Bool.or_eq_false_iff] at hx
    exact hx.2
  unfold spx at hx
  rw [Bool.or_eq_false_iff] at hx
  have hx := hx.1
  simp only [Bool.or_eq_false_iff, Bool.and_eq_false_iff, beq_eq_false_iff_ne] at hx
  have e1 := jwr_ty e
  have a83 := ha.1
  refine ⟨e1.1.trans g1, ⟨by rw [e1.1]; exact g2.1, by rw [e1.2]; exact g2.2⟩, fun b j hb hj => ?_, fun b hb hb2 => dOk_ne e (by omega) (g4 b hb hb2), fun j hj => ?_, fun j hj => ?_, ?_, g8.wr e hxE⟩
  · rw [jwr_v e]
    split
    · rename_i hc
      rw [hc.1, hc.2, ht]
      exact ⟨h1, h2⟩
    · exact g3 b j hb hj
  · rw [jw_ne e (by omega)] at hj
    rw [jw_ne e (by omega)]
    exact g5 j hj
  · rw [jw_ne e (by omega)] at hj
    rw [jw_ne e (by omega)]
    exact g6 j hj
  · rw [jw_ne e (by omega), jw_ne e (by omega)]
    exact g7
end GdRows
/-! what a call or a loop may have written -/
def inW (l : List (Nat × Nat)) (a i : Nat) : Bool := l.any (fun q => (q.1 == a && (q.2 == 0 || q.2 == i + 1)) || (q.1 == 1000000 && decide (83 ≤ a)))
def Kp (W : List (Nat × Nat)) (h h' : JH) : Prop := h'.1 = h.1 ∧ h'.2.1 = h.2.1 ∧ ∀ a i, inW W a i = false → h'.2.2 a i = h.2.2 a i
def subW (l k : List (Nat × Nat)) : Bool := l.all (fun q => k.any (fun r => r.1 == q.1 && (r.2 == 0 || r.2 == q.2)))
theorem inW_sub {l k : List (Nat × Nat)} (h : subW l k = true) {a i : Nat} (hk : inW k a i = false) : inW l a i = false := by
  simp only [inW, List.any_eq_false] at hk ⊢
  intro q hq hc
  obtain ⟨r, hr, hc2⟩ := List.any_eq_true.mp (List.all_eq_true.mp h q hq)
  apply hk r hr
  simp only [Bool.or_eq_true, Bool.and_eq_true, beq_iff_eq, decide_eq_true_eq] at hc hc2 ⊢
  omega
theorem Kp.rf (W : List (Nat × Nat)) (h : JH) : Kp W h h := ⟨rfl, rfl, fun _ _ _ => rfl⟩
theorem Kp.wr {W : List (Nat × Nat)} {h h1 h' : JH} {a i : Nat} {v : Int} (k : Kp W h h1) (e : h' = jwr h1 a i v) (hw : inW W a i = true) : Kp W h h' := by
  refine ⟨(jwr_ty e).1.trans k.1, (jwr_ty e).2.trans k.2.1, fun b j hb => ?_⟩
  rw [jwr_v e, if_neg]
  · exact k.2.2 b j hb
  · rintro ⟨rfl, rfl⟩
    rw [hb] at hw
    cases hw
theorem Kp.tr {W W' : List (Nat × Nat)} {h h1 h' : JH} (k : Kp W h h1) (k' : Kp W' h1 h') (hs : subW W' W = true) : Kp W h h' :=
  ⟨k'.1.trans k.1, k'.2.1.trans k.2.1, fun b j hb => (k'.2.2 b j (inW_sub hs hb)).trans (k.2.2 b j hb)⟩
theorem Kp.v {W : List (Nat × Nat)} {h h' : JH} (k : Kp W h h') {a i : Nat} (hw : inW W a i = false) : h'.2.2 a i = h.2.2 a i := k.2.2 a i hw
theorem inW_dyn {W : List (Nat × Nat)} (hw : W.contains (1000000, 0) = true) {a i : Nat} (ha : 83 ≤ a) : inW W a i = true := by
  rw [List.contains_iff_mem] at hw
  unfold inW
  rw [List.any_eq_true]
  exact ⟨_, hw, by simp [ha]⟩
/-- an answer within bounds, the state as it should be, nothing else written -/
def PI (G : GH) (W : List (Nat × Nat)) (h : JH) (t : Nat) (lo hi : Int) (v : Option AV) (h' : JH) : Prop := ∃ r : Int, v = some (t, r) ∧ lo ≤ r ∧ r ≤ hi ∧ Gd G h' ∧ Kp W h h'
def PV (G : GH) (W : List (Nat × Nat)) (h : JH) (v : Option AV) (h' : JH) : Prop := v = none ∧ Gd G h' ∧ Kp W h h'
section EvG
variable {ok : Nat → Nat → Nat → List AV → JH → (Option AV → JH → Prop) → Prop} {xl : Option Nat} {xs : Nat → Int} {cd : List JE} {mc ms : Nat} {Q : Option AV → JH → Prop} {K K' : List JE} {L L' S S' : List AV} {h h' : JH} {cu su pc n' : Nat} {ps : List Nat} {z : Int} {G : GH} {r n k t : Nat} {i lo hi v : Int}
theorem g_iald (g : Gd G h) (ha : AD r 20 n) (ht : ∀ j, rT r j = (lo, hi)) (h0 : 0 ≤ i) (h1 : i < (n : Int)) (kk : ∀ v, h.2.2 r i.toNat = v → lo ≤ v → v ≤ hi → jEv ok xl xs cd mc ms Q (K, L, (0, v) :: S, h, cu, su)) : jEv ok xl xs cd mc ms Q ((pc, .iaload, n', ps, z) :: K, L, (0, i) :: (2, (r : Int)) :: S, h, cu, su) :=
  have b := g.rg ha (i := i.toNat) (by omega) (ht _)
  ev_iald (g.lt ha) (g.tg ha) (by omega) (by rw [g.ln ha]; omega) rfl (kk _ rfl b.1 b.2)
theorem g_lald (g : Gd G h) (ha : AD r 21 n) (ht : ∀ j, rT r j = (lo, hi)) (h0 : 0 ≤ i) (h1 : i < (n : Int)) (kk : ∀ v, h.2.2 r i.toNat = v → lo ≤ v → v ≤ hi → jEv ok xl xs cd mc ms Q (K, L, (1, v) :: S, h, cu, su)) : jEv ok xl xs cd mc ms Q ((pc, .laload, n', ps, z) :: K, L, (0, i) :: (2, (r : Int)) :: S, h, cu, su) :=
  have b := g.rg ha (i := i.toNat) (by omega) (ht _)
  ev_lald (g.lt ha) (g.tg ha) (by omega) (by rw [g.ln ha]; omega) rfl (kk _ rfl b.1 b.2)
theorem g_bald (g : Gd G h) (ha : AD r 22 n) (ht : ∀ j, rT r j = (lo, hi)) (h0 : 0 ≤ i) (h1 : i < (n : Int)) (kk : ∀ v, h.2.2 r i.toNat = v → lo ≤ v → v ≤ hi → jEv ok xl xs cd mc ms Q (K, L, (0, v) :: S, h, cu, su)) : jEv ok xl xs cd mc ms Q ((pc, .baload, n', [22], z) :: K, L, (0, i) :: (2, (r : Int)) :: S, h, cu, su) :=
  have b := g.rg ha (i := i.toNat) (by omega) (ht _)
  ev_bald (g.lt ha) (g.tg ha) (Or.inl rfl) (by omega) (by rw [g.ln ha]; omega) rfl (kk _ rfl b.1 b.2)
theorem g_iast (g : Gd G h) (ha : AD r 20 n) (ht : ∀ j, rT r j = (lo, hi)) (hx : ∀ j, spx r j = false) (h0 : 0 ≤ i) (h1 : i < (n : Int)) (b1 : lo ≤ v) (b2 : v ≤ hi) (kk : ∀ h', h' = jwr h r i.toNat v → Gd G h' → jEv ok xl xs cd mc ms Q (K, L, S, h', cu, su)) : jEv ok xl xs cd mc ms Q ((pc, .iastore, n', ps, z) :: K, L, (0, v) :: (0, i) :: (2, (r : Int)) :: S, h, cu, su) :=
  ev_iast (g.lt ha) (g.tg ha) (by omega) (by rw [g.ln ha]; omega) (kk _ rfl (g.wr rfl ha (hx _) (ht _) b1 b2))
theorem g_last (g : Gd G h) (ha : AD r 21 n) (ht : ∀ j, rT r j = (lo, hi)) (hx : ∀ j, spx r j = false) (h0 : 0 ≤ i) (h1 : i < (n : Int)) (b1 : lo ≤ v) (b2 : v ≤ hi) (kk : ∀ h', h' = jwr h r i.toNat v → Gd G h' → jEv ok xl xs cd mc ms Q (K, L, S, h', cu, su)) : jEv ok xl xs cd mc ms Q ((pc, .lastore, n', ps, z) :: K, L, (1, v) :: (0, i) :: (2, (r : Int)) :: S, h, cu, su) :=
  ev_last (g.lt ha) (g.tg ha) (by omega) (by rw [g.ln ha]; omega) (kk _ rfl (g.wr rfl ha (hx _) (ht _) b1 b2))
theorem g_bast {w : Int} (g : Gd G h) (ha : AD r 22 n) (ht : ∀ j, rT r j = (lo, hi)) (hx : ∀ j, spx r j = false) (h0 : 0 ≤ i) (h1 : i < (n : Int)) (hw : w8 v = w) (b1 : lo ≤ w) (b2 : w ≤ hi) (kk : ∀ h', h' = jwr h r i.toNat w → Gd G h' → jEv ok xl xs cd mc ms Q (K, L, S, h', cu, su)) : jEv ok xl xs cd mc ms Q ((pc, .bastore, n', [22], z) :: K, L, (0, v) :: (0, i) :: (2, (r : Int)) :: S, h, cu, su) :=
  ev_bast (g.lt ha) (g.tg ha) (by omega) (by rw [g.ln ha]; omega) hw (kk _ rfl (g.wr rfl ha (hx _) (ht _) b1 b2))
theorem g_getp {x f j1 j2 : Nat} {c : Int} (g : Gd G h) (ha : AD r t n) (hf : jfam f t = true) (hk : k < n) (ht : rT r k = (c, c)) (hs : jsk (jfty f k) = 2) (kk : jEv ok xl xs cd mc ms Q (K, L, (2, c) :: S, h, cu, su)) : jEv ok xl xs cd mc ms Q ((pc, .getfield x, n', [f, k, j1, j2], z) :: K, L, (2, (r : Int)) :: S, h, cu, su) :=
  ev_getf (g.lt ha) (g.fam ha hf) hs (g.pt ha hk ht) kk
theorem g_getv {x f j1 j2 : Nat} {u : Nat} (g : Gd G h) (ha : AD r t n) (hf : jfam f t = true) (hs : jsk (jfty f k) = u) (hv : h.2.2 r k = v) (kk : jEv ok xl xs cd mc ms Q (K, L, (u, v) :: S, h, cu, su)) : jEv ok xl xs cd mc ms Q ((pc, .getfield x, n', [f, k, j1, j2], z) :: K, L, (2, (r : Int)) :: S, h, cu, su) :=
  ev_getf (g.lt ha) (g.fam ha hf) hs hv kk
theorem g_putf {x f j1 j2 u : Nat} (g : Gd G h) (ha : AD r t n) (hf : jfam f t = true) (hs : jsk (jfty f k) = u) (hu : u ≠ 2) (hz : jfty f k = 3 → v = 0 ∨ v = 1) (ht : rT r k = (lo, hi)) (hx : spx r k = false) (b1 : lo ≤ v) (b2 : v ≤ hi) (kk : ∀ h', h' = jwr h r k v → Gd G h' → jEv ok xl xs cd mc ms Q (K, L, S, h', cu, su)) : jEv ok xl xs cd mc ms Q ((pc, .putfield x, n', [f, k, j1, j2], z) :: K, L, (u, v) :: (2, (r : Int)) :: S, h, cu, su) :=
  ev_putf (g.lt ha) (g.fam ha hf) hs hz (fun e => absurd e hu) (kk _ rfl (g.wr rfl ha hx ht b1 b2))
theorem g_iaddG {x y : Int} (kk : ∀ r, w32 (x + y) = r → -2147483648 ≤ r → r ≤ 2147483647 → jEv ok xl xs cd mc ms Q (K, L, (0, r) :: S, h, cu, su)) : jEv ok xl xs cd mc ms Q ((pc, .iadd, n', ps, z) :: K, L, (0, y) :: (0, x) :: S, h, cu, su) :=
  have b := jw32_in (x + y)
  ev_iadd rfl (kk _ rfl b.1 (by omega))
theorem g_isubG {x y : Int} (kk : ∀ r, w32 (x - y) = r → -2147483648 ≤ r → r ≤ 2147483647 → jEv ok xl xs cd mc ms Q (K, L, (0, r) :: S, h, cu, su)) : jEv ok xl xs cd mc ms Q ((pc, .isub, n', ps, z) :: K, L, (0, y) :: (0, x) :: S, h, cu, su) :=
  have b := jw32_in (x - y)
  ev_isub rfl (kk _ rfl b.1 (by omega))
theorem g_imulG {x y : Int} (kk : ∀ r, w32 (x * y) = r → -2147483648 ≤ r → r ≤ 2147483647 → jEv ok xl xs cd mc ms Q (K, L, (0, r) :: S, h, cu, su)) : jEv ok xl xs cd mc ms Q ((pc, .imul, n', ps, z) :: K, L, (0, y) :: (0, x) :: S, h, cu, su) :=
  have b := jw32_in (x * y)
  ev_imul rfl (kk _ rfl b.1 (by omega))
theorem g_inegG {x : Int} (kk : ∀ r, w32 (-x) = r → -2147483648 ≤ r → r ≤ 2147483647 → jEv ok xl xs cd mc ms Q (K, L, (0, r) :: S, h, cu, su)) : jEv ok xl xs cd mc ms Q ((pc, .ineg, n', ps, z) :: K, L, (0, x) :: S, h, cu, su) :=
  have b := jw32_in (-x)
  ev_ineg rfl (kk _ rfl b.1 (by omega))
theorem g_laddG {x y : Int} (kk : ∀ r, w64 (x + y) = r → -9223372036854775808 ≤ r → r ≤ 9223372036854775807 → jEv ok xl xs cd mc ms Q (K, L, (1, r) :: S, h, cu, su)) : jEv ok xl xs cd mc ms Q ((pc, .ladd, n', ps, z) :: K, L, (1, y) :: (1, x) :: S, h, cu, su) :=
  have b := jw64_in (x + y)
  ev_ladd rfl (kk _ rfl b.1 (by omega))
theorem g_lsubG {x y : Int} (kk : ∀ r, w64 (x - y) = r → -9223372036854775808 ≤ r → r ≤ 9223372036854775807 → jEv ok xl xs cd mc ms Q (K, L, (1, r) :: S, h, cu, su)) : jEv ok xl xs cd mc ms Q ((pc, .lsub, n', ps, z) :: K, L, (1, y) :: (1, x) :: S, h, cu, su) :=
  have b := jw64_in (x - y)
  ev_lsub rfl (kk _ rfl b.1 (by omega))
theorem g_lmulG {x y : Int} (kk : ∀ r, w64 (x * y) = r → -9223372036854775808 ≤ r → r ≤ 9223372036854775807 → jEv ok xl xs cd mc ms Q (K, L, (1, r) :: S, h, cu, su)) : jEv ok xl xs cd mc ms Q ((pc, .lmul, n', ps, z) :: K, L, (1, y) :: (1, x) :: S, h, cu, su) :=
  have b := jw64_in (x * y)
  ev_lmul rfl (kk _ rfl b.1 (by omega))
theorem g_lnegG {x : Int} (kk : ∀ r, w64 (-x) = r → -9223372036854775808 ≤ r → r ≤ 9223372036854775807 → jEv ok xl xs cd mc ms Q (K, L, (1, r) :: S, h, cu, su)) : jEv ok xl xs cd mc ms Q ((pc, .lneg, n', ps, z) :: K, L, (1, x) :: S, h, cu, su) :=
  have b := jw64_in (-x)
  ev_lneg rfl (kk _ rfl b.1 (by omega))
theorem g_iincG {j : Nat} {v c : Int} {f : Int → List AV} (hv : L[j]? = some (0, v)) (hL : ∀ w, jput L j (0, w) = f w) (kk : ∀ r, w32 (v + c) = r → -2147483648 ≤ r → r ≤ 2147483647 → jEv ok xl xs cd mc ms Q (K, f r, S, h, cu, su)) : jEv ok xl xs cd mc ms Q ((pc, .iinc j c, n', ps, z) :: K, L, S, h, cu, su) :=
  have b := jw32_in (v + c)
  ev_iinc hv rfl (hL _) (kk _ rfl b.1 (by omega))
theorem g_ldivG {x y : Int} (hy : y ≠ 0) (kk : ∀ r, w64 (x.tdiv y) = r → -9223372036854775808 ≤ r → r ≤ 9223372036854775807 → jEv ok xl xs cd mc ms Q (K, L, (1, r) :: S, h, cu, su)) : jEv ok xl xs cd mc ms Q ((pc, .ldiv, n', ps, z) :: K, L, (1, y) :: (1, x) :: S, h, cu, su) :=
  have b := jw64_in (x.tdiv y)
  ev_ldiv hy rfl (kk _ rfl b.1 (by omega))
theorem g_l2iG {x : Int} (kk : ∀ r, w32 x = r → -2147483648 ≤ r → r ≤ 2147483647 → jEv ok xl xs cd mc ms Q (K, L, (0, r) :: S, h, cu, su)) : jEv ok xl xs cd mc ms Q ((pc, .l2i, n', ps, z) :: K, L, (1, x) :: S, h, cu, su) :=
  have b := jw32_in x
  ev_l2i rfl (kk _ rfl b.1 (by omega))
end EvG
