def frT : List (Nat × Nat) := [(11, 17), (10, 8), (20, 4), (20, 4), (20, 36), (21, 12), (21, 256), (5, 15), (22, 200), (20, 6), (20, 200), (20, 200), (20, 200), (20, 800), (20, 800), (20, 200), (20, 200), (20, 200), (24, 6), (7, 6), (20, 6), (20, 6), (20, 24), (0, 3), (25, 20), (20, 120), (9, 15), (20, 32), (20, 3), (20, 3), (20, 3), (20, 4), (20, 4), (20, 4), (20, 20), (20, 20), (20, 20), (20, 6), (20, 6), (21, 360), (21, 396), (20, 99), (12, 66), (20, 4), (20, 4), (20, 36), (20, 324), (21, 81), (20, 7), (22, 700), (20, 700), (22, 2800), (20, 2800), (22, 700), (22, 200), (20, 6), (20, 40), (20, 40), (20, 40), (20, 40), (20, 20), (20, 20), (20, 6), (20, 6), (20, 4), (22, 100), (22, 9900), (20, 32), (20, 3), (20, 3), (20, 3), (20, 4), (20, 4), (20, 4), (20, 20), (20, 20), (20, 20), (20, 4), (20, 24), (20, 6), (20, 6), (21, 360), (21, 60)]
def frV : List (List Int) := [[1, 7, 18, 0, 19, 23, 24, 0, 25, 0, 0, 26, 37, 38, 39, 40, 41], [0, 1, 0, 2, 3, 4, 5, 6], [0, 0, 0, 0], [0, 0, 0, 0], [], [0, 0, 0, 0, 0, 0, 0, 0, 0, 0, 0, 0], [], [0, (-1), 0, 0, 0, 8, 9, 10, 11, 12, 13, 14, 15, 16, 17], [], [0, 0, 0, 0, 0, 0], [], [], [], [], [], [], [], [], [(-1), (-1), (-1), (-1), (-1), (-1)], [20, 21, 22, 0, 0, 0], [0, 0, 0, 0, 0, 0], [0, 0, 0, 0, 0, 0], [0, 0, 0, 0, 0, 0, 0, 0, 0, 0, 0, 0, 0, 0, 0, 0, 0, 0, 0, 0, 0, 0, 0, 0], [19, 0, 0], [(-1), (-1), (-1), (-1), (-1), (-1), (-1), (-1), (-1), (-1), (-1), (-1), (-1), (-1), (-1), (-1), (-1), (-1), (-1), (-1)], [], [0, 0, 27, 0, 28, 29, 30, 0, 31, 0, 32, 33, 34, 35, 36], [], [0, 0, 0], [0, 0, 0], [0, 0, 0], [0, 0, 0, 0], [0, 0, 0, 0], [0, 0, 0, 0], [0, 0, 0, 0, 0, 0, 0, 0, 0, 0, 0, 0, 0, 0, 0, 0, 0, 0, 0, 0], [0, 0, 0, 0, 0, 0, 0, 0, 0, 0, 0, 0, 0, 0, 0, 0, 0, 0, 0, 0], [0, 0, 0, 0, 0, 0, 0, 0, 0, 0, 0, 0, 0, 0, 0, 0, 0, 0, 0, 0], [(-1), (-1), (-1), (-1), (-1), (-1)], [0, 0, 0, 0, 0, 0], [], [], [], [0, 0, 43, 44, 45, 0, 46, 47, 0, 0, 48, 49, 50, 51, 52, 53, 54, 0, 55, 0, 0, 0, 0, 0, 56, 57, 58, 59, 0, 60, 61, 0, 62, 63, 64, 65, 0, 0, 0, 0, 0, 0, 0, 66, 0, 0, 67, 0, 68, 69, 70, 0, 71, 0, 72, 73, 74, 75, 76, 77, 0, 78, 79, 80, 81, 82], [0, 0, 0, 0], [(-1), (-1), (-1), (-1)], [], [], [], [0, 0, 0, 0, 0, 0, 0], [], [], [], [], [], [], [0, 0, 0, 0, 0, 0], [], [], [], [], [0, 0, 0, 0, 0, 0, 0, 0, 0, 0, 0, 0, 0, 0, 0, 0, 0, 0, 0, 0], [0, 0, 0, 0, 0, 0, 0, 0, 0, 0, 0, 0, 0, 0, 0, 0, 0, 0, 0, 0], [0, 0, 0, 0, 0, 0], [0, 0, 0, 0, 0, 0], [(-1), (-1), (-1), (-1)], [], [], [], [0, 0, 0], [0, 0, 0], [0, 0, 0], [0, 0, 0, 0], [0, 0, 0, 0], [0, 0, 0, 0], [0, 0, 0, 0, 0, 0, 0, 0, 0, 0, 0, 0, 0, 0, 0, 0, 0, 0, 0, 0], [0, 0, 0, 0, 0, 0, 0, 0, 0, 0, 0, 0, 0, 0, 0, 0, 0, 0, 0, 0], [0, 0, 0, 0, 0, 0, 0, 0, 0, 0, 0, 0, 0, 0, 0, 0, 0, 0, 0, 0], [0, 0, 0, 0], [0, 0, 0, 0, 0, 0, 0, 0, 0, 0, 0, 0, 0, 0, 0, 0, 0, 0, 0, 0, 0, 0, 0, 0], [(-1), (-1), (-1), (-1), (-1), (-1)], [0, 0, 0, 0, 0, 0], [], []]
def frVok (h : JH) (a : Nat) : Nat → List Int → Bool
  | _, [] => true
  | i, x :: r => (h.2.2 a i == x) && frVok h a (i + 1) r
def frOk (h : JH) : Bool := (h.1 == 83) && (List.range 83).all (fun a => (h.2.1 a == frT.getD a (0, 0)) && frVok h a 0 (frV.getD a []))
def FS (h : JH) : Prop := 83 ≤ h.1 ∧ ∀ a, a < 83 → h.2.1 a = frT.getD a (0, 0)
def Fresh (h : JH) : Prop := FS h ∧ ∀ a i x, (frV.getD a [])[i]? = some x → h.2.2 a i = x
theorem frVok_at {h : JH} {a : Nat} : ∀ (l : List Int) (o : Nat), frVok h a o l = true → ∀ i x, l[i]? = some x → h.2.2 a (o + i) = x := by
  intro l
  induction l with
  | nil => intro o _ i x hx; simp at hx
  | cons y r ih =>
    intro o hk i x hx
    simp only [frVok, Bool.and_eq_true, beq_iff_eq] at hk
    match i, hx with
    | 0, hx =>
      simp only [List.getElem?_cons_zero, Option.some.injEq] at hx
      subst hx
      exact hk.1
    | i + 1, hx =>
      simp only [List.getElem?_cons_succ] at hx
      have := ih (o + 1) hk.2 i x hx
      rw [show o + (i + 1) = o + 1 + i by omega]
      exact this
theorem frV_len : frV.length = 83 := by decide
theorem fresh_of {h : JH} (e : frOk h = true) : Fresh h := by
  simp only [frOk, Bool.and_eq_true, beq_iff_eq] at e
  refine ⟨⟨by rw [e.1]; decide, fun a ha => ?_⟩, fun a i x hx => ?_⟩
  · have := List.all_eq_true.mp e.2 a (List.mem_range.mpr ha)
    simp only [Bool.and_eq_true, beq_iff_eq] at this
    exact this.1
  · by_cases ha : a < 83
    · have := List.all_eq_true.mp e.2 a (List.mem_range.mpr ha)
      simp only [Bool.and_eq_true, beq_iff_eq] at this
      have h2 := frVok_at _ 0 this.2 i x hx
      rw [Nat.zero_add] at h2
      exact h2
    · have e3 : frV.getD a [] = [] := by
        rw [List.getD_eq_getElem?_getD, List.getElem?_eq_none (by rw [frV_len]; omega)]
        rfl
      rw [e3] at hx
      simp at hx
def jA1 : JH := jnew jh0 11 17
def jX1 : Option (Option AV × JH × Nat × Nat) := xrun 1500 4 (jP 165) (jP 165, jentry [(2, 0)] (jML 165), [], jA1, 0, 0)
def jX2 : Option (Option AV × JH × Nat × Nat) := match jX1 with
  | some r => xrun 1500 4 (jP 241) (jP 241, jentry [(2, 42)] (jML 241), [], jnew r.2.1 12 66, 0, 0)
  | none => none
def jX1ok : Bool := match jX1 with
  | some r => r.1 == none && r.2.1.1 == 42 && decide (r.2.2.1 ≤ 41) && decide (r.2.2.2 ≤ 4527)
  | none => false
def jX2ok : Bool := match jX2 with
  | some r => r.1 == none && frOk r.2.1 && decide (r.2.2.1 ≤ 40) && decide (r.2.2.2 ≤ 19151)
  | none => false
set_option maxRecDepth 1000000 in
theorem jX1_ok : jX1ok = true := by decide +kernel
set_option maxRecDepth 1000000 in
theorem jX2_ok : jX2ok = true := by decide +kernel
theorem ctors : ∃ h1 h2 : JH, jOk 5 41 4527 165 [(2, 0)] jA1 (fun v h => v = none ∧ h = h1) ∧ h1.1 = 42 ∧ jOk 5 40 19151 241 [(2, 42)] (jnew h1 12 66) (fun v h => v = none ∧ h = h2) ∧ Fresh h2 := by
  have e1 := jX1_ok
  have e2 := jX2_ok
  unfold jX1ok at e1
  unfold jX2ok at e2
  cases hx1 : jX1 with
  | none => rw [hx1] at e1; cases e1
  | some r1 =>
    rw [hx1] at e1
    simp only [Bool.and_eq_true, beq_iff_eq, decide_eq_true_eq] at e1
    cases hx2 : jX2 with
    | none => rw [hx2] at e2; cases e2
    | some r2 =>
      rw [hx2] at e2
      simp only [Bool.and_eq_true, beq_iff_eq, decide_eq_true_eq] at e2
      refine ⟨r1.2.1, r2.2.1, ⟨by decide, by decide +kernel, ?_⟩, e1.1.1.2, ⟨by decide, by decide +kernel, ?_⟩, fresh_of e2.1.1.2⟩
      · have := xrun_ok _ _ _ _ 41 4527 r1 hx1 e1.1.2 e1.2
        rw [e1.1.1.1] at this
        exact this
      · unfold jX2 at hx2
        rw [hx1] at hx2
        have := xrun_ok _ _ _ _ 40 19151 r2 hx2 e2.1.2 e2.2
        rw [e2.1.1.1] at this
        exact this
theorem FS.lt {h : JH} (e : FS h) {a : Nat} (ha : a < 83) : a < h.1 := Nat.lt_of_lt_of_le ha e.1
theorem FS.sh {h : JH} (e : FS h) {a t n : Nat} (ha : a < 83) (ht : frT.getD a (0, 0) = (t, n)) : (h.2.1 a).1 = t ∧ (h.2.1 a).2 = n := by rw [e.2 a ha, ht]; exact ⟨rfl, rfl⟩
theorem FS.fam {h : JH} (e : FS h) {f a : Nat} (ha : a < 83) (ht : jfam f (frT.getD a (0, 0)).1 = true) : jfam f (h.2.1 a).1 = true := by rw [e.2 a ha]; exact ht
theorem FS.wr {h h' : JH} (e : FS h) {a i : Nat} {v : Int} (e1 : h' = jwr h a i v) : FS h' := by subst e1; exact e
theorem FS.inb {h : JH} (e : FS h) {a i : Nat} (ha : a < 83) (hi : i < (frT.getD a (0, 0)).2) : i < (h.2.1 a).2 := by rw [e.2 a ha]; exact hi
theorem FS.inbx {h : JH} (e : FS h) {a i n : Nat} (ha : a < 83) (hn : n ≤ (frT.getD a (0, 0)).2) (hi : i < n) : i < (h.2.1 a).2 := by rw [e.2 a ha]; exact Nat.lt_of_lt_of_le hi hn
theorem Fresh.uni {h : JH} (e : Fresh h) {a i n : Nat} {x : Int} (hx : ∀ j, j < n → (frV.getD a [])[j]? = some x) (hi : i < n) : h.2.2 a i = x := e.2 a i x (hx i hi)
theorem Fresh.v {h : JH} (e : Fresh h) {a i : Nat} {x : Int} (hx : (frV.getD a [])[i]? = some x) : h.2.2 a i = x := e.2 a i x hx
