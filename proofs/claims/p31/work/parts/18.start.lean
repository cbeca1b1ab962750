/-! THE START: the constructors' heap is a general state -/
def frBig : List (Nat × Nat × Int) := [(4, 36, 0), (6, 256, 0), (8, 200, 0), (10, 200, 0), (11, 200, 0), (12, 200, 0), (13, 800, 0), (14, 800, 0), (15, 200, 0), (16, 200, 0), (17, 200, 0), (25, 120, 0), (27, 32, 0), (39, 360, 0), (40, 396, 0), (41, 99, 0), (45, 36, 0), (46, 324, 0), (47, 81, 0), (49, 700, 0), (50, 700, 0), (51, 2800, 0), (52, 2800, 0), (53, 700, 0), (54, 200, 0), (56, 40, 0), (57, 40, 0), (58, 40, 0), (59, 40, 0), (65, 100, 0), (66, 9900, 0), (67, 32, 0), (81, 360, 0), (82, 60, 0)]
def frZok (h : JH) : Bool := frBig.all (fun q => (List.range q.2.1).all (fun i => h.2.2 q.1 i == q.2.2))
def jX2z : Bool := match jX2 with
  | some r => frZok r.2.1
  | none => false
set_option maxRecDepth 1000000 in
theorem jX2z_ok : jX2z = true := by decide +kernel
theorem ctors2 : ∃ h1 h2 : JH, jOk 5 41 4527 165 [(2, 0)] jA1 (fun v h => v = none ∧ h = h1) ∧ h1.1 = 42 ∧ jOk 5 40 19151 241 [(2, 42)] (jnew h1 12 66) (fun v h => v = none ∧ h = h2) ∧ Fresh h2 ∧ h2.1 = 83 ∧ frZok h2 = true := by
  have e1 := jX1_ok
  have e2 := jX2_ok
  have e3 := jX2z_ok
  unfold jX1ok at e1
  unfold jX2ok at e2
  unfold jX2z at e3
  cases hx1 : jX1 with
  | none => rw [hx1] at e1; cases e1
  | some r1 =>
    rw [hx1] at e1
    simp only [Bool.and_eq_true, beq_iff_eq, decide_eq_true_eq] at e1
    cases hx2 : jX2 with
    | none => rw [hx2] at e2; cases e2
    | some r2 =>
      rw [hx2] at e2 e3
      simp only [Bool.and_eq_true, beq_iff_eq, decide_eq_true_eq] at e2
      have e4 : frOk r2.2.1 = true := e2.1.1.2
      have e5 := e4
      unfold frOk at e5
      simp only [Bool.and_eq_true, beq_iff_eq] at e5
      refine ⟨r1.2.1, r2.2.1, ⟨by decide, by decide +kernel, ?_⟩, e1.1.1.2, ⟨by decide, by decide +kernel, ?_⟩, fresh_of e4, e5.1, e3⟩
      · have := xrun_ok _ _ _ _ 41 4527 r1 hx1 e1.1.2 e1.2
        rw [e1.1.1.1] at this
        exact this
      · unfold jX2 at hx2
        rw [hx1] at hx2
        have := xrun_ok _ _ _ _ 40 19151 r2 hx2 e2.1.2 e2.2
        rw [e2.1.1.1] at this
        exact this
def lsOk (a : Nat) : Nat → List Int → Bool
  | _, [] => true
  | i, x :: r => decide ((rT a i).1 ≤ x) && decide (x ≤ (rT a i).2) && lsOk a (i + 1) r
theorem lsOk_at {a : Nat} : ∀ (l : List Int) (o : Nat), lsOk a o l = true → ∀ i x, l[i]? = some x → (rT a (o + i)).1 ≤ x ∧ x ≤ (rT a (o + i)).2 := by
  intro l
  induction l with
  | nil => intro o _ i x hx; simp at hx
  | cons y r ih =>
    intro o hk i x hx
    simp only [lsOk, Bool.and_eq_true, decide_eq_true_eq] at hk
    match i, hx with
    | 0, hx =>
      simp only [List.getElem?_cons_zero, Option.some.injEq] at hx
      subst hx
      exact hk.1
    | i + 1, hx =>
      simp only [List.getElem?_cons_succ] at hx
      have := ih (o + 1) hk.2 i x hx
      rw [show o + (i + 1) = o + 1 + i by omega]
      exact this
set_option maxRecDepth 100000 in
theorem ls_all : (List.range 83).all (fun a => lsOk a 0 (frV.getD a [])) = true := by decide +kernel
def lnOk (a : Nat) : Bool := (frV.getD a []).length == (frT.getD a (0, 0)).2 || frBig.any (fun q => q.1 == a && q.2.1 == (frT.getD a (0, 0)).2 && (rTab.getD a []).length == 1 && decide ((rT a 0).1 ≤ q.2.2) && decide (q.2.2 ≤ (rT a 0).2))
set_option maxRecDepth 100000 in
theorem ln_all : (List.range 83).all lnOk = true := by decide +kernel
theorem rT_one {a i : Nat} (h : (rTab.getD a []).length = 1) : rT a i = rT a 0 := by
  unfold rT
  match hl : rTab.getD a [], h with
  | [x], _ => rfl
theorem Fresh.rg {h : JH} (e : Fresh h) (z : frZok h = true) : Rg h := by
  intro a i ha hi
  have h1 := List.all_eq_true.mp ls_all a (List.mem_range.mpr ha)
  have h2 := List.all_eq_true.mp ln_all a (List.mem_range.mpr ha)
  unfold lnOk at h2
  rw [Bool.or_eq_true] at h2
  rcases h2 with h2 | h2
  · have hl : (frV.getD a []).length = (frT.getD a (0, 0)).2 := eq_of_beq h2
    obtain ⟨x, hx⟩ : ∃ x, (frV.getD a [])[i]? = some x := ⟨_, List.getElem?_eq_getElem (by rw [hl]; exact hi)⟩
    have h3 := lsOk_at _ 0 h1 i x hx
    rw [Nat.zero_add] at h3
    rw [e.2 a i x hx]
    exact h3
  · obtain ⟨q, hq, h3⟩ := List.any_eq_true.mp h2
    simp only [Bool.and_eq_true, beq_iff_eq, decide_eq_true_eq] at h3
    obtain ⟨⟨⟨⟨q1, q2⟩, q3⟩, q4⟩, q5⟩ := h3
    have h4 := List.all_eq_true.mp (List.all_eq_true.mp z q hq) i (List.mem_range.mpr (by rw [q2]; exact hi))
    rw [q1] at h4
    rw [rT_one q3, eq_of_beq h4]
    exact ⟨q4, q5⟩
theorem Fresh.gd {h : JH} (e : Fresh h) (z : frZok h = true) (h83 : h.1 = 83) : Gd (83, fun _ => (0, 0, 0)) h := by
  have v : ∀ {a i : Nat} {x : Int}, (frV.getD a [])[i]? = some x → h.2.2 a i = x := fun hx => e.2 _ _ _ hx
  have z46 : ∀ i, i < 324 → h.2.2 46 i = 0 := fun i hi => by
    have h4 := List.all_eq_true.mp (List.all_eq_true.mp z (46, 324, 0) (by decide)) i (List.mem_range.mpr hi)
    exact eq_of_beq h4
  have v03 : h.2.2 0 3 = 0 := v rfl
  have v07 : h.2.2 0 7 = 0 := v rfl
  have v10 : h.2.2 1 0 = 0 := v rfl
  have v193 : h.2.2 19 3 = 0 := v rfl
  have v194 : h.2.2 19 4 = 0 := v rfl
  have v421 : h.2.2 42 1 = 0 := v rfl
  have v429 : h.2.2 42 9 = 0 := v rfl
  have v4222 : h.2.2 42 22 = 0 := v rfl
  have v4223 : h.2.2 42 23 = 0 := v rfl
  refine ⟨h83, e.1, e.rg z, fun a a1 a2 => ?_, fun j hj => ?_, fun j hj => ?_, by rw [v193, v194]; exact Int.le_refl _, ⟨fun t ht => ?_, fun s t hs ht => ⟨fun q => ?_, fun _ => z46 _ (by omega)⟩⟩, fun t ht => ?_, fun i hi => ?_, fun q hq => ?_, by rw [v4222, v4223]; decide, fun j hj => ?_⟩
  · exact absurd (Nat.lt_of_le_of_lt a1 a2) (Nat.lt_irrefl 83)
  · rw [v03] at hj; omega
  · rw [v07] at hj; omega
  · rw [v10] at ht; omega
  · rw [v421] at q; omega
  · rw [v421] at ht; omega
  · rw [v421] at hi; omega
  · rw [v429] at hq; omega
  · rw [v4222, v4223] at hj; omega
