def Up (h h' : JH) (a : Nat) (i v : Int) : Prop := h'.2.2 a i.toNat = v ∧ ∀ j : Nat, j ≠ i.toNat → h'.2.2 a j = h.2.2 a j
theorem Up.mk2 {h h' : JH} {a : Nat} {i i' v v' : Int} (e : h' = jwr h a i.toNat v) (hi : i' = i) (hv : v' = v) : Up h h' a i' v' := by
  subst hi
  subst hv
  exact ⟨jw_eq e, fun j hj => jw_ne e (Or.inr hj)⟩
theorem Up.kp {W : List (Nat × Nat)} {h h1 h2 : JH} {a : Nat} {i v : Int} (u : Up h h1 a i v) (k : Kp W h1 h2) (c : ∀ j, inW W a j = false) : Up h h2 a i v := ⟨(k.v (c _)).trans u.1, fun j hj => (k.v (c _)).trans (u.2 j hj)⟩
theorem Up.pk {W : List (Nat × Nat)} {h h1 h2 : JH} {a : Nat} {i v : Int} (k : Kp W h h1) (c : ∀ j, inW W a j = false) (u : Up h1 h2 a i v) : Up h h2 a i v := ⟨u.1, fun j hj => (u.2 j hj).trans (k.v (c _))⟩
def Sm (h h' : JH) (a : Nat) : Prop := ∀ j : Nat, h'.2.2 a j = h.2.2 a j
def dsj (C W : List (Nat × Nat)) : Bool := C.all (fun c => decide (c.1 < 83) && W.all (fun w => w.1 != c.1 || (w.2 != 0 && c.2 != 0 && w.2 != c.2)))
theorem dsj_at {C W : List (Nat × Nat)} (h : dsj C W = true) {a i : Nat} (hc : inW C a i = true) : a < 83 ∧ inW W a i = false := by
  unfold inW at hc
  obtain ⟨c, hm, hq⟩ := List.any_eq_true.mp hc
  have h1 := List.all_eq_true.mp h c hm
  rw [Bool.and_eq_true, decide_eq_true_eq] at h1
  simp only [Bool.or_eq_true, Bool.and_eq_true, beq_iff_eq, decide_eq_true_eq] at hq
  have ha : a < 83 := by omega
  refine ⟨ha, ?_⟩
  unfold inW
  rw [List.any_eq_false]
  intro w hw hx
  have h2 := List.all_eq_true.mp h1.2 w hw
  simp only [Bool.or_eq_true, Bool.and_eq_true, bne_iff_ne] at h2
  simp only [Bool.or_eq_true, Bool.and_eq_true, beq_iff_eq, decide_eq_true_eq] at hx
  omega
/-! what is read, as the document has it: (the place behind, things turned out, depth, nodes); a place below 0: -1 less the fault -/
abbrev RS : Type := Int × Int × Int × Int
def rF (p : Int) : RS := (-1 - p, 0, 0, 0)
def bt (x k : Int) : Int := jand (jshr x k) 1
def nm2 (B : Int → Int) (p : Int) : Int := if 48 ≤ B p ∧ B p ≤ 57 then (if 48 ≤ B (p + 1) ∧ B (p + 1) ≤ 57 then p + 2 else p + 1) else -1 - p
def nm3 (B : Int → Int) (p : Int) : Int := if 48 ≤ B p ∧ B p ≤ 57 then (if 48 ≤ B (p + 1) ∧ B (p + 1) ≤ 57 then (if 48 ≤ B (p + 2) ∧ B (p + 2) ≤ 57 then p + 3 else p + 2) else p + 1) else -1 - p
def mxD (a b : Int) : Int := if a < 1 + b then 1 + b else a
def chL (B : Int → Int) (f : Int → RS) : Nat → Int → Int → Int → Int → RS
  | 0, p, _, _, _ => rF p
  | k + 1, p, tm, dp, sz =>
    if nm2 B p < 0 then rF p
    else if B (nm2 B p) ≠ 58 then rF (nm2 B p)
    else if (f (nm2 B p + 1)).1 < 0 then ((f (nm2 B p + 1)).1, 0, 0, 0)
    else if B (f (nm2 B p + 1)).1 = 44 ∧ k ≠ 0 then chL B f k ((f (nm2 B p + 1)).1 + 1) (jor tm (f (nm2 B p + 1)).2.1) (mxD dp (f (nm2 B p + 1)).2.2.1) (sz + (f (nm2 B p + 1)).2.2.2)
    else if B (f (nm2 B p + 1)).1 = 41 then ((f (nm2 B p + 1)).1 + 1, jor tm (f (nm2 B p + 1)).2.1, mxD dp (f (nm2 B p + 1)).2.2.1, sz + (f (nm2 B p + 1)).2.2.2)
    else rF (f (nm2 B p + 1)).1
def tuL (B : Int → Int) (f : Int → RS) : Nat → Int → Int → Int → Int → RS
  | 0, p, _, _, _ => rF p
  | k + 1, p, tm, dp, sz =>
    if (f p).1 < 0 then ((f p).1, 0, 0, 0)
    else if B (f p).1 = 44 ∧ k ≠ 0 then tuL B f k ((f p).1 + 1) (jor tm (f p).2.1) (mxD dp (f p).2.2.1) (sz + (f p).2.2.2)
    else if B (f p).1 = 41 ∧ k = 0 then ((f p).1 + 1, jor tm (f p).2.1, mxD dp (f p).2.2.1, sz + (f p).2.2.2)
    else rF (f p).1
def cpR (m : Int) (K : Int → Int × Int × Int) (t o p c : Int) : RS := if c < m ∧ jand (K c).1 t = 0 ∧ o + (K c).2.1 ≤ 12 then (p + 1, K c) else rF p
def enR (B : Int → Int) (p : Int) : RS := if nm3 B p < 0 then rF p else (nm3 B p, 0, 0, 1)
def tuE (r : RS) (x : Int) : RS := if r.1 < 0 then r else (r.1, jor r.2.1 (jshl 1 x), r.2.2.1, r.2.2.2)
def rd (B : Int → Int) (N : Int) (Y : Int → Int) (m : Int) (K : Int → Int × Int × Int) : Nat → Int → Int → Int → RS
  | 0, _, _, p => rF p
  | n + 1, t, o, p =>
    if B p = 63 then (if B (p + 1) ≠ 40 ∨ 12 ≤ o then rF (p + 1) else chL B (rd B N Y m K n t (o + 1)) 4 (p + 2) 0 0 1)
    else if B p = 33 then (if ¬ (0 ≤ B (p + 1) - 97 ∧ B (p + 1) - 97 < N) ∨ bt t (B (p + 1) - 97) = 1 then rF (p + 1) else if B (p + 2) ≠ 40 ∨ 12 ≤ o then rF (p + 2) else tuE (tuL B (rd B N Y m K n (jor t (jshl 1 (B (p + 1) - 97))) (o + 1)) (Y (B (p + 1) - 97)).toNat (p + 3) 0 0 1) (B (p + 1) - 97))
    else if 65 ≤ B p ∧ B p < 71 then cpR m K t o p (B p - 65)
    else if B p = 45 then enR B (p + 1)
    else enR B p
/-! bits of four things -/
def q3 (a b c : Nat) : Bool := decide (jand (jor (a : Int) (b : Int)) (c : Int) = 0) == (decide (jand (a : Int) (c : Int) = 0) && decide (jand (b : Int) (c : Int) = 0))
set_option maxRecDepth 1000000 in
theorem q3_all : (List.range 16).all (fun a => (List.range 16).all (fun b => (List.range 16).all (fun c => q3 a b c))) = true := by decide +kernel
theorem q3_f {a b c : Int} (a0 : 0 ≤ a) (a1 : a ≤ 15) (b0 : 0 ≤ b) (b1 : b ≤ 15) (c0 : 0 ≤ c) (c1 : c ≤ 15) : jand (jor a b) c = 0 ↔ jand a c = 0 ∧ jand b c = 0 := by
  have h1 := List.all_eq_true.mp q3_all a.toNat (List.mem_range.mpr (by omega))
  have h2 := List.all_eq_true.mp h1 b.toNat (List.mem_range.mpr (by omega))
  have h3 := List.all_eq_true.mp h2 c.toNat (List.mem_range.mpr (by omega))
  unfold q3 at h3
  rw [show ((a.toNat : Nat) : Int) = a by omega, show ((b.toNat : Nat) : Int) = b by omega, show ((c.toNat : Nat) : Int) = c by omega, beq_iff_eq] at h3
  by_cases z : jand (jor a b) c = 0
  · rw [decide_eq_true z] at h3
    have h4 := h3.symm
    simp only [Bool.and_eq_true, decide_eq_true_eq] at h4
    exact ⟨fun _ => h4, fun _ => z⟩
  · rw [decide_eq_false z] at h3
    have h4 := h3.symm
    refine ⟨fun w => absurd w z, fun w => ?_⟩
    rw [decide_eq_true w.1, decide_eq_true w.2] at h4
    cases h4
def q2 (a x : Nat) : Bool := decide (0 ≤ jshl 1 (x : Int)) && decide (jshl 1 (x : Int) ≤ 15) && (decide (bt (a : Int) (x : Int) = 1) == !decide (jand (jshl 1 (x : Int)) (a : Int) = 0)) && decide (jand (a : Int) 0 = 0) && decide (0 ≤ bt (a : Int) (x : Int)) && decide (bt (a : Int) (x : Int) ≤ 1)
theorem q2_all : (List.range 16).all (fun a => (List.range 4).all (fun x => q2 a x)) = true := by decide +kernel
theorem q2_f {a x : Int} (a0 : 0 ≤ a) (a1 : a ≤ 15) (x0 : 0 ≤ x) (x3 : x ≤ 3) : 0 ≤ jshl 1 x ∧ jshl 1 x ≤ 15 ∧ (bt a x = 1 ↔ jand (jshl 1 x) a ≠ 0) ∧ jand a 0 = 0 := by
  have h1 := List.all_eq_true.mp q2_all a.toNat (List.mem_range.mpr (by omega))
  have h2 := List.all_eq_true.mp h1 x.toNat (List.mem_range.mpr (by omega))
  unfold q2 at h2
  rw [show ((a.toNat : Nat) : Int) = a by omega, show ((x.toNat : Nat) : Int) = x by omega] at h2
  simp only [Bool.and_eq_true, decide_eq_true_eq, beq_iff_eq] at h2
  obtain ⟨⟨⟨⟨⟨b1, b2⟩, b3⟩, b4⟩, _⟩, _⟩ := h2
  refine ⟨b1, b2, ?_, b4⟩
  by_cases z : jand (jshl 1 x) a = 0
  · rw [decide_eq_true z] at b3
    simp only [Bool.not_true, decide_eq_false_iff_not] at b3
    exact ⟨fun w => absurd w b3, fun w => absurd z w⟩
  · rw [decide_eq_false z] at b3
    simp only [Bool.not_false, decide_eq_true_eq] at b3
    exact ⟨fun _ => z, fun _ => b3⟩
def qo (a b : Nat) : Bool := decide (0 ≤ jor (a : Int) (b : Int)) && decide (jor (a : Int) (b : Int) ≤ 15) && decide (jand (a : Int) (b : Int) = jand (b : Int) (a : Int)) && decide (jor (a : Int) (b : Int) = jor (b : Int) (a : Int)) && decide (jand (0 : Int) (a : Int) = 0)
theorem qo_all : (List.range 16).all (fun a => (List.range 16).all (fun b => qo a b)) = true := by decide +kernel
theorem qo_f {a b : Int} (a0 : 0 ≤ a) (a1 : a ≤ 15) (b0 : 0 ≤ b) (b1 : b ≤ 15) : 0 ≤ jor a b ∧ jor a b ≤ 15 ∧ jand a b = jand b a ∧ jor a b = jor b a ∧ jand 0 a = 0 := by
  have h1 := List.all_eq_true.mp qo_all a.toNat (List.mem_range.mpr (by omega))
  have h2 := List.all_eq_true.mp h1 b.toNat (List.mem_range.mpr (by omega))
  unfold qo at h2
  rw [show ((a.toNat : Nat) : Int) = a by omega, show ((b.toNat : Nat) : Int) = b by omega] at h2
  simp only [Bool.and_eq_true, decide_eq_true_eq] at h2
  exact ⟨h2.1.1.1.1, h2.1.1.1.2, h2.1.1.2, h2.1.2, h2.2⟩
/-- a table of told nodes -/
def Kk (m : Int) (K : Int → Int × Int × Int) : Prop := ∀ c, 0 ≤ c → c < m → 0 ≤ (K c).1 ∧ (K c).1 ≤ 15 ∧ 0 ≤ (K c).2.1 ∧ 1 ≤ (K c).2.2 ∧ (K c).2.1 ≤ 12
/-- what a reader that went well says: nothing that turned out above, not too deep, forward -/
def Gf (f : Int → RS) (t o : Int) : Prop := ∀ p, 0 ≤ p → 0 ≤ (f p).1 → p < (f p).1 ∧ 0 ≤ (f p).2.1 ∧ (f p).2.1 ≤ 15 ∧ jand (f p).2.1 t = 0 ∧ 0 ≤ (f p).2.2.1 ∧ o + (f p).2.2.1 ≤ 12 ∧ 1 ≤ (f p).2.2.2
theorem nm2_f (B : Int → Int) (p : Int) (p0 : 0 ≤ p) (h : ¬ nm2 B p < 0) : p < nm2 B p ∧ nm2 B p ≤ p + 2 := by
  unfold nm2 at h ⊢
  split at h
  · rename_i c
    rw [if_pos c]
    split <;> omega
  · omega
theorem nm3_f (B : Int → Int) (p : Int) (p0 : 0 ≤ p) (h : ¬ nm3 B p < 0) : p < nm3 B p ∧ nm3 B p ≤ p + 3 := by
  unfold nm3 at h ⊢
  split at h
  · rename_i c
    rw [if_pos c]
    (repeat' split) <;> omega
  · omega
theorem rF_n {p : Int} (p0 : 0 ≤ p) : (rF p).1 < 0 := by
  show -1 - p < 0
  omega
theorem mxD_f {a b : Int} (a0 : 0 ≤ a) (b0 : 0 ≤ b) : 1 ≤ mxD a b ∧ a ≤ mxD a b ∧ 1 + b ≤ mxD a b ∧ (mxD a b = a ∨ mxD a b = 1 + b) := by
  unfold mxD
  split <;> omega
/-- what a choice's ways say together -/
theorem chL_g {B : Int → Int} {f : Int → RS} {t o : Int} (t0 : 0 ≤ t) (t1 : t ≤ 15) (ho : o < 12) (g : Gf f t (o + 1)) : ∀ (k : Nat) (p tm dp sz : Int), 0 ≤ p → 0 ≤ tm → tm ≤ 15 → jand tm t = 0 → 0 ≤ dp → o + dp ≤ 12 → 1 ≤ sz → 0 ≤ (chL B f k p tm dp sz).1 → p < (chL B f k p tm dp sz).1 ∧ 0 ≤ (chL B f k p tm dp sz).2.1 ∧ (chL B f k p tm dp sz).2.1 ≤ 15 ∧ jand (chL B f k p tm dp sz).2.1 t = 0 ∧ 0 ≤ (chL B f k p tm dp sz).2.2.1 ∧ o + (chL B f k p tm dp sz).2.2.1 ≤ 12 ∧ 1 ≤ (chL B f k p tm dp sz).2.2.2 := by
  intro k
  induction k with
  | zero =>
    intro p tm dp sz p0 _ _ _ _ _ _ h
    exact absurd h (by have := rF_n p0; show ¬ 0 ≤ (rF p).1; omega)
  | succ k ih =>
    intro p tm dp sz p0 m0 m1 m2 d0 d1 s1
    unfold chL
    split
    · intro h; have := rF_n p0; omega
    · rename_i c1
      have n := nm2_f B p p0 c1
      split
      · intro h; have := rF_n (show 0 ≤ nm2 B p by omega); omega
      · split
        · rename_i c3
          intro h
          exact absurd h (by show ¬ 0 ≤ (f (nm2 B p + 1)).1; omega)
        · rename_i c3
          obtain ⟨g1, g2, g3, g4, g5, g6, g7⟩ := g (nm2 B p + 1) (by omega) (by omega)
          generalize f (nm2 B p + 1) = r at *
          have q := qo_f m0 m1 g2 g3
          have w := mxD_f d0 g5
          have z : jand (jor tm r.2.1) t = 0 := (q3_f m0 m1 g2 g3 t0 t1).mpr ⟨m2, g4⟩
          split
          · intro h
            have y := ih (r.1 + 1) (jor tm r.2.1) (mxD dp r.2.2.1) (sz + r.2.2.2) (by omega) q.1 q.2.1 z (by omega) (by omega) (by omega) h
            exact ⟨by omega, y.2⟩
          · split
            · intro _
              exact ⟨by show p < r.1 + 1; omega, q.1, q.2.1, z, by show 0 ≤ mxD dp r.2.2.1; omega, by show o + mxD dp r.2.2.1 ≤ 12; omega, by show 1 ≤ sz + r.2.2.2; omega⟩
            · intro h; have := rF_n (show 0 ≤ r.1 by omega); omega
theorem tuL_g {B : Int → Int} {f : Int → RS} {t u o : Int} (t0 : 0 ≤ t) (t1 : t ≤ 15) (u0 : 0 ≤ u) (u1 : u ≤ 15) (htu : ∀ a, 0 ≤ a → a ≤ 15 → jand a u = 0 → jand a t = 0) (ho : o < 12) (g : Gf f u (o + 1)) : ∀ (k : Nat) (p tm dp sz : Int), 0 ≤ p → 0 ≤ tm → tm ≤ 15 → jand tm t = 0 → 0 ≤ dp → o + dp ≤ 12 → 1 ≤ sz → 0 ≤ (tuL B f k p tm dp sz).1 → p < (tuL B f k p tm dp sz).1 ∧ 0 ≤ (tuL B f k p tm dp sz).2.1 ∧ (tuL B f k p tm dp sz).2.1 ≤ 15 ∧ jand (tuL B f k p tm dp sz).2.1 t = 0 ∧ 0 ≤ (tuL B f k p tm dp sz).2.2.1 ∧ o + (tuL B f k p tm dp sz).2.2.1 ≤ 12 ∧ 1 ≤ (tuL B f k p tm dp sz).2.2.2 := by
  intro k
  induction k with
  | zero =>
    intro p tm dp sz p0 _ _ _ _ _ _ h
    exact absurd h (by have := rF_n p0; show ¬ 0 ≤ (rF p).1; omega)
  | succ k ih =>
    intro p tm dp sz p0 m0 m1 m2 d0 d1 s1
    unfold tuL
    split
    · rename_i c3
      intro h
      exact absurd h (by show ¬ 0 ≤ (f p).1; omega)
    · rename_i c3
      obtain ⟨g1, g2, g3, g4, g5, g6, g7⟩ := g p p0 (by omega)
      generalize f p = r at *
      have q := qo_f m0 m1 g2 g3
      have w := mxD_f d0 g5
      have z : jand (jor tm r.2.1) t = 0 := (q3_f m0 m1 g2 g3 t0 t1).mpr ⟨m2, htu _ g2 g3 g4⟩
      split
      · intro h
        have y := ih (r.1 + 1) (jor tm r.2.1) (mxD dp r.2.2.1) (sz + r.2.2.2) (by omega) q.1 q.2.1 z (by omega) (by omega) (by omega) h
        exact ⟨by omega, y.2⟩
      · split
        · intro _
          exact ⟨by show p < r.1 + 1; omega, q.1, q.2.1, z, by show 0 ≤ mxD dp r.2.2.1; omega, by show o + mxD dp r.2.2.1 ≤ 12; omega, by show 1 ≤ sz + r.2.2.2; omega⟩
        · intro h; have := rF_n (show 0 ≤ r.1 by omega); omega
theorem rd_g {B : Int → Int} {N : Int} {Y : Int → Int} {m : Int} {K : Int → Int × Int × Int} (N4 : N ≤ 4) (kk : Kk m K) : ∀ (n : Nat) (t o : Int), 0 ≤ t → t ≤ 15 → 0 ≤ o → o ≤ 12 → Gf (rd B N Y m K n t o) t o := by
  intro n
  induction n with
  | zero => intro t o _ _ _ _ p p0 h; exact absurd h (by have := rF_n p0; show ¬ 0 ≤ (rF p).1; omega)
  | succ n ih =>
    intro t o t0 t1 o0 o12 p p0
    have z0 : jand 0 t = 0 := (qo_f t0 t1 t0 t1).2.2.2.2
    have en : ∀ p, 0 ≤ p → 0 ≤ (enR B p).1 → p < (enR B p).1 ∧ 0 ≤ (enR B p).2.1 ∧ (enR B p).2.1 ≤ 15 ∧ jand (enR B p).2.1 t = 0 ∧ 0 ≤ (enR B p).2.2.1 ∧ o + (enR B p).2.2.1 ≤ 12 ∧ 1 ≤ (enR B p).2.2.2 := fun p p0 => by
      unfold enR
      split
      · intro h; have := rF_n p0; omega
      · rename_i c
        have n3 := nm3_f B p p0 c
        intro _
        exact ⟨n3.1, Int.le_refl _, (show (0 : Int) ≤ 15 by decide), z0, Int.le_refl _, by show o + 0 ≤ 12; omega, (show (1 : Int) ≤ 1 by decide)⟩
    unfold rd
    split
    · split
      · intro h; have := rF_n (show 0 ≤ p + 1 by omega); omega
      · rename_i c
        intro h
        have y := chL_g (B := B) t0 t1 (show o < 12 by omega) (ih t (o + 1) t0 t1 (by omega) (by omega)) 4 (p + 2) 0 0 1 (by omega) (Int.le_refl _) (by decide) z0 (Int.le_refl _) (by omega) (by decide) h
        exact ⟨by omega, y.2⟩
    · split
      · split
        · intro h; have := rF_n (show 0 ≤ p + 1 by omega); omega
        · rename_i c1
          split
          · intro h; have := rF_n (show 0 ≤ p + 2 by omega); omega
          · rename_i c2
            generalize hx : B (p + 1) - 97 = x at *
            have x0 : 0 ≤ x := by omega
            have x3 : x ≤ 3 := by omega
            have e := q2_f t0 t1 x0 x3
            have s0 : jand (jshl 1 x) t = 0 := Decidable.not_not.mp (fun w => c1 (Or.inr (e.2.2.1.mpr w)))
            have u := qo_f t0 t1 e.1 e.2.1
            unfold tuE
            split
            · intro h; omega
            · rename_i c3
              intro _
              have y := tuL_g (B := B) t0 t1 u.1 u.2.1 (fun a a0 a1 w => by
                have v := qo_f a0 a1 u.1 u.2.1
                rw [v.2.2.1] at w
                have w2 := ((q3_f t0 t1 e.1 e.2.1 a0 a1).mp w).1
                rw [(qo_f a0 a1 t0 t1).2.2.1]
                exact w2) (show o < 12 by omega) (ih (jor t (jshl 1 x)) (o + 1) u.1 u.2.1 (by omega) (by omega)) (Y x).toNat (p + 3) 0 0 1 (by omega) (Int.le_refl _) (by decide) z0 (Int.le_refl _) (by omega) (by decide) (by omega)
              generalize tuL B (rd B N Y m K n (jor t (jshl 1 x)) (o + 1)) (Y x).toNat (p + 3) 0 0 1 = r at *
              have w := qo_f y.2.1 y.2.2.1 e.1 e.2.1
              exact ⟨by show p < r.1; omega, w.1, w.2.1, (q3_f y.2.1 y.2.2.1 e.1 e.2.1 t0 t1).mpr ⟨y.2.2.2.1, s0⟩, y.2.2.2.2.1, y.2.2.2.2.2.1, y.2.2.2.2.2.2⟩
      · split
        · rename_i c
          unfold cpR
          split
          · rename_i c2
            intro _
            have k := kk (B p - 65) (by omega) c2.1
            exact ⟨by show p < p + 1; omega, k.1, k.2.1, c2.2.1, k.2.2.1, c2.2.2, k.2.2.2.1⟩
          · intro h; have := rF_n p0; omega
        · split
          · intro h
            have y := en (p + 1) (by omega) h
            exact ⟨by omega, y.2⟩
          · intro h
            exact en p p0 h
/-- a second reader says the same where it may, or finds a fault -/
def Sf2 (f f' : Int → RS) (t o : Int) : Prop := ∀ p, 0 ≤ p → 0 ≤ (f p).1 → (jand (f p).2.1 t = 0 ∧ o + (f p).2.2.1 ≤ 12 → f' p = f p) ∧ (¬ (jand (f p).2.1 t = 0 ∧ o + (f p).2.2.1 ≤ 12) → (f' p).1 < 0)
theorem chL_m {B : Int → Int} {f f' : Int → RS} {u a t o : Int} (g : Gf f u a) (t0 : 0 ≤ t) (t1 : t ≤ 15) (sf : Sf2 f f' t (o + 1)) : ∀ (k : Nat) (p tm dp sz : Int), 0 ≤ p → 0 ≤ tm → tm ≤ 15 → 0 ≤ dp → 0 ≤ (chL B f k p tm dp sz).1 → (jand (chL B f k p tm dp sz).2.1 t = 0 → jand tm t = 0) ∧ dp ≤ (chL B f k p tm dp sz).2.2.1 ∧ 1 ≤ (chL B f k p tm dp sz).2.2.1 ∧ (jand (chL B f k p tm dp sz).2.1 t = 0 ∧ o + (chL B f k p tm dp sz).2.2.1 ≤ 12 → chL B f' k p tm dp sz = chL B f k p tm dp sz) ∧ (¬ (jand (chL B f k p tm dp sz).2.1 t = 0 ∧ o + (chL B f k p tm dp sz).2.2.1 ≤ 12) → jand tm t = 0 → o + dp ≤ 12 → (chL B f' k p tm dp sz).1 < 0) := by
  intro k
  induction k with
  | zero =>
    intro p tm dp sz p0 _ _ _ h
    exact absurd h (by have := rF_n p0; show ¬ 0 ≤ (rF p).1; omega)
  | succ k ih =>
    intro p tm dp sz p0 m0 m1 d0
    unfold chL
    split
    · intro h; have := rF_n p0; omega
    · rename_i c1
      have n := nm2_f B p p0 c1
      split
      · intro h; have := rF_n (show 0 ≤ nm2 B p by omega); omega
      · split
        · rename_i c3
          intro h
          exact absurd h (by show ¬ 0 ≤ (f (nm2 B p + 1)).1; omega)
        · rename_i c3
          obtain ⟨g1, g2, g3, g4, g5, g6, g7⟩ := g (nm2 B p + 1) (by omega) (by omega)
          obtain ⟨s1, s2⟩ := sf (nm2 B p + 1) (by omega) (by omega)
          generalize hr : f (nm2 B p + 1) = r at *
          generalize hr' : f' (nm2 B p + 1) = r' at *
          have q := qo_f m0 m1 g2 g3
          have w := mxD_f d0 g5
          have z := q3_f m0 m1 g2 g3 t0 t1
          split
          · rename_i c4
            intro h
            obtain ⟨y1, y2, y3, y4, y5⟩ := ih (r.1 + 1) (jor tm r.2.1) (mxD dp r.2.2.1) (sz + r.2.2.2) (by omega) q.1 q.2.1 (by omega) h
            refine ⟨fun e => (z.mp (y1 e)).1, by omega, y3, fun e => ?_, fun e ht hd => ?_⟩
            · have e2 := z.mp (y1 e.1)
              rw [s1 ⟨e2.2, by omega⟩, if_neg (by omega), if_pos c4]
              exact y4 e
            · by_cases cc : jand r.2.1 t = 0 ∧ o + 1 + r.2.2.1 ≤ 12
              · rw [s1 cc, if_neg (by omega), if_pos c4]
                exact y5 e (z.mpr ⟨ht, cc.1⟩) (by omega)
              · rw [if_pos (s2 cc)]
                exact s2 cc
          · rename_i c4
            split
            · rename_i c5
              intro _
              refine ⟨fun e => (z.mp e).1, by show dp ≤ mxD dp r.2.2.1; omega, by show 1 ≤ mxD dp r.2.2.1; omega, fun e => ?_, fun e ht hd => ?_⟩
              · have e1 : jand (jor tm r.2.1) t = 0 := e.1
                have e3 : o + mxD dp r.2.2.1 ≤ 12 := e.2
                have e2 := z.mp e1
                rw [s1 ⟨e2.2, by omega⟩, if_neg (by omega), if_neg c4, if_pos c5]
              · by_cases cc : jand r.2.1 t = 0 ∧ o + 1 + r.2.2.1 ≤ 12
                · exact absurd (show jand (jor tm r.2.1) t = 0 ∧ o + mxD dp r.2.2.1 ≤ 12 from ⟨z.mpr ⟨ht, cc.1⟩, by omega⟩) e
                · rw [if_pos (s2 cc)]
                  exact s2 cc
            · intro h; have := rF_n (show 0 ≤ r.1 by omega); omega
theorem tuL_m {B : Int → Int} {f f' : Int → RS} {u a t o : Int} (g : Gf f u a) (t0 : 0 ≤ t) (t1 : t ≤ 15) (sf : Sf2 f f' t (o + 1)) : ∀ (k : Nat) (p tm dp sz : Int), 0 ≤ p → 0 ≤ tm → tm ≤ 15 → 0 ≤ dp → 0 ≤ (tuL B f k p tm dp sz).1 → (jand (tuL B f k p tm dp sz).2.1 t = 0 → jand tm t = 0) ∧ dp ≤ (tuL B f k p tm dp sz).2.2.1 ∧ 1 ≤ (tuL B f k p tm dp sz).2.2.1 ∧ (jand (tuL B f k p tm dp sz).2.1 t = 0 ∧ o + (tuL B f k p tm dp sz).2.2.1 ≤ 12 → tuL B f' k p tm dp sz = tuL B f k p tm dp sz) ∧ (¬ (jand (tuL B f k p tm dp sz).2.1 t = 0 ∧ o + (tuL B f k p tm dp sz).2.2.1 ≤ 12) → jand tm t = 0 → o + dp ≤ 12 → (tuL B f' k p tm dp sz).1 < 0) := by
  intro k
  induction k with
  | zero =>
    intro p tm dp sz p0 _ _ _ h
    exact absurd h (by have := rF_n p0; show ¬ 0 ≤ (rF p).1; omega)
  | succ k ih =>
    intro p tm dp sz p0 m0 m1 d0
    unfold tuL
    split
    · rename_i c3
      intro h
      exact absurd h (by show ¬ 0 ≤ (f p).1; omega)
    · rename_i c3
      obtain ⟨g1, g2, g3, g4, g5, g6, g7⟩ := g p p0 (by omega)
      obtain ⟨s1, s2⟩ := sf p p0 (by omega)
      generalize hr : f p = r at *
      generalize hr' : f' p = r' at *
      have q := qo_f m0 m1 g2 g3
      have w := mxD_f d0 g5
      have z := q3_f m0 m1 g2 g3 t0 t1
      split
      · rename_i c4
        intro h
        obtain ⟨y1, y2, y3, y4, y5⟩ := ih (r.1 + 1) (jor tm r.2.1) (mxD dp r.2.2.1) (sz + r.2.2.2) (by omega) q.1 q.2.1 (by omega) h
        refine ⟨fun e => (z.mp (y1 e)).1, by omega, y3, fun e => ?_, fun e ht hd => ?_⟩
        · have e2 := z.mp (y1 e.1)
          rw [s1 ⟨e2.2, by omega⟩, if_neg (by omega), if_pos c4]
          exact y4 e
        · by_cases cc : jand r.2.1 t = 0 ∧ o + 1 + r.2.2.1 ≤ 12
          · rw [s1 cc, if_neg (by omega), if_pos c4]
            exact y5 e (z.mpr ⟨ht, cc.1⟩) (by omega)
          · rw [if_pos (s2 cc)]
            exact s2 cc
      · rename_i c4
        split
        · rename_i c5
          intro _
          refine ⟨fun e => (z.mp e).1, by show dp ≤ mxD dp r.2.2.1; omega, by show 1 ≤ mxD dp r.2.2.1; omega, fun e => ?_, fun e ht hd => ?_⟩
          · have e1 : jand (jor tm r.2.1) t = 0 := e.1
            have e3 : o + mxD dp r.2.2.1 ≤ 12 := e.2
            have e2 := z.mp e1
            rw [s1 ⟨e2.2, by omega⟩, if_neg (by omega), if_neg c4, if_pos c5]
          · by_cases cc : jand r.2.1 t = 0 ∧ o + 1 + r.2.2.1 ≤ 12
            · exact absurd (show jand (jor tm r.2.1) t = 0 ∧ o + mxD dp r.2.2.1 ≤ 12 from ⟨z.mpr ⟨ht, cc.1⟩, by omega⟩) e
            · rw [if_pos (s2 cc)]
              exact s2 cc
        · intro h; have := rF_n (show 0 ≤ r.1 by omega); omega
/-- what was read once is read again, with other things turned out and other depths -/
theorem rd_m {B : Int → Int} {N : Int} {Y : Int → Int} {m m' : Int} {K K' : Int → Int × Int × Int} (N4 : N ≤ 4) (kk : Kk m K) (mm : m ≤ m') (ke : ∀ c, 0 ≤ c → c < m → K' c = K c) : ∀ (n : Nat) (t o : Int), 0 ≤ t → t ≤ 15 → 0 ≤ o → o ≤ 12 → ∀ (n' : Nat) (t' o' : Int), (n' : Int) = 13 - o' → 0 ≤ t' → t' ≤ 15 → 0 ≤ o' → o' ≤ 12 → Sf2 (rd B N Y m K n t o) (rd B N Y m' K' n' t' o') t' o' := by
  intro n
  induction n with
  | zero => intro t o _ _ _ _ n' t' o' _ _ _ _ _ p p0 h; exact absurd h (by have := rF_n p0; show ¬ 0 ≤ (rF p).1; omega)
  | succ n ih =>
    intro t o t0 t1 o0 o12 n' t' o' hn t0' t1' o0' o12' p p0
    obtain ⟨n2, rfl⟩ : ∃ n2, n' = n2 + 1 := ⟨n' - 1, by omega⟩
    have z0 : jand 0 t' = 0 := (qo_f t0' t1' t0' t1').2.2.2.2
    have en : ∀ p, 0 ≤ p → 0 ≤ (enR B p).1 → (jand (enR B p).2.1 t' = 0 ∧ o' + (enR B p).2.2.1 ≤ 12 → enR B p = enR B p) ∧ (¬ (jand (enR B p).2.1 t' = 0 ∧ o' + (enR B p).2.2.1 ≤ 12) → (enR B p).1 < 0) := fun p p0 h => by
      refine ⟨fun _ => rfl, fun e => absurd ?_ e⟩
      unfold enR at h ⊢
      split at h
      · have := rF_n p0; omega
      · rename_i c
        rw [if_neg c]
        exact ⟨z0, by show o' + 0 ≤ 12; omega⟩
    unfold rd
    by_cases b1 : B p = 63
    · rw [if_pos b1, if_pos b1]
      by_cases b2 : B (p + 1) ≠ 40 ∨ 12 ≤ o
      · rw [if_pos b2]
        intro h; have := rF_n (show 0 ≤ p + 1 by omega); omega
      · rw [if_neg b2]
        intro h
        have g := rd_g (B := B) (Y := Y) N4 kk n t (o + 1) t0 t1 (by omega) (by omega)
        by_cases b3 : 12 ≤ o'
        · rw [if_pos (Or.inr b3)]
          have y := chL_m (B := B) g t0' t1' (o := 12) (f' := fun _ => rF 0) (fun q q0 hq => ⟨fun e => absurd e.2 (by have := (g q q0 hq).2.2.2.2.1; omega), fun _ => (show (-1 - 0 : Int) < 0 by decide)⟩) 4 (p + 2) 0 0 1 (by omega) (Int.le_refl _) (by decide) (Int.le_refl _) h
          exact ⟨fun e => absurd e.2 (by have := y.2.2.1; omega), fun _ => rF_n (by omega)⟩
        · rw [if_neg (show ¬ (B (p + 1) ≠ 40 ∨ 12 ≤ o') by omega)]
          have y := chL_m (B := B) g t0' t1' (o := o') (ih t (o + 1) t0 t1 (by omega) (by omega) n2 t' (o' + 1) (by omega) t0' t1' (by omega) (by omega)) 4 (p + 2) 0 0 1 (by omega) (Int.le_refl _) (by decide) (Int.le_refl _) h
          exact ⟨y.2.2.2.1, fun e => y.2.2.2.2 e z0 (by omega)⟩
    · rw [if_neg b1, if_neg b1]
      by_cases b2 : B p = 33
      · rw [if_pos b2, if_pos b2]
        generalize hx : B (p + 1) - 97 = x
        by_cases b3 : ¬ (0 ≤ x ∧ x < N) ∨ bt t x = 1
        · rw [if_pos b3]
          intro h; have := rF_n (show 0 ≤ p + 1 by omega); omega
        · rw [if_neg b3]
          by_cases b4 : B (p + 2) ≠ 40 ∨ 12 ≤ o
          · rw [if_pos b4]
            intro h; have := rF_n (show 0 ≤ p + 2 by omega); omega
          · rw [if_neg b4]
            have x0 : 0 ≤ x := by omega
            have x3 : x ≤ 3 := by omega
            have e := q2_f t0 t1 x0 x3
            have e' := q2_f t0' t1' x0 x3
            have u := qo_f t0 t1 e.1 e.2.1
            have u' := qo_f t0' t1' e.1 e.2.1
            have g := rd_g (B := B) (Y := Y) N4 kk n (jor t (jshl 1 x)) (o + 1) u.1 u.2.1 (by omega) (by omega)
            intro h
            have h0 : 0 ≤ (tuL B (rd B N Y m K n (jor t (jshl 1 x)) (o + 1)) (Y x).toNat (p + 3) 0 0 1).1 := by
              unfold tuE at h
              split at h <;> exact h
            have gg := tuL_g (B := B) t0 t1 u.1 u.2.1 (fun a a0 a1 w => by
                have v := qo_f a0 a1 u.1 u.2.1
                rw [v.2.2.1] at w
                have w2 := ((q3_f t0 t1 e.1 e.2.1 a0 a1).mp w).1
                rw [(qo_f a0 a1 t0 t1).2.2.1]
                exact w2) (show o < 12 by omega) g (Y x).toNat (p + 3) 0 0 1 (by omega) (Int.le_refl _) (by decide) ((qo_f t0 t1 t0 t1).2.2.2.2) (Int.le_refl _) (by omega) (by decide) h0
            have te : tuE (tuL B (rd B N Y m K n (jor t (jshl 1 x)) (o + 1)) (Y x).toNat (p + 3) 0 0 1) x = ((tuL B (rd B N Y m K n (jor t (jshl 1 x)) (o + 1)) (Y x).toNat (p + 3) 0 0 1).1, jor (tuL B (rd B N Y m K n (jor t (jshl 1 x)) (o + 1)) (Y x).toNat (p + 3) 0 0 1).2.1 (jshl 1 x), (tuL B (rd B N Y m K n (jor t (jshl 1 x)) (o + 1)) (Y x).toNat (p + 3) 0 0 1).2.2.1, (tuL B (rd B N Y m K n (jor t (jshl 1 x)) (o + 1)) (Y x).toNat (p + 3) 0 0 1).2.2.2) := by
              unfold tuE
              rw [if_neg (by omega)]
            have z := q3_f gg.2.1 gg.2.2.1 e.1 e.2.1 t0' t1'
            rw [te]
            show (jand (jor _ _) t' = 0 ∧ _ → _) ∧ (¬ (jand (jor _ _) t' = 0 ∧ _) → _)
            by_cases b5 : bt t' x = 1
            · rw [if_pos (Or.inr b5)]
              exact ⟨fun w => absurd (z.mp w.1).2 (e'.2.2.1.mp b5), fun _ => rF_n (by omega)⟩
            · rw [if_neg (show ¬ (¬ (0 ≤ x ∧ x < N) ∨ bt t' x = 1) by omega)]
              have s0 : jand (jshl 1 x) t' = 0 := Decidable.not_not.mp (fun w => b5 (e'.2.2.1.mpr w))
              by_cases b6 : 12 ≤ o'
              · rw [if_pos (Or.inr b6)]
                have y := tuL_m (B := B) g t0' t1' (o := 12) (f' := fun _ => rF 0) (fun q q0 hq => ⟨fun w => absurd w.2 (by have := (g q q0 hq).2.2.2.2.1; omega), fun _ => (show (-1 - 0 : Int) < 0 by decide)⟩) (Y x).toNat (p + 3) 0 0 1 (by omega) (Int.le_refl _) (by decide) (Int.le_refl _) h0
                exact ⟨fun w => by exfalso; have y1 := y.2.2.1; have w2 : o' + (tuL B (rd B N Y m K n (jor t (jshl 1 x)) (o + 1)) (Y x).toNat (p + 3) 0 0 1).2.2.1 ≤ 12 := w.2; omega, fun _ => rF_n (by omega)⟩
              · rw [if_neg (show ¬ (B (p + 2) ≠ 40 ∨ 12 ≤ o') by omega)]
                have hh := ih (jor t (jshl 1 x)) (o + 1) u.1 u.2.1 (by omega) (by omega) n2 (jor t' (jshl 1 x)) (o' + 1) (by omega) u'.1 u'.2.1 (by omega) (by omega)
                have sf : Sf2 (rd B N Y m K n (jor t (jshl 1 x)) (o + 1)) (rd B N Y m' K' n2 (jor t' (jshl 1 x)) (o' + 1)) t' (o' + 1) := fun q q0 hq => by
                  have a := hh q q0 hq
                  have k := g q q0 hq
                  generalize rd B N Y m K n (jor t (jshl 1 x)) (o + 1) q = r at *
                  have i1 : jand r.2.1 (jshl 1 x) = 0 := by
                    have w := k.2.2.2.1
                    rw [(qo_f k.2.1 k.2.2.1 u.1 u.2.1).2.2.1] at w
                    rw [(qo_f k.2.1 k.2.2.1 e.1 e.2.1).2.2.1]
                    exact ((q3_f t0 t1 e.1 e.2.1 k.2.1 k.2.2.1).mp w).2
                  have i2 : jand r.2.1 (jor t' (jshl 1 x)) = 0 ↔ jand r.2.1 t' = 0 := by
                    rw [(qo_f k.2.1 k.2.2.1 u'.1 u'.2.1).2.2.1, q3_f t0' t1' e.1 e.2.1 k.2.1 k.2.2.1, (qo_f t0' t1' k.2.1 k.2.2.1).2.2.1, (qo_f e.1 e.2.1 k.2.1 k.2.2.1).2.2.1]
                    exact ⟨fun w => w.1, fun w => ⟨w, i1⟩⟩
                  rw [i2] at a
                  exact a
                have y := tuL_m (B := B) g t0' t1' (o := o') sf (Y x).toNat (p + 3) 0 0 1 (by omega) (Int.le_refl _) (by decide) (Int.le_refl _) h0
                refine ⟨fun w => ?_, fun w => ?_⟩
                · have w1 := z.mp w.1
                  rw [y.2.2.2.1 ⟨w1.1, w.2⟩]
                  exact te
                · have f1 := y.2.2.2.2 (fun v => w ⟨z.mpr ⟨v.1, s0⟩, v.2⟩) z0 (by omega)
                  unfold tuE
                  rw [if_pos f1]
                  exact f1
      · rw [if_neg b2, if_neg b2]
        by_cases b3 : 65 ≤ B p ∧ B p < 71
        · rw [if_pos b3, if_pos b3]
          unfold cpR
          by_cases b4 : B p - 65 < m ∧ jand (K (B p - 65)).1 t = 0 ∧ o + (K (B p - 65)).2.1 ≤ 12
          · rw [if_pos b4]
            intro _
            show (jand (K (B p - 65)).1 t' = 0 ∧ o' + (K (B p - 65)).2.1 ≤ 12 → _) ∧ (¬ (jand (K (B p - 65)).1 t' = 0 ∧ o' + (K (B p - 65)).2.1 ≤ 12) → _)
            rw [ke (B p - 65) (by omega) b4.1]
            refine ⟨fun w => ?_, fun w => ?_⟩
            · rw [if_pos ⟨by omega, w.1, w.2⟩]
            · rw [if_neg (fun v => w ⟨v.2.1, v.2.2⟩)]
              exact rF_n p0
          · rw [if_neg b4]
            intro h; have := rF_n p0; omega
        · rw [if_neg b3, if_neg b3]
          by_cases b4 : B p = 45
          · rw [if_pos b4]
            exact en (p + 1) (by omega)
          · rw [if_neg b4]
            exact en p p0
/-! the class's tape and tables -/
def bC (h : JH) (p : Int) : Int := if 0 ≤ p ∧ p < h.2.2 7 0 then h.2.2 8 p.toNat else -1
def yC (h : JH) (x : Int) : Int := if 0 ≤ x ∧ x < h.2.2 1 0 then h.2.2 2 x.toNat else 0
def RC (h : JH) (m : Int) (K : Int → Int × Int × Int) (q : Nat) (t o p : Int) : RS := rd (bC h) (h.2.2 1 0) (yC h) m K q t o p
def mn (z : Int) : Int := if 1000 < z then 1000 else z
def KoC (h : JH) (m : Int) (K : Int → Int × Int × Int) : Prop := Kk m K ∧ ∀ c : Int, 0 ≤ c → c < m → 0 ≤ h.2.2 9 c.toNat ∧ h.2.2 9 c.toNat < h.2.2 7 3 ∧ h.2.2 15 (h.2.2 9 c.toNat).toNat = (K c).1 ∧ h.2.2 16 (h.2.2 9 c.toNat).toNat = (K c).2.1 ∧ h.2.2 17 (h.2.2 9 c.toNat).toNat = mn (K c).2.2
def FrN (h h' : JH) (k : Int) : Prop := ∀ j : Nat, (j : Int) < k → h'.2.2 15 j = h.2.2 15 j ∧ h'.2.2 16 j = h.2.2 16 j ∧ h'.2.2 17 j = h.2.2 17 j
theorem FrN.rf (h : JH) (k : Int) : FrN h h k := fun _ _ => ⟨rfl, rfl, rfl⟩
theorem FrN.wr {h h1 h2 : JH} {k i v : Int} {a : Nat} (x : FrN h h1 k) (e : h2 = jwr h1 a i.toNat v) (hi : a ≠ 15 ∧ a ≠ 16 ∧ a ≠ 17 ∨ (k ≤ i ∧ 0 ≤ i)) : FrN h h2 k := fun j hj => by
  have y := x j hj
  have c : ∀ b, b = 15 ∨ b = 16 ∨ b = 17 → h2.2.2 b j = h1.2.2 b j := fun b hb => jw_ne e (by
    rcases hi with hi | hi
    · exact Or.inl (by omega)
    · exact Or.inr (by omega))
  rw [c 15 (by omega), c 16 (by omega), c 17 (by omega)]
  exact y
theorem FrN.tr {h h1 h2 : JH} {k l : Int} (x : FrN h h1 k) (y : FrN h1 h2 l) (hk : k ≤ l) : FrN h h2 k := fun j hj => by
  have a := x j hj
  have b := y j (by omega)
  exact ⟨b.1.trans a.1, b.2.1.trans a.2.1, b.2.2.trans a.2.2⟩
theorem FrN.kp {W : List (Nat × Nat)} {h h1 h2 : JH} {k : Int} (x : FrN h h1 k) (kp : Kp W h1 h2) (c15 : ∀ j, inW W 15 j = false) (c16 : ∀ j, inW W 16 j = false) (c17 : ∀ j, inW W 17 j = false) : FrN h h2 k := fun j hj => by
  rw [kp.v (c15 j), kp.v (c16 j), kp.v (c17 j)]
  exact x j hj
theorem KoC.go {h h1 : JH} {m k : Int} {K : Int → Int × Int × Int} (x : KoC h m K) (f : FrN h h1 k) (hk : h.2.2 7 3 = k) (hn : k ≤ h1.2.2 7 3) (e9 : ∀ j, h1.2.2 9 j = h.2.2 9 j) : KoC h1 m K := by
  refine ⟨x.1, fun c c0 c1 => ?_⟩
  obtain ⟨a1, a2, a3, a4, a5⟩ := x.2 c c0 c1
  rw [e9]
  have b := f (h.2.2 9 c.toNat).toNat (by omega)
  exact ⟨a1, by omega, b.1.trans a3, b.2.1.trans a4, b.2.2.trans a5⟩
theorem bC_kp {W : List (Nat × Nat)} {h h1 : JH} (k : Kp W h h1) (c8 : ∀ j, inW W 8 j = false) (c7 : inW W 7 0 = false) : bC h1 = bC h := by
  funext p
  unfold bC
  rw [k.v (c8 _), k.v c7]
theorem yC_kp {W : List (Nat × Nat)} {h h1 : JH} (k : Kp W h h1) (c2 : ∀ j, inW W 2 j = false) (c1 : inW W 1 0 = false) : yC h1 = yC h := by
  funext p
  unfold yC
  rw [k.v (c2 _), k.v c1]
theorem RC_kp {W : List (Nat × Nat)} {h h1 : JH} (k : Kp W h h1) (c8 : ∀ j, inW W 8 j = false) (c7 : inW W 7 0 = false) (c2 : ∀ j, inW W 2 j = false) (c1 : inW W 1 0 = false) : RC h1 = RC h := by
  funext m K q t o p
  unfold RC
  rw [bC_kp k c8 c7, yC_kp k c2 c1, k.v c1]
theorem bC_at {W : List (Nat × Nat)} {h h1 : JH} {p z v : Int} (k : Kp W h h1) (c8 : ∀ j, inW W 8 j = false) (ez : h.2.2 7 0 = z) (e : h1.2.2 8 p.toNat = v) (p0 : 0 ≤ p) (pz : p < z) : bC h p = v := by
  unfold bC
  rw [if_pos ⟨p0, by omega⟩, ← k.v (c8 _)]
  exact e
theorem bC_end {h : JH} {p z : Int} (ez : h.2.2 7 0 = z) (pz : z ≤ p) : bC h p = -1 := by
  unfold bC
  rw [if_neg (by omega)]
def sgOk (v : Nat) : Bool := decide (jand ((v : Int) - 128) 255 = if (v : Int) - 128 < 0 then (v : Int) - 128 + 256 else (v : Int) - 128)
set_option maxRecDepth 100000 in
theorem sg_all : (List.range 256).all sgOk = true := by decide +kernel
theorem sgn {v w : Int} (e : jand v 255 = w) (v0 : -128 ≤ v) (v1 : v ≤ 127) : (0 ≤ v ∧ w = v) ∨ (v < 0 ∧ w = v + 256) := by
  have a := List.all_eq_true.mp sg_all (v + 128).toNat (List.mem_range.mpr (by omega))
  unfold sgOk at a
  rw [show (((v + 128).toNat : Nat) : Int) - 128 = v by omega, e, decide_eq_true_eq] at a
  split at a <;> omega
def NdC (h : JH) (r : Int) (R : RS) : Prop := 0 ≤ r ∧ r < h.2.2 7 3 ∧ h.2.2 15 r.toNat = R.2.1 ∧ h.2.2 16 r.toNat = R.2.2.1 ∧ h.2.2 17 r.toNat = mn R.2.2.2
/-- what a reading leaves -/
def Rp (h h' : JH) (k : Int) (R : RS) (r : Int) : Prop := FrN h h' k ∧ k ≤ h'.2.2 7 3 ∧ ((0 ≤ R.1 ∧ h'.2.2 7 1 = -1 ∧ h'.2.2 7 2 = R.1 ∧ h'.2.2 7 3 ≤ R.1 ∧ NdC h' r R) ∨ (R.1 < 0 ∧ h'.2.2 7 1 = -1 - R.1))
theorem mn_add {a b c : Int} (h : c = mn a + mn b) (a0 : 1 ≤ a) (b0 : 1 ≤ b) : (if 1000 ≤ c then 1000 else c) = mn (a + b) := by
  unfold mn at *
  (repeat' split) <;> (try split at h) <;> (try split at h) <;> omega
theorem rd_s {B : Int → Int} {N : Int} {Y : Int → Int} {m : Int} {K : Int → Int × Int × Int} {q : Nat} (hq : 0 < q) (t o p : Int) : rd B N Y m K q t o p = (if B p = 63 then (if B (p + 1) ≠ 40 ∨ 12 ≤ o then rF (p + 1) else chL B (rd B N Y m K (q - 1) t (o + 1)) 4 (p + 2) 0 0 1)
    else if B p = 33 then (if ¬ (0 ≤ B (p + 1) - 97 ∧ B (p + 1) - 97 < N) ∨ bt t (B (p + 1) - 97) = 1 then rF (p + 1) else if B (p + 2) ≠ 40 ∨ 12 ≤ o then rF (p + 2) else tuE (tuL B (rd B N Y m K (q - 1) (jor t (jshl 1 (B (p + 1) - 97))) (o + 1)) (Y (B (p + 1) - 97)).toNat (p + 3) 0 0 1) (B (p + 1) - 97))
    else if 65 ≤ B p ∧ B p < 71 then cpR m K t o p (B p - 65)
    else if B p = 45 then enR B (p + 1)
    else enR B p) := by
  obtain ⟨n, rfl⟩ : ∃ n, q = n + 1 := ⟨q - 1, by omega⟩
  rfl
theorem chL_n {B : Int → Int} {f : Int → RS} {k : Nat} {p tm dp sz : Int} (hk : 0 < k) (h : nm2 B p < 0) : chL B f k p tm dp sz = rF p := by
  obtain ⟨n, rfl⟩ : ∃ n, k = n + 1 := ⟨k - 1, by omega⟩
  unfold chL
  rw [if_pos h]
theorem chL_c {B : Int → Int} {f : Int → RS} {k : Nat} {p q tm dp sz : Int} (hk : 0 < k) (h : nm2 B p = q) (q0 : 0 ≤ q) (hc : B q ≠ 58) : chL B f k p tm dp sz = rF q := by
  obtain ⟨n, rfl⟩ : ∃ n, k = n + 1 := ⟨k - 1, by omega⟩
  unfold chL
  rw [h, if_neg (by omega), if_pos hc]
theorem chL_f {B : Int → Int} {f : Int → RS} {k : Nat} {p q tm dp sz : Int} (hk : 0 < k) (h : nm2 B p = q) (q0 : 0 ≤ q) (hc : B q = 58) (hf : (f (q + 1)).1 < 0) : chL B f k p tm dp sz = ((f (q + 1)).1, 0, 0, 0) := by
  obtain ⟨n, rfl⟩ : ∃ n, k = n + 1 := ⟨k - 1, by omega⟩
  unfold chL
  rw [h, if_neg (by omega), if_neg (fun z => z hc), if_pos hf]
theorem chL_k {B : Int → Int} {f : Int → RS} {k : Nat} {p q tm dp sz : Int} (hk : 1 < k) (h : nm2 B p = q) (q0 : 0 ≤ q) (hc : B q = 58) (hf : 0 ≤ (f (q + 1)).1) (hb : B (f (q + 1)).1 = 44) : chL B f k p tm dp sz = chL B f (k - 1) ((f (q + 1)).1 + 1) (jor tm (f (q + 1)).2.1) (mxD dp (f (q + 1)).2.2.1) (sz + (f (q + 1)).2.2.2) := by
  obtain ⟨n, rfl⟩ : ∃ n, k = n + 1 := ⟨k - 1, by omega⟩
  rw [show n + 1 - 1 = n by omega]
  conv => lhs; unfold chL
  rw [h, if_neg (by omega), if_neg (fun z => z hc), if_neg (by omega), if_pos ⟨hb, by omega⟩]
theorem chL_e {B : Int → Int} {f : Int → RS} {k : Nat} {p q tm dp sz : Int} (hk : 0 < k) (h : nm2 B p = q) (q0 : 0 ≤ q) (hc : B q = 58) (hf : 0 ≤ (f (q + 1)).1) (hb : B (f (q + 1)).1 = 41) : chL B f k p tm dp sz = ((f (q + 1)).1 + 1, jor tm (f (q + 1)).2.1, mxD dp (f (q + 1)).2.2.1, sz + (f (q + 1)).2.2.2) := by
  obtain ⟨n, rfl⟩ : ∃ n, k = n + 1 := ⟨k - 1, by omega⟩
  unfold chL
  rw [h, if_neg (by omega), if_neg (fun z => z hc), if_neg (by omega), if_neg (by omega), if_pos hb]
theorem chL_x {B : Int → Int} {f : Int → RS} {k : Nat} {p q tm dp sz : Int} (hk : 0 < k) (h : nm2 B p = q) (q0 : 0 ≤ q) (hc : B q = 58) (hf : 0 ≤ (f (q + 1)).1) (hb : B (f (q + 1)).1 ≠ 41) (hb2 : B (f (q + 1)).1 ≠ 44 ∨ k = 1) : chL B f k p tm dp sz = rF (f (q + 1)).1 := by
  obtain ⟨n, rfl⟩ : ∃ n, k = n + 1 := ⟨k - 1, by omega⟩
  unfold chL
  rw [h, if_neg (by omega), if_neg (fun z => z hc), if_neg (by omega), if_neg (by omega), if_neg hb]
theorem tuL_f {B : Int → Int} {f : Int → RS} {k : Nat} {p tm dp sz : Int} (hk : 0 < k) (hf : (f p).1 < 0) : tuL B f k p tm dp sz = ((f p).1, 0, 0, 0) := by
  obtain ⟨n, rfl⟩ : ∃ n, k = n + 1 := ⟨k - 1, by omega⟩
  unfold tuL
  rw [if_pos hf]
theorem tuL_k {B : Int → Int} {f : Int → RS} {k : Nat} {p tm dp sz : Int} (hk : 1 < k) (hf : 0 ≤ (f p).1) (hb : B (f p).1 = 44) : tuL B f k p tm dp sz = tuL B f (k - 1) ((f p).1 + 1) (jor tm (f p).2.1) (mxD dp (f p).2.2.1) (sz + (f p).2.2.2) := by
  obtain ⟨n, rfl⟩ : ∃ n, k = n + 1 := ⟨k - 1, by omega⟩
  rw [show n + 1 - 1 = n by omega]
  conv => lhs; unfold tuL
  rw [if_neg (by omega), if_pos ⟨hb, by omega⟩]
theorem tuL_e {B : Int → Int} {f : Int → RS} {p tm dp sz : Int} (hf : 0 ≤ (f p).1) (hb : B (f p).1 = 41) : tuL B f 1 p tm dp sz = ((f p).1 + 1, jor tm (f p).2.1, mxD dp (f p).2.2.1, sz + (f p).2.2.2) := by
  show (if _ then _ else _) = _
  rw [if_neg (by omega), if_neg (by omega), if_pos ⟨hb, rfl⟩]
theorem tuL_x {B : Int → Int} {f : Int → RS} {k : Nat} {p tm dp sz : Int} (hk : 0 < k) (hf : 0 ≤ (f p).1) (hb : (1 < k ∧ B (f p).1 ≠ 44) ∨ (k = 1 ∧ B (f p).1 ≠ 41)) : tuL B f k p tm dp sz = rF (f p).1 := by
  obtain ⟨n, rfl⟩ : ∃ n, k = n + 1 := ⟨k - 1, by omega⟩
  unfold tuL
  rw [if_neg (by omega), if_neg (by omega), if_neg (by omega)]
theorem FrN.wn {h h1 h2 : JH} {k v : Int} {a i : Nat} (x : FrN h h1 k) (e : h2 = jwr h1 a i v) (hi : a ≠ 15 ∧ a ≠ 16 ∧ a ≠ 17) : FrN h h2 k := fun j hj => by
  rw [jw_ne e (Or.inl (Ne.symm hi.1)), jw_ne e (Or.inl (Ne.symm hi.2.1)), jw_ne e (Or.inl (Ne.symm hi.2.2))]
  exact x j hj
theorem Rp.bad {h h' : JH} {k r p f n : Int} {R : RS} (fr : FrN h h' k) (kn : h'.2.2 7 3 = n) (hn : k ≤ n) (hR : R = rF p) (p0 : 0 ≤ p) (hf : h'.2.2 7 1 = f) (e : f = p) : Rp h h' k R r := by
  refine ⟨fr, by omega, Or.inr ?_⟩
  rw [hR]
  refine ⟨rF_n p0, ?_⟩
  show _ = -1 - (-1 - p)
  omega
theorem Rp.bad2 {h h' : JH} {k r f n q : Int} {R : RS} (fr : FrN h h' k) (kn : h'.2.2 7 3 = n) (hn : k ≤ n) (hR : R.1 = q) (q0 : q < 0) (hf : h'.2.2 7 1 = f) (e : f = -1 - q) : Rp h h' k R r := ⟨fr, by omega, Or.inr ⟨by omega, by omega⟩⟩
theorem Rp.good {h h' : JH} {k r n q x a b c v1 v2 v3 : Int} {R : RS} (fr : FrN h h' k) (kn : h'.2.2 7 3 = n) (hn : k ≤ n) (hR : R = (q, a, b, c)) (q0 : 0 ≤ q) (hf : h'.2.2 7 1 = -1) (ha : h'.2.2 7 2 = x) (hx : x = q) (nq : n ≤ q) (r0 : 0 ≤ r) (rn : r < n) (e1 : h'.2.2 15 r.toNat = v1) (h1 : v1 = a) (e2 : h'.2.2 16 r.toNat = v2) (h2 : v2 = b) (e3 : h'.2.2 17 r.toNat = v3) (h3 : v3 = mn c) : Rp h h' k R r := by
  subst hR
  exact ⟨fr, by omega, Or.inl ⟨q0, hf, by rw [ha]; exact hx, by rw [kn]; exact nq, r0, by omega, e1.trans h1, e2.trans h2, e3.trans h3⟩⟩
/-- a choice under way -/
def Ci (B : Int → Int) (f : Int → RS) (h : JH) (R : RS) (k nd w fl at_ nn : Int) : Prop := (fl = -1 ∧ nd = k ∧ k < nn ∧ nn ≤ at_ ∧ ∃ sz, 1 ≤ sz ∧ R = chL B f (4 - w).toNat at_ (h.2.2 15 nd.toNat) (h.2.2 16 nd.toNat) sz ∧ h.2.2 17 nd.toNat = mn sz ∧ 0 ≤ h.2.2 15 nd.toNat ∧ h.2.2 15 nd.toNat ≤ 15 ∧ 0 ≤ h.2.2 16 nd.toNat) ∨ (0 ≤ fl ∧ R.1 = -1 - fl)
def Ti (B : Int → Int) (f : Int → RS) (h : JH) (R : RS) (y k nd w fl at_ nn : Int) : Prop := (fl = -1 ∧ nd = k ∧ k < nn ∧ nn ≤ at_ ∧ ∃ sz, 1 ≤ sz ∧ h.2.2 17 nd.toNat = mn sz ∧ 0 ≤ h.2.2 15 nd.toNat ∧ h.2.2 15 nd.toNat ≤ 15 ∧ 0 ≤ h.2.2 16 nd.toNat ∧ ((w = 0 ∧ R = tuL B f y.toNat at_ (h.2.2 15 nd.toNat) (h.2.2 16 nd.toNat) sz) ∨ (0 < w ∧ w < y ∧ R = (if B at_ = 44 then tuL B f (y - w).toNat (at_ + 1) (h.2.2 15 nd.toNat) (h.2.2 16 nd.toNat) sz else rF at_)) ∨ (w = y ∧ R = (if B at_ = 41 then (at_ + 1, h.2.2 15 nd.toNat, h.2.2 16 nd.toNat, sz) else rF at_)))) ∨ (0 ≤ fl ∧ R.1 = -1 - fl)
theorem ci_bad {B : Int → Int} {f : Int → RS} {h : JH} {R R' : RS} {k nd w fl at_ nn : Int} (e : R = R') (f0 : 0 ≤ fl) (hp : R'.1 = -1 - fl) : Ci B f h R k nd w fl at_ nn := Or.inr ⟨f0, by rw [e]; exact hp⟩
theorem ci_start {B : Int → Int} {f : Int → RS} {h : JH} {R : RS} {k nd fl at_ nn a : Int} (e : R = chL B f 4 a 0 0 1) (hf : fl = -1 ∧ nd = k) (hn : k < nn ∧ nn ≤ at_) (ha : at_ = a) (e1 : h.2.2 15 nd.toNat = 0) (e2 : h.2.2 16 nd.toNat = 0) (e3 : h.2.2 17 nd.toNat = 1) : Ci B f h R k nd 0 fl at_ nn := by
  refine Or.inl ⟨hf.1, hf.2, hn.1, hn.2, 1, Int.le_refl _, ?_, ?_, ?_, ?_, ?_⟩
  · rw [e1, e2, ha]; exact e
  · rw [e3]; rfl
  · rw [e1]; exact Int.le_refl _
  · rw [e1]; decide
  · rw [e2]; exact Int.le_refl _
theorem ci_ok {B : Int → Int} {f : Int → RS} {h : JH} {R : RS} {k nd w fl at_ nn sz a tm dp v1 v2 v3 : Int} {kk : Nat} (e : R = chL B f kk a tm dp sz) (hf : fl = -1 ∧ nd = k) (hn : k < nn ∧ nn ≤ at_) (ha : at_ = a) (hk : kk = (4 - w).toNat) (e1 : h.2.2 15 nd.toNat = v1) (h1 : v1 = tm) (e2 : h.2.2 16 nd.toNat = v2) (h2 : v2 = dp) (e3 : h.2.2 17 nd.toNat = v3) (h3 : v3 = mn sz) (t0 : 0 ≤ v1 ∧ v1 ≤ 15) (d0 : 0 ≤ v2) (s1 : 1 ≤ sz) : Ci B f h R k nd w fl at_ nn := by
  refine Or.inl ⟨hf.1, hf.2, hn.1, hn.2, sz, s1, ?_, ?_, ?_, ?_, ?_⟩
  · rw [e1, e2, h1, h2, ha, ← hk]; exact e
  · rw [e3]; exact h3
  · rw [e1]; exact t0.1
  · rw [e1]; exact t0.2
  · rw [e2]; exact d0
theorem mn_of {s a c m v : Int} (s2 : s = mn a) (em : mn c = m) (a1 : 1 ≤ a) (c1 : 1 ≤ c) (h : (1000 ≤ s + m ∧ v = 1000) ∨ (s + m ≤ 1000 ∧ v = s + m)) : v = mn (a + c) := by
  unfold mn at *
  split at s2 <;> split at em <;> split <;> omega
/-! what turns out, under way -/
def tuN (B : Int → Int) (N : Int) (Y : Int → Int) (g : Int → Int → RS) (t o p : Int) : RS := if ¬ (0 ≤ B (p + 1) - 97 ∧ B (p + 1) - 97 < N) ∨ bt t (B (p + 1) - 97) = 1 then rF (p + 1) else if B (p + 2) ≠ 40 ∨ 12 ≤ o then rF (p + 2) else tuE (tuL B (g (jor t (jshl 1 (B (p + 1) - 97)))) (Y (B (p + 1) - 97)).toNat (p + 3) 0 0 1) (B (p + 1) - 97)
theorem tuN_1 {B : Int → Int} {N : Int} {Y : Int → Int} {g : Int → Int → RS} {t o p v : Int} (e : B (p + 1) = v) (h : ¬ (0 ≤ v - 97 ∧ v - 97 < N) ∨ bt t (v - 97) = 1) : tuN B N Y g t o p = rF (p + 1) := by
  unfold tuN
  rw [e, if_pos h]
theorem tuN_2 {B : Int → Int} {N : Int} {Y : Int → Int} {g : Int → Int → RS} {t o p x : Int} (e : B (p + 1) - 97 = x) (x0 : 0 ≤ x) (x1 : x < N) (hb : bt t x ≠ 1) (h : B (p + 2) ≠ 40 ∨ 12 ≤ o) : tuN B N Y g t o p = rF (p + 2) := by
  unfold tuN
  rw [e, if_neg (by omega), if_pos h]
theorem tuN_3 {B : Int → Int} {N : Int} {Y : Int → Int} {g : Int → Int → RS} {t o p x y : Int} (e : B (p + 1) - 97 = x) (x0 : 0 ≤ x) (x1 : x < N) (hb : bt t x ≠ 1) (h1 : B (p + 2) = 40) (h2 : o < 12) (hy : Y x = y) : tuN B N Y g t o p = tuE (tuL B (g (jor t (jshl 1 x))) y.toNat (p + 3) 0 0 1) x := by
  unfold tuN
  rw [e, if_neg (by omega), if_neg (by omega), hy]
def Tj (B : Int → Int) (f : Int → RS) (h : JH) (R9 R : RS) (x y k nd w fl at_ nn : Int) : Prop := (0 ≤ fl ∧ R9.1 = -1 - fl) ∨ (fl = -1 ∧ R9 = tuE R x ∧ nd = k ∧ k < nn ∧ nn ≤ at_ ∧ ∃ sz, 1 ≤ sz ∧ h.2.2 17 nd.toNat = mn sz ∧ 0 ≤ h.2.2 15 nd.toNat ∧ h.2.2 15 nd.toNat ≤ 15 ∧ 0 ≤ h.2.2 16 nd.toNat ∧ ((w = 0 ∧ R = tuL B f y.toNat at_ (h.2.2 15 nd.toNat) (h.2.2 16 nd.toNat) sz) ∨ (0 < w ∧ w < y ∧ R = (if B at_ = 44 then tuL B f (y - w).toNat (at_ + 1) (h.2.2 15 nd.toNat) (h.2.2 16 nd.toNat) sz else rF at_)) ∨ (0 < w ∧ w = y ∧ R = (if B at_ = 41 then (at_ + 1, h.2.2 15 nd.toNat, h.2.2 16 nd.toNat, sz) else rF at_))))
theorem tuE_n {R : RS} {x : Int} (h : R.1 < 0) : (tuE R x).1 = R.1 := by
  unfold tuE
  rw [if_pos h]
theorem tj_bad {B : Int → Int} {f : Int → RS} {h : JH} {R9 R R' : RS} {x y k nd w fl at_ nn : Int} (e9 : R9 = tuE R x) (e : R = R') (f0 : 0 ≤ fl) (hp : R'.1 = -1 - fl) : Tj B f h R9 R x y k nd w fl at_ nn := Or.inl ⟨f0, by rw [e9, tuE_n (by rw [e]; omega), e]; exact hp⟩
theorem tj_bad0 {B : Int → Int} {f : Int → RS} {h : JH} {R9 R R' : RS} {x y k nd w fl at_ nn : Int} (e : R9 = R') (f0 : 0 ≤ fl) (hp : R'.1 = -1 - fl) : Tj B f h R9 R x y k nd w fl at_ nn := Or.inl ⟨f0, by rw [e]; exact hp⟩
theorem tj_start {B : Int → Int} {f : Int → RS} {h : JH} {R9 : RS} {x y k nd fl at_ nn a : Int} (e9 : R9 = tuE (tuL B f y.toNat a 0 0 1) x) (hf : fl = -1 ∧ nd = k) (hn : k < nn ∧ nn ≤ at_) (ha : at_ = a) (e1 : h.2.2 15 nd.toNat = 0) (e2 : h.2.2 16 nd.toNat = 0) (e3 : h.2.2 17 nd.toNat = 1) : Tj B f h R9 (tuL B f y.toNat a 0 0 1) x y k nd 0 fl at_ nn := by
  refine Or.inr ⟨hf.1, e9, hf.2, hn.1, hn.2, 1, Int.le_refl _, by rw [e3]; rfl, by rw [e1]; exact Int.le_refl _, by rw [e1]; decide, by rw [e2]; exact Int.le_refl _, Or.inl ⟨rfl, ?_⟩⟩
  rw [e1, e2, ha]
theorem tj_ok {B : Int → Int} {f : Int → RS} {h : JH} {R9 R : RS} {x y k nd w w' fl at_ nn sz p tm dp q a b c v1 v2 v3 : Int} (e9 : R9 = tuE R x) (e : R = tuL B f (y - w).toNat p tm dp sz) (w0 : 0 ≤ w) (wy : w < y) (ef : f p = (q, a, b, c)) (q0 : 0 ≤ q) (hf : fl = -1 ∧ nd = k) (hn : k < nn ∧ nn ≤ at_) (ha : at_ = q) (hw : w' = w + 1) (e1 : h.2.2 15 nd.toNat = v1) (h1 : v1 = jor tm a) (e2 : h.2.2 16 nd.toNat = v2) (h2 : v2 = mxD dp b) (e3 : h.2.2 17 nd.toNat = v3) (h3 : v3 = mn (sz + c)) (t0 : 0 ≤ v1 ∧ v1 ≤ 15) (d0 : 0 ≤ v2) (s1 : 1 ≤ sz + c) : Tj B f h R9 R x y k nd w' fl at_ nn := by
  refine Or.inr ⟨hf.1, e9, hf.2, hn.1, hn.2, sz + c, s1, by rw [e3]; exact h3, by rw [e1]; exact t0.1, by rw [e1]; exact t0.2, by rw [e2]; exact d0, Or.inr ?_⟩
  subst ha
  subst hw
  have ok : 0 ≤ (f p).1 := by rw [ef]; exact q0
  rcases Int.lt_or_le (w + 1) y with z | z
  · refine Or.inl ⟨by omega, z, ?_⟩
    rw [e1, e2, h1, h2, e]
    split
    · rename_i c4
      rw [tuL_k (by omega) ok (by rw [ef]; exact c4), ef, show (y - w).toNat - 1 = (y - (w + 1)).toNat by omega]
    · rename_i c4
      rw [tuL_x (by omega) ok (Or.inl ⟨by omega, by rw [ef]; exact c4⟩), ef]
  · refine Or.inr ⟨by omega, by omega, ?_⟩
    rw [e1, e2, h1, h2, e, show (y - w).toNat = 1 by omega]
    split
    · rename_i c4
      rw [tuL_e ok (by rw [ef]; exact c4), ef]
    · rename_i c4
      rw [tuL_x (by omega) ok (Or.inr ⟨rfl, by rw [ef]; exact c4⟩), ef]
theorem yC_at {W : List (Nat × Nat)} {h h1 : JH} {x v n : Int} (k : Kp W h h1) (c2 : ∀ j, inW W 2 j = false) (c1 : inW W 1 0 = false) (en : h1.2.2 1 0 = n) (e : h1.2.2 2 x.toNat = v) (x0 : 0 ≤ x) (xn : x < n) : yC h x = v := by
  unfold yC
  rw [k.v c1] at en
  rw [if_pos ⟨x0, by omega⟩, ← k.v (c2 _)]
  exact e
theorem Rp.to {h h' : JH} {k r : Int} {R R' : RS} (e : R = R') (x : Rp h h' k R' r) : Rp h h' k R r := by
  rw [e]
  exact x
/-! a whole text -/
def fiR (z : Int) (R : RS) : RS := if R.1 < 0 then R else if R.1 < z then rF R.1 else R
def upK (K : Int → Int × Int × Int) (m : Int) (v : Int × Int × Int) (c : Int) : Int × Int × Int := if c = m then v else K c
def txL (B : Int → Int) (N : Int) (Y : Int → Int) (z : Int) : Nat → Int → (Int → Int × Int × Int) → Int → RS
  | 0, m, K, p => fiR z (rd B N Y m K 13 0 0 p)
  | k + 1, m, K, p =>
    if B p = 65 + m then
      (if B (p + 1) ≠ 61 then rF (p + 1)
       else if (rd B N Y m K 13 0 0 (p + 2)).1 < 0 then ((rd B N Y m K 13 0 0 (p + 2)).1, 0, 0, 0)
       else if B (rd B N Y m K 13 0 0 (p + 2)).1 ≠ 59 then rF (rd B N Y m K 13 0 0 (p + 2)).1
       else txL B N Y z k (m + 1) (upK K m (rd B N Y m K 13 0 0 (p + 2)).2) ((rd B N Y m K 13 0 0 (p + 2)).1 + 1))
    else fiR z (rd B N Y m K 13 0 0 p)
def K00 (_ : Int) : Int × Int × Int := (0, 0, 0)
def TC (h : JH) (k : Nat) (m : Int) (K : Int → Int × Int × Int) (p : Int) : RS := txL (bC h) (h.2.2 1 0) (yC h) (h.2.2 7 0) k m K p
theorem TC_1 {h : JH} {k : Nat} {m p : Int} {K : Int → Int × Int × Int} (hk : 0 < k) (hb : bC h p = 65 + m) (h1 : bC h (p + 1) ≠ 61) : TC h k m K p = rF (p + 1) := by
  obtain ⟨n, rfl⟩ : ∃ n, k = n + 1 := ⟨k - 1, by omega⟩
  unfold TC txL
  rw [if_pos hb, if_pos h1]
theorem TC_f {h : JH} {k : Nat} {m p : Int} {K : Int → Int × Int × Int} {Q : RS} (hk : 0 < k) (hb : bC h p = 65 + m) (h1 : bC h (p + 1) = 61) (hq : RC h m K 13 0 0 (p + 2) = Q) (q0 : Q.1 < 0) : TC h k m K p = (Q.1, 0, 0, 0) := by
  obtain ⟨n, rfl⟩ : ∃ n, k = n + 1 := ⟨k - 1, by omega⟩
  unfold TC txL
  unfold RC at hq
  rw [if_pos hb, if_neg (fun z => z h1), hq, if_pos q0]
theorem TC_x {h : JH} {k : Nat} {m p q a b c : Int} {K : Int → Int × Int × Int} (hk : 0 < k) (hb : bC h p = 65 + m) (h1 : bC h (p + 1) = 61) (hq : RC h m K 13 0 0 (p + 2) = (q, a, b, c)) (q0 : 0 ≤ q) (h2 : bC h q ≠ 59) : TC h k m K p = rF q := by
  obtain ⟨n, rfl⟩ : ∃ n, k = n + 1 := ⟨k - 1, by omega⟩
  unfold TC txL
  unfold RC at hq
  rw [if_pos hb, if_neg (fun z => z h1), hq, if_neg (show ¬ q < 0 by omega), if_pos (show bC h q ≠ 59 from h2)]
theorem TC_k {h : JH} {k : Nat} {m p q a b c : Int} {K : Int → Int × Int × Int} (hk : 0 < k) (hb : bC h p = 65 + m) (h1 : bC h (p + 1) = 61) (hq : RC h m K 13 0 0 (p + 2) = (q, a, b, c)) (q0 : 0 ≤ q) (h2 : bC h q = 59) : TC h k m K p = TC h (k - 1) (m + 1) (upK K m (a, b, c)) (q + 1) := by
  obtain ⟨n, rfl⟩ : ∃ n, k = n + 1 := ⟨k - 1, by omega⟩
  rw [show n + 1 - 1 = n by omega]
  unfold RC at hq
  unfold TC
  conv => lhs; unfold txL
  rw [if_pos hb, if_neg (fun z => z h1), hq, if_neg (show ¬ q < 0 by omega), if_neg (show ¬ bC h q ≠ 59 from fun z => z h2)]
theorem TC_z {h : JH} {k : Nat} {m p : Int} {K : Int → Int × Int × Int} {Q : RS} (hk : k = 0 ∨ bC h p ≠ 65 + m) (hq : RC h m K 13 0 0 p = Q) : TC h k m K p = fiR (h.2.2 7 0) Q := by
  unfold RC at hq
  unfold TC
  match k, hk with
  | 0, _ => show fiR _ _ = _; rw [hq]
  | n + 1, hk =>
    unfold txL
    rw [if_neg (hk.resolve_left (by omega)), hq]
theorem KoC.zero {h : JH} {m : Int} {K : Int → Int × Int × Int} (e : m ≤ 0) : KoC h m K := ⟨fun c c0 c1 => by omega, fun c c0 c1 => by omega⟩
theorem KoC.wn {h h1 : JH} {m v : Int} {K : Int → Int × Int × Int} {a i : Nat} (x : KoC h m K) (e : h1 = jwr h a i v) (ha : a = 7 ∧ i ≠ 3) : KoC h1 m K := by
  have f : ∀ b j, b ≠ 7 ∨ j = 3 → h1.2.2 b j = h.2.2 b j := fun b j hb => jw_ne e (by
    rcases hb with hb | hb
    · exact Or.inl (by omega)
    · exact Or.inr (by omega))
  refine ⟨x.1, fun c c0 c1 => ?_⟩
  rw [f 9 _ (Or.inl (by decide)), f 7 3 (Or.inr rfl), f 15 _ (Or.inl (by decide)), f 16 _ (Or.inl (by decide)), f 17 _ (Or.inl (by decide))]
  exact x.2 c c0 c1
theorem KoC.put {h h1 h2 : JH} {m r n v a b c : Int} {K : Int → Int × Int × Int} (x : KoC h m K) (m0 : 0 ≤ m) (e1 : h1 = jwr h 9 m.toNat r) (e2 : h2 = jwr h1 7 4 v) (r0 : 0 ≤ r) (hn : h2.2.2 7 3 = n) (rn : r < n) (x1 : h2.2.2 15 r.toNat = a) (x2 : h2.2.2 16 r.toNat = b) (x3 : h2.2.2 17 r.toNat = mn c) (ga : 0 ≤ a ∧ a ≤ 15) (gb : 0 ≤ b) (gc : 1 ≤ c) (gb2 : b ≤ 12) : KoC h2 (m + 1) (upK K m (a, b, c)) := by
  have f : ∀ d j, d ≠ 9 → (d ≠ 7 ∨ j ≠ 4) → h2.2.2 d j = h.2.2 d j := fun d j h9 h7 => (jw_ne e2 (by omega)).trans (jw_ne e1 (Or.inl (by omega)))
  refine ⟨fun d d0 d1 => ?_, fun d d0 d1 => ?_⟩
  · unfold upK
    split
    · exact ⟨ga.1, ga.2, gb, gc, gb2⟩
    · exact x.1 d d0 (by omega)
  · rcases Decidable.em (d = m) with z | z
    · subst z
      have e9 : h2.2.2 9 d.toNat = r := (jw_ne e2 (Or.inl (by decide))).trans (jw_eq e1)
      rw [e9, hn]
      unfold upK
      rw [if_pos rfl]
      exact ⟨r0, rn, x1, x2, x3⟩
    · have e9 : h2.2.2 9 d.toNat = h.2.2 9 d.toNat := (jw_ne e2 (Or.inl (by decide))).trans (jw_ne e1 (Or.inr (by omega)))
      unfold upK
      rw [if_neg z, e9, f 7 3 (by decide) (Or.inr (by decide)), f 15 _ (by decide) (Or.inl (by decide)), f 16 _ (by decide) (Or.inl (by decide)), f 17 _ (by decide) (Or.inl (by decide))]
      exact x.2 d d0 (by omega)
/-- what the reading of a text leaves -/
def TxP (h' : JH) (R : RS) (r : Int) : Prop := (0 ≤ R.1 ∧ 0 ≤ r ∧ r < h'.2.2 7 3 ∧ h'.2.2 17 r.toNat = mn R.2.2.2 ∧ 1 ≤ R.2.2.2) ∨ (R.1 < 0 ∧ r = -1 ∧ h'.2.2 7 1 = -1 - R.1)
theorem TxP.bad {h' : JH} {R : RS} {r q f : Int} (e : R.1 = q) (q0 : q < 0) (hr : r = -1) (hf : h'.2.2 7 1 = f) (e2 : f = -1 - q) : TxP h' R r := Or.inr ⟨by omega, hr, by omega⟩
theorem TxP.good {h' : JH} {R : RS} {r q a b c v : Int} (e : R = (q, a, b, c)) (q0 : 0 ≤ q) (hr : 0 ≤ r) (hn : r < h'.2.2 7 3) (hf : h'.2.2 17 r.toNat = v) (e2 : v = mn c) (c1 : 1 ≤ c) : TxP h' R r := by
  subst e
  exact Or.inl ⟨q0, hr, hn, hf.trans e2, c1⟩
/-! the reference's tape and tables -/
def bR (h : JH) (p : Int) : Int := if 0 ≤ p ∧ p < h.2.2 42 17 then h.2.2 54 p.toNat else -1
def yR (h : JH) (x : Int) : Int := if 0 ≤ x ∧ x < h.2.2 42 1 then h.2.2 43 x.toNat else 0
def RQ (h : JH) (K : Int → Int × Int × Int) (q : Nat) (t o p : Int) : RS := rd (bR h) (h.2.2 42 1) (yR h) (h.2.2 42 19) K q t o p
def KoR (h : JH) (K : Int → Int × Int × Int) : Prop := Kk (h.2.2 42 19) K ∧ ∀ c : Int, 0 ≤ c → c < h.2.2 42 19 → ∃ z, 0 ≤ z ∧ 0 ≤ h.2.2 55 c.toNat ∧ bR h z = 59 ∧ rd (bR h) (h.2.2 42 1) (yR h) c K 13 0 0 (h.2.2 55 c.toNat) = (z, K c)
theorem bR_kp {W : List (Nat × Nat)} {h h1 : JH} (k : Kp W h h1) (c54 : ∀ j, inW W 54 j = false) (c17 : inW W 42 17 = false) : bR h1 = bR h := by
  funext p
  unfold bR
  rw [k.v (c54 _), k.v c17]
theorem yR_kp {W : List (Nat × Nat)} {h h1 : JH} (k : Kp W h h1) (c43 : ∀ j, inW W 43 j = false) (c1 : inW W 42 1 = false) : yR h1 = yR h := by
  funext p
  unfold yR
  rw [k.v (c43 _), k.v c1]
theorem RQ_kp {W : List (Nat × Nat)} {h h1 : JH} (k : Kp W h h1) (c54 : ∀ j, inW W 54 j = false) (c17 : inW W 42 17 = false) (c43 : ∀ j, inW W 43 j = false) (c1 : inW W 42 1 = false) (c19 : inW W 42 19 = false) : RQ h1 = RQ h := by
  funext K q t o p
  unfold RQ
  rw [bR_kp k c54 c17, yR_kp k c43 c1, k.v c1, k.v c19]
theorem KoR.kp {W : List (Nat × Nat)} {h h1 : JH} {K : Int → Int × Int × Int} (x : KoR h K) (k : Kp W h h1) (c54 : ∀ j, inW W 54 j = false) (c17 : inW W 42 17 = false) (c43 : ∀ j, inW W 43 j = false) (c1 : inW W 42 1 = false) (c19 : inW W 42 19 = false) (c55 : ∀ j, inW W 55 j = false) : KoR h1 K := by
  unfold KoR
  rw [bR_kp k c54 c17, yR_kp k c43 c1, k.v c1, k.v c19]
  refine ⟨x.1, fun c c0 c1 => ?_⟩
  rw [k.v (c55 _)]
  exact x.2 c c0 c1
theorem bR_at {W : List (Nat × Nat)} {h h1 : JH} {p z v : Int} (k : Kp W h h1) (c54 : ∀ j, inW W 54 j = false) (ez : h.2.2 42 17 = z) (e : h1.2.2 54 p.toNat = v) (p0 : 0 ≤ p) (pz : p < z) : bR h p = v := by
  unfold bR
  rw [if_pos ⟨p0, by omega⟩, ← k.v (c54 _)]
  exact e
theorem bR_end {h : JH} {p z : Int} (ez : h.2.2 42 17 = z) (pz : z ≤ p) : bR h p = -1 := by
  unfold bR
  rw [if_neg (by omega)]
theorem yR_at {W : List (Nat × Nat)} {h h1 : JH} {x v n : Int} (k : Kp W h h1) (c2 : ∀ j, inW W 43 j = false) (c1 : inW W 42 1 = false) (en : h1.2.2 42 1 = n) (e : h1.2.2 43 x.toNat = v) (x0 : 0 ≤ x) (xn : x < n) : yR h x = v := by
  unfold yR
  rw [k.v c1] at en
  rw [if_pos ⟨x0, by omega⟩, ← k.v (c2 _)]
  exact e
/-- a fault is found at z -/
def Bd (B : Int → Int) (R : RS) (z : Int) : Prop := 0 ≤ z ∧ ((R.1 < 0 ∧ z = -1 - R.1) ∨ (R.1 = z ∧ 48 ≤ B z ∧ B z ≤ 57))
def RdF (B : Int → Int) (h' : JH) (R : RS) (r : Int) : Prop := (0 ≤ R.1 ∧ r = R.1) ∨ (r = -1 ∧ Bd B R (h'.2.2 42 20))
def RdM (B : Int → Int) (h' : JH) (m0 : Int) (R : RS) (r : Int) : Prop := (0 ≤ R.1 ∧ r = R.1 ∧ h'.2.2 42 21 = m0 + R.2.2.2) ∨ (r = -1 ∧ Bd B R (h'.2.2 42 20))
theorem RdF.ok {B : Int → Int} {h' : JH} {R : RS} {r : Int} (x : RdF B h' R r) (r0 : 0 ≤ r) : 0 ≤ R.1 ∧ R.1 = r := by
  rcases x with ⟨a, b⟩ | ⟨a, _⟩
  · exact ⟨a, b.symm⟩
  · omega
theorem RdM.ok {B : Int → Int} {h' : JH} {m0 : Int} {R : RS} {r : Int} (x : RdM B h' m0 R r) (r0 : 0 ≤ r) : 0 ≤ R.1 ∧ R.1 = r ∧ h'.2.2 42 21 = m0 + R.2.2.2 := by
  rcases x with ⟨a, b, c⟩ | ⟨a, _⟩
  · exact ⟨a, b.symm, c⟩
  · omega
theorem RdF.bd {B : Int → Int} {h' : JH} {R : RS} {r : Int} (x : RdF B h' R r) (r0 : r < 0) : Bd B R (h'.2.2 42 20) := by
  rcases x with ⟨a, b⟩ | ⟨_, b⟩
  · omega
  · exact b
theorem RdM.bd {B : Int → Int} {h' : JH} {m0 : Int} {R : RS} {r : Int} (x : RdM B h' m0 R r) (r0 : r < 0) : Bd B R (h'.2.2 42 20) := by
  rcases x with ⟨a, b, c⟩ | ⟨_, b⟩
  · omega
  · exact b
theorem Bd.F {B : Int → Int} {h' : JH} {R : RS} {z : Int} (x : Bd B R z) (e : h'.2.2 42 20 = z) : RdF B h' R (-1) := Or.inr ⟨rfl, by rw [e]; exact x⟩
theorem Bd.M {B : Int → Int} {h' : JH} {m0 : Int} {R : RS} {z : Int} (x : Bd B R z) (e : h'.2.2 42 20 = z) : RdM B h' m0 R (-1) := Or.inr ⟨rfl, by rw [e]; exact x⟩
theorem bd_rF {B : Int → Int} {R : RS} {p z : Int} (e : R = rF p) (p0 : 0 ≤ p) (hz : z = p) : Bd B R z := by
  rw [e, hz]
  exact ⟨p0, Or.inl ⟨rF_n p0, by show p = -1 - (-1 - p); omega⟩⟩
theorem bd_to {B : Int → Int} {R R' : RS} {z : Int} (e : R = R') (x : Bd B R' z) : Bd B R z := by
  rw [e]
  exact x
/-- a reader's own answer -/
theorem okF {B : Int → Int} {h' : JH} {R : RS} {r q a b c : Int} (e : R = (q, a, b, c)) (q0 : 0 ≤ q) (hr : r = q) : RdF B h' R r := by
  rw [e]
  exact Or.inl ⟨q0, hr⟩
theorem okM {B : Int → Int} {h' : JH} {R : RS} {m0 r q a b c m : Int} (e : R = (q, a, b, c)) (q0 : 0 ≤ q) (hr : r = q) (em : h'.2.2 42 21 = m) (hm : m = m0 + c) : RdM B h' m0 R r := by
  rw [e]
  exact Or.inl ⟨q0, hr, em.trans hm⟩
/-- a choice under way -/
def Cr (B : Int → Int) (f : Int → RS) (R : RS) (w a m0 md : Int) : Prop := ∃ tm dp sz, R = chL B f (4 - w).toNat a tm dp sz ∧ md = m0 + sz
theorem cr_start {B : Int → Int} {f : Int → RS} {R : RS} {a a' m0 md : Int} (e : R = chL B f 4 a 0 0 1) (ha : a' = a) (hm : md = m0 + 1) : Cr B f R 0 a' m0 md := by
  subst ha
  exact ⟨0, 0, 1, e, hm⟩
theorem cr_n {B : Int → Int} {f : Int → RS} {R : RS} {w a m0 md z : Int} (H : Cr B f R w a m0 md) (w3 : w ≤ 3) (a0 : 0 ≤ a) (h : nm2 B a < 0) (hz : z = a) : Bd B R z := by
  obtain ⟨tm, dp, sz, e, _⟩ := H
  exact bd_rF (e.trans (chL_n (by omega) h)) a0 hz
theorem cr_c {B : Int → Int} {f : Int → RS} {R : RS} {w a m0 md q z : Int} (H : Cr B f R w a m0 md) (w3 : w ≤ 3) (hn : nm2 B a = q) (q0 : 0 ≤ q) (hc : B q ≠ 58) (hz : z = q) : Bd B R z := by
  obtain ⟨tm, dp, sz, e, _⟩ := H
  exact bd_rF (e.trans (chL_c (by omega) hn q0 hc)) q0 hz
theorem cr_b {B : Int → Int} {f : Int → RS} {R : RS} {w a m0 md q z : Int} (H : Cr B f R w a m0 md) (w3 : w ≤ 3) (hn : nm2 B a = q) (q0 : 0 ≤ q) (hc : B q = 58) (x : Bd B (f (q + 1)) z) : Bd B R z := by
  obtain ⟨tm, dp, sz, e, _⟩ := H
  obtain ⟨z0, x⟩ := x
  rcases x with ⟨x1, x2⟩ | ⟨x1, x2, x3⟩
  · refine bd_to (e.trans (chL_f (by omega) hn q0 hc x1)) ⟨z0, Or.inl ⟨x1, x2⟩⟩
  · have e2 := chL_x (B := B) (f := f) (tm := tm) (dp := dp) (sz := sz) (show 0 < (4 - w).toNat by omega) hn q0 hc (by rw [x1]; exact z0) (by rw [x1]; omega) (Or.inl (by rw [x1]; omega))
    rw [x1] at e2
    exact bd_rF (e.trans e2) z0 rfl
theorem cr_k {B : Int → Int} {f : Int → RS} {R : RS} {w a m0 md q v w' a' md' : Int} (H : Cr B f R w a m0 md) (w2 : w ≤ 2) (hn : nm2 B a = q) (q0 : 0 ≤ q) (hc : B q = 58) (x : 0 ≤ (f (q + 1)).1 ∧ (f (q + 1)).1 = v) (hb : B v = 44) (hw : w' = w + 1) (ha : a' = v + 1) (hm : md' = md + (f (q + 1)).2.2.2) : Cr B f R w' a' m0 md' := by
  obtain ⟨tm, dp, sz, e, em⟩ := H
  subst hw
  subst ha
  have e2 := chL_k (B := B) (f := f) (tm := tm) (dp := dp) (sz := sz) (show 1 < (4 - w).toNat by omega) hn q0 hc x.1 (by rw [x.2]; exact hb)
  rw [x.2, show (4 - w).toNat - 1 = (4 - (w + 1)).toNat by omega] at e2
  exact ⟨_, _, _, e.trans e2, by omega⟩
theorem cr_e {B : Int → Int} {f : Int → RS} {R : RS} {w a m0 md q v r md' : Int} (H : Cr B f R w a m0 md) (w3 : w ≤ 3) (hn : nm2 B a = q) (q0 : 0 ≤ q) (hc : B q = 58) (x : 0 ≤ (f (q + 1)).1 ∧ (f (q + 1)).1 = v) (hb : B v = 41) (hr : r = v + 1) (hm : md' = md + (f (q + 1)).2.2.2) : 0 ≤ R.1 ∧ r = R.1 ∧ md' = m0 + R.2.2.2 := by
  obtain ⟨tm, dp, sz, e, em⟩ := H
  have e2 := e.trans (chL_e (B := B) (f := f) (tm := tm) (dp := dp) (sz := sz) (show 0 < (4 - w).toNat by omega) hn q0 hc x.1 (by rw [x.2]; exact hb))
  rw [e2]
  refine ⟨?_, ?_, ?_⟩
  · show 0 ≤ (f (q + 1)).1 + 1; omega
  · show r = (f (q + 1)).1 + 1; omega
  · show md' = m0 + (sz + (f (q + 1)).2.2.2); omega
theorem cr_x {B : Int → Int} {f : Int → RS} {R : RS} {w a m0 md q v z : Int} (H : Cr B f R w a m0 md) (w3 : w ≤ 3) (hn : nm2 B a = q) (q0 : 0 ≤ q) (hc : B q = 58) (x : 0 ≤ (f (q + 1)).1 ∧ (f (q + 1)).1 = v) (hb : B v ≠ 41) (hb2 : B v ≠ 44 ∨ w = 3) (hz : z = v) : Bd B R z := by
  obtain ⟨tm, dp, sz, e, em⟩ := H
  have e2 := e.trans (chL_x (B := B) (f := f) (tm := tm) (dp := dp) (sz := sz) (show 0 < (4 - w).toNat by omega) hn q0 hc x.1 (by rw [x.2]; exact hb) (by rw [x.2]; exact hb2.imp id (fun y => by omega)))
  rw [x.2] at e2
  exact bd_rF e2 (by omega) hz
/-- what turns out, under way -/
def Tq (B : Int → Int) (f : Int → RS) (RT : RS) (w y a m0 md : Int) : Prop := ∃ tm dp sz, ((w < y ∧ RT = tuL B f (y - w).toNat a tm dp sz) ∨ (w = y ∧ RT = (a, tm, dp, sz))) ∧ md = m0 + sz
theorem tq_start {B : Int → Int} {f : Int → RS} {y a a' m0 md : Int} (y1 : 0 < y) (ha : a' = a) (hm : md = m0 + 1) : Tq B f (tuL B f y.toNat a 0 0 1) 0 y a' m0 md := by
  subst ha
  exact ⟨0, 0, 1, Or.inl ⟨y1, by rw [show y - 0 = y by omega]⟩, hm⟩
theorem tq_b {B : Int → Int} {f : Int → RS} {R9 RT : RS} {x w y a m0 md z : Int} (H : Tq B f RT w y a m0 md) (e9 : R9 = tuE RT x) (wy : w < y) (b : Bd B (f a) z) : Bd B R9 z := by
  obtain ⟨tm, dp, sz, c, _⟩ := H
  obtain ⟨z0, b⟩ := b
  have e : RT = tuL B f (y - w).toNat a tm dp sz := by
    rcases c with c | c
    · exact c.2
    · omega
  have key : RT.1 = -1 - z := by
    rcases b with ⟨b1, b2⟩ | ⟨b1, b2, b3⟩
    · rw [e, tuL_f (by omega) b1]
      show (f a).1 = _
      omega
    · rw [e, tuL_x (by omega) (by rw [b1]; exact z0) (by
        rcases Int.lt_or_le (w + 1) y with q | q
        · exact Or.inl ⟨by omega, by rw [b1]; omega⟩
        · exact Or.inr ⟨by omega, by rw [b1]; omega⟩), b1]
      rfl
  refine ⟨z0, Or.inl ?_⟩
  rw [e9, tuE_n (by omega)]
  omega
theorem tq_x {B : Int → Int} {f : Int → RS} {R9 RT : RS} {x w y a m0 md v z : Int} (H : Tq B f RT w y a m0 md) (e9 : R9 = tuE RT x) (wy : w < y) (c : 0 ≤ (f a).1 ∧ (f a).1 = v) (hb : (w + 1 < y ∧ B v ≠ 44) ∨ (y ≤ w + 1 ∧ B v ≠ 41)) (hz : z = v) : Bd B R9 z := by
  obtain ⟨tm, dp, sz, d, _⟩ := H
  have e : RT = tuL B f (y - w).toNat a tm dp sz := by
    rcases d with d | d
    · exact d.2
    · omega
  have e2 := tuL_x (B := B) (f := f) (tm := tm) (dp := dp) (sz := sz) (show 0 < (y - w).toNat by omega) c.1 (by
    rw [c.2]
    rcases hb with q | q
    · exact Or.inl ⟨by omega, q.2⟩
    · exact Or.inr ⟨by omega, q.2⟩)
  rw [c.2] at e2
  refine ⟨by omega, Or.inl ?_⟩
  have e3 : RT.1 = -1 - v := by rw [e, e2]; rfl
  rw [e9, tuE_n (by omega)]
  omega
theorem tq_k {B : Int → Int} {f : Int → RS} {RT : RS} {w y a m0 md v w' a' md' : Int} (H : Tq B f RT w y a m0 md) (wy : w < y) (c : 0 ≤ (f a).1 ∧ (f a).1 = v) (hb : (w + 1 < y ∧ B v = 44) ∨ (y ≤ w + 1 ∧ B v = 41)) (hw : w' = w + 1) (ha : a' = v + 1) (hm : md' = md + (f a).2.2.2) : Tq B f RT w' y a' m0 md' := by
  obtain ⟨tm, dp, sz, d, em⟩ := H
  subst hw
  subst ha
  have e : RT = tuL B f (y - w).toNat a tm dp sz := by
    rcases d with d | d
    · exact d.2
    · omega
  rcases hb with ⟨h1, h2⟩ | ⟨h1, h2⟩
  · have e2 := tuL_k (B := B) (f := f) (tm := tm) (dp := dp) (sz := sz) (show 1 < (y - w).toNat by omega) c.1 (by rw [c.2]; exact h2)
    rw [c.2, show (y - w).toNat - 1 = (y - (w + 1)).toNat by omega] at e2
    exact ⟨_, _, _, Or.inl ⟨h1, e.trans e2⟩, by omega⟩
  · have e2 := tuL_e (B := B) (f := f) (p := a) (tm := tm) (dp := dp) (sz := sz) c.1 (by rw [c.2]; exact h2)
    rw [c.2] at e2
    rw [show (y - w).toNat = 1 by omega] at e
    exact ⟨_, _, _, Or.inr ⟨by omega, e.trans e2⟩, by omega⟩
theorem tq_e {B : Int → Int} {f : Int → RS} {R9 RT : RS} {x w y a m0 md r : Int} (H : Tq B f RT w y a m0 md) (e9 : R9 = tuE RT x) (wy : y ≤ w) (a0 : 0 ≤ a) (hr : r = a) : 0 ≤ R9.1 ∧ r = R9.1 ∧ md = m0 + R9.2.2.2 := by
  obtain ⟨tm, dp, sz, d, em⟩ := H
  have e : RT = (a, tm, dp, sz) := by
    rcases d with d | d
    · omega
    · exact d.2
  have e2 : R9 = (a, jor tm (jshl 1 x), dp, sz) := by
    rw [e9, e]
    unfold tuE
    rw [if_neg (show ¬ a < 0 by omega)]
  rw [e2]
  exact ⟨a0, hr, em⟩
theorem nocap {h : JH} {K : Int → Int × Int × Int} {q : Nat} {t o p v : Int} (q0 : 0 < q) (p0 : 0 ≤ p) (b : bR h p = v) (h1 : v ≠ 63) (h2 : v ≠ 33) (h3 : v ≠ 45) (h4 : ¬ (48 ≤ v ∧ v ≤ 57)) (h5 : v < 65 ∨ h.2.2 42 19 ≤ v - 65) : RQ h K q t o p = rF p := by
  unfold RQ
  rw [rd_s q0, b, if_neg h1, if_neg h2]
  split
  · rename_i c
    unfold cpR
    rw [if_neg (fun z => by omega)]
  · (try rw [if_neg h3])
    unfold enR nm3
    rw [b, if_neg h4, if_pos (show -1 - p < 0 by omega)]
/-- a capital's text is read once more -/
theorem cap_ok {h : JH} {K : Int → Int × Int × Int} {q : Nat} {t o p c b r : Int} {B : Int → Int} {h' : JH} (hK : KoR h K) (N4 : h.2.2 42 1 ≤ 4) (c0 : 0 ≤ c) (c1 : c < h.2.2 42 19) (eb : h.2.2 55 c.toNat = b) (b0 : 0 ≤ b) (t0 : 0 ≤ t) (t1 : t ≤ 15) (o0 : 0 ≤ o) (o1 : o ≤ 12) (hq : (q : Int) = 13 - o) : (jand (K c).1 t = 0 ∧ o + (K c).2.1 ≤ 12 → ∃ z, 0 ≤ z ∧ bR h z = 59 ∧ RQ h K q t o b = (z, K c)) ∧ (¬ (jand (K c).1 t = 0 ∧ o + (K c).2.1 ≤ 12) → (RQ h K q t o b).1 < 0) := by
  obtain ⟨z, z0, _, z59, e⟩ := hK.2 c c0 c1
  rw [eb] at e
  have kc : Kk c K := fun d d0 d1 => hK.1 d d0 (by omega)
  have m := rd_m (B := bR h) (N := h.2.2 42 1) (Y := yR h) (m' := h.2.2 42 19) (K' := K) N4 kc (by omega) (fun _ _ _ => rfl) 13 0 0 (by decide) (by decide) (by decide) (by decide) q t o hq t0 t1 o0 o1 b b0 (by rw [e]; exact z0)
  rw [e] at m
  exact ⟨fun y => ⟨z, z0, z59, m.1 y⟩, m.2⟩
theorem cap_bd {h : JH} {K : Int → Int × Int × Int} {q : Nat} {t o p c b z w : Int} (hK : KoR h K) (N4 : h.2.2 42 1 ≤ 4) (c0 : 0 ≤ c) (c1 : c < h.2.2 42 19) (eb : h.2.2 55 c.toNat = b) (b0 : 0 ≤ b) (t0 : 0 ≤ t) (t1 : t ≤ 15) (o0 : 0 ≤ o) (o1 : o ≤ 12) (hq : (q : Int) = 13 - o) (p0 : 0 ≤ p) (x : Bd (bR h) (RQ h K q t o b) z) (hw : w = p) : Bd (bR h) (cpR (h.2.2 42 19) K t o p c) w := by
  have m := cap_ok (h' := h) (B := bR h) (p := p) (r := 0) hK N4 c0 c1 eb b0 t0 t1 o0 o1 hq
  have hn : ¬ (c < h.2.2 42 19 ∧ jand (K c).1 t = 0 ∧ o + (K c).2.1 ≤ 12) := fun y => by
    obtain ⟨u, u0, u59, e⟩ := m.1 ⟨y.2.1, y.2.2⟩
    rw [e] at x
    obtain ⟨z0, x⟩ := x
    rcases x with ⟨x1, _⟩ | ⟨x1, x2, x3⟩
    · exact absurd x1 (by show ¬ u < 0; omega)
    · have x1 : u = z := x1
      rw [← x1, u59] at x3
      omega
  refine bd_rF ?_ p0 hw
  unfold cpR
  rw [if_neg hn]
theorem cap_F {h : JH} {K : Int → Int × Int × Int} {q : Nat} {t o p c b r : Int} (hK : KoR h K) (N4 : h.2.2 42 1 ≤ 4) (c0 : 0 ≤ c) (c1 : c < h.2.2 42 19) (eb : h.2.2 55 c.toNat = b) (b0 : 0 ≤ b) (t0 : 0 ≤ t) (t1 : t ≤ 15) (o0 : 0 ≤ o) (o1 : o ≤ 12) (hq : (q : Int) = 13 - o) (p0 : 0 ≤ p) (x : 0 ≤ (RQ h K q t o b).1) (hr : r = p + 1) : cpR (h.2.2 42 19) K t o p c = (r, K c) ∧ (RQ h K q t o b).2.2.2 = (K c).2.2 := by
  have m := cap_ok (h' := h) (B := bR h) (p := p) (r := 0) hK N4 c0 c1 eb b0 t0 t1 o0 o1 hq
  by_cases y : jand (K c).1 t = 0 ∧ o + (K c).2.1 ≤ 12
  · obtain ⟨u, u0, u59, e⟩ := m.1 y
    rw [e]
    unfold cpR
    rw [if_pos ⟨c1, y.1, y.2⟩, hr]
    exact ⟨rfl, rfl⟩
  · have := m.2 y
    omega
/-! a whole text -/
def TR (h : JH) (k : Nat) (m : Int) (K : Int → Int × Int × Int) (p : Int) : RS := txL (bR h) (h.2.2 42 1) (yR h) (h.2.2 42 17) k m K p
def TxR (h' : JH) (R : RS) (r : Int) : Prop := (0 ≤ R.1 ∧ 0 ≤ r ∧ h'.2.2 42 21 = R.2.2.2) ∨ (R.1 < 0 ∧ r = -1 ∧ h'.2.2 42 20 = -1 - R.1)
theorem TR_1 {h : JH} {k : Nat} {m p : Int} {K : Int → Int × Int × Int} (hk : 0 < k) (hb : bR h p = 65 + m) (h1 : bR h (p + 1) ≠ 61) : TR h k m K p = rF (p + 1) := by
  obtain ⟨n, rfl⟩ : ∃ n, k = n + 1 := ⟨k - 1, by omega⟩
  unfold TR txL
  rw [if_pos hb, if_pos h1]
theorem TR_b {h : JH} {k : Nat} {m p z : Int} {K : Int → Int × Int × Int} {Q : RS} (hk : 0 < k) (hb : bR h p = 65 + m) (h1 : bR h (p + 1) = 61) (hq : rd (bR h) (h.2.2 42 1) (yR h) m K 13 0 0 (p + 2) = Q) (x : Bd (bR h) Q z) : (TR h k m K p).1 = -1 - z := by
  obtain ⟨n, rfl⟩ : ∃ n, k = n + 1 := ⟨k - 1, by omega⟩
  unfold TR txL
  rw [if_pos hb, if_neg (fun z => z h1), hq]
  obtain ⟨z0, x⟩ := x
  rcases x with ⟨x1, x2⟩ | ⟨x1, x2, x3⟩
  · rw [if_pos x1]
    show Q.1 = _
    omega
  · rw [if_neg (by omega), x1, if_pos (by omega)]
    rfl
theorem TR_x {h : JH} {k : Nat} {m p q : Int} {K : Int → Int × Int × Int} {Q : RS} (hk : 0 < k) (hb : bR h p = 65 + m) (h1 : bR h (p + 1) = 61) (hq : rd (bR h) (h.2.2 42 1) (yR h) m K 13 0 0 (p + 2) = Q) (x : 0 ≤ Q.1 ∧ Q.1 = q) (h2 : bR h q ≠ 59) : TR h k m K p = rF q := by
  obtain ⟨n, rfl⟩ : ∃ n, k = n + 1 := ⟨k - 1, by omega⟩
  unfold TR txL
  rw [if_pos hb, if_neg (fun z => z h1), hq, if_neg (by omega), x.2, if_pos h2]
theorem TR_k {h : JH} {k : Nat} {m p q : Int} {K : Int → Int × Int × Int} {Q : RS} (hk : 0 < k) (hb : bR h p = 65 + m) (h1 : bR h (p + 1) = 61) (hq : rd (bR h) (h.2.2 42 1) (yR h) m K 13 0 0 (p + 2) = Q) (x : 0 ≤ Q.1 ∧ Q.1 = q) (h2 : bR h q = 59) : TR h k m K p = TR h (k - 1) (m + 1) (upK K m Q.2) (q + 1) := by
  obtain ⟨n, rfl⟩ : ∃ n, k = n + 1 := ⟨k - 1, by omega⟩
  rw [show n + 1 - 1 = n by omega]
  unfold TR
  conv => lhs; unfold txL
  rw [if_pos hb, if_neg (fun z => z h1), hq, if_neg (by omega), x.2, if_neg (fun z => z h2)]
theorem TR_z {h : JH} {k : Nat} {m p : Int} {K : Int → Int × Int × Int} {Q : RS} (hk : k = 0 ∨ bR h p ≠ 65 + m) (hq : rd (bR h) (h.2.2 42 1) (yR h) m K 13 0 0 p = Q) : TR h k m K p = fiR (h.2.2 42 17) Q := by
  unfold TR
  match k, hk with
  | 0, _ => show fiR _ _ = _; rw [hq]
  | n + 1, hk =>
    unfold txL
    rw [if_neg (hk.resolve_left (by omega)), hq]
theorem fiR_b {h : JH} {z n : Int} {Q : RS} (en : h.2.2 42 17 = n) (x : Bd (bR h) Q z) : (fiR n Q).1 = -1 - z := by
  obtain ⟨z0, x⟩ := x
  unfold fiR
  rcases x with ⟨x1, x2⟩ | ⟨x1, x2, x3⟩
  · rw [if_pos x1]
    omega
  · have zn : z < n := Int.not_le.mp (fun y => by
      rw [bR_end en y] at x2
      omega)
    rw [if_neg (by omega), if_pos (by omega), x1]
    rfl
theorem fiR_x {n q : Int} {Q : RS} (x : 0 ≤ Q.1 ∧ Q.1 = q) (h : q < n) : fiR n Q = rF q := by
  unfold fiR
  rw [if_neg (by omega), if_pos (by omega), x.2]
theorem fiR_e {n q : Int} {Q : RS} (x : 0 ≤ Q.1 ∧ Q.1 = q) (h : n ≤ q) : fiR n Q = Q := by
  unfold fiR
  rw [if_neg (by omega), if_neg (by omega)]
theorem TxR.bad {h' : JH} {R : RS} {z : Int} (e : R.1 = -1 - z) (z0 : 0 ≤ z) (hf : h'.2.2 42 20 = z) : TxR h' R (-1) := Or.inr ⟨by omega, rfl, by omega⟩
theorem TxR.good {h' : JH} {R Q : RS} {r : Int} (e : R = Q) (q0 : 0 ≤ Q.1) (hr : 0 ≤ r) (hm : h'.2.2 42 21 = Q.2.2.2) : TxR h' R r := by
  rw [e]
  exact Or.inl ⟨q0, hr, hm⟩
theorem KoR.zero {h : JH} {K : Int → Int × Int × Int} (e : h.2.2 42 19 = 0) : KoR h K := ⟨fun c c0 c1 => by omega, fun c c0 c1 => by omega⟩
/-- what a capital tells joins the table -/
theorem KoR.next {W : List (Nat × Nat)} {h h1 h2 h3 : JH} {K : Int → Int × Int × Int} {c p z c' : Int} {Q : RS} (x : KoR h K) (k : Kp W h h1) (c54 : ∀ j, inW W 54 j = false) (c17 : inW W 42 17 = false) (c43 : ∀ j, inW W 43 j = false) (c1 : inW W 42 1 = false) (c19 : inW W 42 19 = false) (c55 : ∀ j, inW W 55 j = false) (N4 : h.2.2 42 1 ≤ 4) (ec : h.2.2 42 19 = c) (c0 : 0 ≤ c) (p0 : 0 ≤ p) (hQ : rd (bR h) (h.2.2 42 1) (yR h) c K 13 0 0 p = Q) (e : 0 ≤ Q.1 ∧ Q.1 = z) (hz : bR h z = 59) (e1 : h2 = jwr h1 55 c.toNat p) (e2 : h3 = jwr h2 42 19 c') (hc : c' = c + 1) : KoR h3 (upK K c Q.2) := by
  have x' := x.kp k c54 c17 c43 c1 c19 c55
  have b0 : bR h1 = bR h := bR_kp k c54 c17
  have y0 : yR h1 = yR h := yR_kp k c43 c1
  have f : ∀ a j, a ≠ 55 → (a ≠ 42 ∨ j ≠ 19) → h3.2.2 a j = h1.2.2 a j := fun a j h5 h4 => (jw_ne e2 (by omega)).trans (jw_ne e1 (Or.inl h5))
  have b3 : bR h3 = bR h := by
    rw [← b0]
    funext q
    unfold bR
    rw [f 54 _ (by decide) (Or.inl (by decide)), f 42 17 (by decide) (Or.inr (by decide))]
  have y3 : yR h3 = yR h := by
    rw [← y0]
    funext q
    unfold yR
    rw [f 43 _ (by decide) (Or.inl (by decide)), f 42 1 (by decide) (Or.inr (by decide))]
  have n3 : h3.2.2 42 1 = h.2.2 42 1 := (f 42 1 (by decide) (Or.inr (by decide))).trans (k.v c1)
  have c3 : h3.2.2 42 19 = c + 1 := (jw_eq e2).trans hc
  have kc : Kk c K := by rw [← ec]; exact x.1
  have gQ := rd_g (B := bR h) (N := h.2.2 42 1) (Y := yR h) N4 kc 13 0 0 (by decide) (by decide) (by decide) (by decide) p p0 (by rw [hQ]; exact e.1)
  rw [hQ] at gQ
  unfold KoR
  rw [b3, y3, n3, c3]
  refine ⟨fun d d0 d1 => ?_, fun d d0 d1 => ?_⟩
  · unfold upK
    split
    · exact ⟨gQ.2.1, gQ.2.2.1, gQ.2.2.2.2.1, gQ.2.2.2.2.2.2, by have := gQ.2.2.2.2.2.1; omega⟩
    · exact kc d d0 (by omega)
  · have ud : ∀ i, 0 ≤ i → i < c → upK K c Q.2 i = K i := fun i i0 i1 => by
      unfold upK
      rw [if_neg (by omega)]
    rcases Decidable.em (d = c) with zz | zz
    · subst zz
      have e55 : h3.2.2 55 d.toNat = p := (jw_ne e2 (Or.inl (by decide))).trans (jw_eq e1)
      have m := rd_m (B := bR h) (N := h.2.2 42 1) (Y := yR h) (m' := d) (K' := upK K d Q.2) N4 kc (Int.le_refl _) ud 13 0 0 (by decide) (by decide) (by decide) (by decide) 13 0 0 (by decide) (by decide) (by decide) (by decide) (by decide) p p0 (by rw [hQ]; exact e.1)
      rw [hQ] at m
      refine ⟨z, by omega, by omega, hz, ?_⟩
      rw [e55, m.1 ⟨gQ.2.2.2.1, gQ.2.2.2.2.2.1⟩]
      have u : upK K d Q.2 d = Q.2 := by
        unfold upK
        rw [if_pos rfl]
      rw [u]
      exact Prod.ext e.2 rfl
    · obtain ⟨w, w0, p1, w59, e5⟩ := x.2 d d0 (by omega)
      have e55 : h3.2.2 55 d.toNat = h.2.2 55 d.toNat := (jw_ne e2 (Or.inl (by decide))).trans ((jw_ne e1 (Or.inr (by omega))).trans (k.v (c55 _)))
      have kd : Kk d K := fun i i0 i1 => kc i i0 (by omega)
      have m := rd_m (B := bR h) (N := h.2.2 42 1) (Y := yR h) (m' := d) (K' := upK K c Q.2) N4 kd (Int.le_refl _) (fun i i0 i1 => ud i i0 (by omega)) 13 0 0 (by decide) (by decide) (by decide) (by decide) 13 0 0 (by decide) (by decide) (by decide) (by decide) (by decide) (h.2.2 55 d.toNat) p1 (by rw [e5]; exact w0)
      rw [e5] at m
      have g5 := rd_g (B := bR h) (N := h.2.2 42 1) (Y := yR h) N4 kd 13 0 0 (by decide) (by decide) (by decide) (by decide) (h.2.2 55 d.toNat) p1 (by rw [e5]; exact w0)
      rw [e5] at g5
      refine ⟨w, w0, by omega, w59, ?_⟩
      rw [e55, m.1 ⟨g5.2.2.2.1, g5.2.2.2.2.2.1⟩, ud d d0 (by omega)]
theorem TR_kp {W : List (Nat × Nat)} {h h1 : JH} (k : Kp W h h1) (c54 : ∀ j, inW W 54 j = false) (c17 : inW W 42 17 = false) (c43 : ∀ j, inW W 43 j = false) (c1 : inW W 42 1 = false) : TR h1 = TR h := by
  funext n m K p
  unfold TR
  rw [bR_kp k c54 c17, yR_kp k c43 c1, k.v c1, k.v c17]
theorem TC_kp {W : List (Nat × Nat)} {h h1 : JH} (k : Kp W h h1) (c8 : ∀ j, inW W 8 j = false) (c7 : inW W 7 0 = false) (c2 : ∀ j, inW W 2 j = false) (c1 : inW W 1 0 = false) : TC h1 = TC h := by
  funext n m K p
  unfold TC
  rw [bC_kp k c8 c7, yC_kp k c2 c1, k.v c1, k.v c7]
/-- a quarrel's answer; how many there are behind it -/
def qzA (n : Int) (R : RS) : Int := if n = 6 then -3 else if R.1 < 0 then w32 (-100 - (-1 - R.1)) else if 100 < R.2.2.2 then -3 else n
def qzN (n : Int) (R : RS) : Int := if n = 6 then n else if R.1 < 0 then n else if 100 < R.2.2.2 then n else n + 1
/-- both sides' tapes and things -/
def Rt (h : JH) : Prop := h.2.2 7 0 = h.2.2 42 17 ∧ (∀ j : Nat, (j : Int) < h.2.2 7 0 → h.2.2 8 j = h.2.2 54 j) ∧ h.2.2 1 0 = h.2.2 42 1 ∧ (∀ j : Nat, (j : Int) < h.2.2 1 0 → h.2.2 2 j = h.2.2 43 j) ∧ h.2.2 0 3 = h.2.2 42 9
def Ct : List (Nat × Nat) := [(7, 1), (8, 0), (1, 1), (2, 0), (0, 4), (42, 18), (54, 0), (42, 2), (43, 0), (42, 10)]
theorem Rt.fr {h h' : JH} (x : Rt h) (e : ∀ a i, inW Ct a i = true → h'.2.2 a i = h.2.2 a i) : Rt h' := by
  obtain ⟨x1, x2, x3, x4, x5⟩ := x
  refine ⟨by rw [e 7 0 rfl, e 42 17 rfl]; exact x1, fun j hj => ?_, by rw [e 1 0 rfl, e 42 1 rfl]; exact x3, fun j hj => ?_, by rw [e 0 3 rfl, e 42 9 rfl]; exact x5⟩
  · rw [e 7 0 rfl] at hj
    rw [e 8 _ rfl, e 54 _ rfl]
    exact x2 j hj
  · rw [e 1 0 rfl] at hj
    rw [e 2 _ rfl, e 43 _ rfl]
    exact x4 j hj
theorem Rt.tc {h : JH} (x : Rt h) : TC h = TR h := by
  obtain ⟨x1, x2, x3, x4, _⟩ := x
  have b : bC h = bR h := by
    funext p
    unfold bC bR
    rw [x1]
    split
    · exact x2 p.toNat (by omega)
    · rfl
  have y : yC h = yR h := by
    funext p
    unfold yC yR
    rw [x3]
    split
    · exact x4 p.toNat (by omega)
    · rfl
  funext n m K p
  unfold TC TR
  rw [b, y, x3, x1]
/-- a thing comes -/
def TV (a n q : Int) : Prop := 2 ≤ a ∧ a ≤ 3 ∧ q ≤ 0 ∧ n ≠ 4
def thA (a n q : Int) : Int := if ¬ (2 ≤ a ∧ a ≤ 3) then -1 else if 0 < q then -5 else if n = 4 then -3 else n
def ThE (h h' : JH) (c : Nat) (a n q : Int) : Prop := (TV a n q ∧ Up h h' c n a) ∨ (¬ TV a n q ∧ Sm h h' c)
def thN (a n q : Int) : Int := if 2 ≤ a ∧ a ≤ 3 ∧ q ≤ 0 ∧ n ≠ 4 then n + 1 else n
/-- bytes come -/
def by8 (v i : Int) : Int := w8 (jshr v (w32 (8 * i)))
def Fb (h h' : JH) (c : Nat) (s k v : Int) : Prop := ∀ j : Nat, h'.2.2 c j = if s ≤ (j : Int) ∧ (j : Int) < s + k then by8 v ((j : Int) - s) else h.2.2 c j
theorem Fb.start {h : JH} {c : Nat} {s k v : Int} (hk : k = 0) : Fb h h c s k v := fun j => by rw [if_neg (by omega)]
theorem Fb.add {h h1 h2 : JH} {c : Nat} {s k v i w k' : Int} (x : Fb h h1 c s k v) (s0 : 0 ≤ s) (k0 : 0 ≤ k) (hi : i = s + k) (e : h2 = jwr h1 c i.toNat w) (hw : w = by8 v k) (hk : k' = k + 1) : Fb h h2 c s k' v := fun j => by
  rcases Decidable.em (j = i.toNat) with z | z
  · rw [z, jw_eq e, if_pos (by omega), hw, show ((i.toNat : Nat) : Int) - s = k by omega]
  · rw [jw_ne e (Or.inr z), x j]
    by_cases q : s ≤ (j : Int) ∧ (j : Int) < s + k
    · rw [if_pos q, if_pos (by omega)]
    · rw [if_neg q, if_neg (by omega)]
theorem Fb.wn {h h1 h2 : JH} {c a i : Nat} {s k v w : Int} (x : Fb h h1 c s k v) (e : h2 = jwr h1 a i w) (ha : c ≠ a) : Fb h h2 c s k v := fun j => (jw_ne e (Or.inl ha)).trans (x j)
theorem Fb.sm {h h1 h2 : JH} {c : Nat} {s k v : Int} (x : Fb h h1 c s k v) (y : ∀ j, h2.2.2 c j = h1.2.2 c j) : Fb h h2 c s k v := fun j => (y j).trans (x j)
def feA (n s : Int) : Int := if ¬ (1 ≤ n ∧ n ≤ 4) then -1 else if 200 < s + n then -3 else s + n
def feK (n s : Int) : Int := if 1 ≤ n ∧ n ≤ 4 ∧ s + n ≤ 200 then n else 0
theorem by8_of {v i x y : Int} (e1 : jshr v (8 * i) = x) (e2 : w8 x = y) (i0 : 0 ≤ i) (i4 : i ≤ 4) : y = by8 v i := by
  unfold by8
  rw [show w32 (8 * i) = 8 * i by unfold w32; omega, e1, e2]
theorem Rt.feed {h h1 h2 : JH} {s k v : Int} (x : Rt h) (k1 : Kp [(7, 1), (8, 0)] h h1) (k2 : Kp [(42, 18), (54, 0)] h1 h2) (es : h.2.2 7 0 = s) (e1 : h1.2.2 7 0 = s + k) (e2 : h2.2.2 42 17 = s + k) (f1 : Fb h h1 8 s k v) (f2 : Fb h1 h2 54 s k v) : Rt h2 := by
  obtain ⟨x1, x2, x3, x4, x5⟩ := x
  have f : ∀ a j, inW [(7, 1), (8, 0)] a j = false → inW [(42, 18), (54, 0)] a j = false → h2.2.2 a j = h.2.2 a j := fun a j q1 q2 => (k2.v q2).trans (k1.v q1)
  refine ⟨by rw [k2.v rfl, e1, e2], fun j hj => ?_, by rw [f 1 0 rfl rfl, f 42 1 rfl rfl]; exact x3, fun j hj => ?_, by rw [f 0 3 rfl rfl, f 42 9 rfl rfl]; exact x5⟩
  · rw [k2.v rfl, e1] at hj
    have a8 : h2.2.2 8 j = h1.2.2 8 j := k2.v rfl
    have a54 : h1.2.2 54 j = h.2.2 54 j := k1.v rfl
    rw [a8, f1 j, f2 j, a54]
    split
    · rfl
    · exact x2 j (by omega)
  · rw [f 1 0 rfl rfl] at hj
    rw [f 2 j rfl rfl, f 43 j rfl rfl]
    exact x4 j hj
theorem Rt.thing {W1 W2 : List (Nat × Nat)} {h h1 h2 : JH} {a n q : Int} (x : Rt h) (k1 : Kp W1 h h1) (k2 : Kp W2 h1 h2) (d1 : ∀ c j, inW [(7, 1), (8, 0), (0, 4), (42, 18), (54, 0), (42, 2), (43, 0), (42, 10)] c j = true → inW W1 c j = false) (d2 : ∀ c j, inW [(7, 1), (8, 0), (1, 1), (2, 0), (0, 4), (42, 18), (54, 0), (42, 10)] c j = true → inW W2 c j = false) (en : h.2.2 1 0 = n) (n0 : 0 ≤ n) (c1 : h1.2.2 1 0 = thN a n q) (c2 : h2.2.2 42 1 = thN a n q) (f1 : ThE h h1 2 a n q) (f2 : ThE h1 h2 43 a n q) : Rt h2 := by
  obtain ⟨x1, x2, x3, x4, x5⟩ := x
  have e70 : h2.2.2 7 0 = h.2.2 7 0 := (k2.v (d2 7 0 rfl)).trans (k1.v (d1 7 0 rfl))
  have e17 : h2.2.2 42 17 = h.2.2 42 17 := (k2.v (d2 42 17 rfl)).trans (k1.v (d1 42 17 rfl))
  refine ⟨by rw [e70, e17]; exact x1, fun j hj => ?_, by rw [k2.v (d2 1 0 rfl), c1, c2], fun j hj => ?_, by rw [k2.v (d2 0 3 rfl), k1.v (d1 0 3 rfl), k2.v (d2 42 9 rfl), k1.v (d1 42 9 rfl)]; exact x5⟩
  · rw [e70] at hj
    rw [k2.v (d2 8 j rfl), k1.v (d1 8 j rfl), k2.v (d2 54 j rfl), k1.v (d1 54 j rfl)]
    exact x2 j hj
  · rw [k2.v (d2 1 0 rfl), c1] at hj
    rw [k2.v (d2 2 j rfl)]
    have e43 : h1.2.2 43 j = h.2.2 43 j := k1.v (d1 43 j rfl)
    unfold thN at hj
    rcases f1 with ⟨t1, u1⟩ | ⟨n1, u1⟩
    · rcases f2 with ⟨_, u2⟩ | ⟨n2, _⟩
      · rcases Decidable.em (j = n.toNat) with z | z
        · rw [z, u1.1, u2.1]
        · unfold TV at t1
          rw [if_pos t1] at hj
          rw [u1.2 j z, u2.2 j z, e43]
          exact x4 j (by omega)
      · exact absurd t1 n2
    · rcases f2 with ⟨t2, _⟩ | ⟨_, u2⟩
      · exact absurd t2 n1
      · unfold TV at n1
        rw [if_neg n1] at hj
        rw [u1 j, u2 j, e43]
        exact x4 j (by omega)
/-- a quarrel is read on both sides -/
theorem Rt.quarrel {W1 W2 : List (Nat × Nat)} {h h1 h2 : JH} {n s : Int} (x : Rt h) (h83 : 83 ≤ h.1) (k1 : Kx W1 h h1) (k2 : Kp W2 h1 h2) (d1 : ∀ c j, inW [(8, 0), (1, 1), (2, 0), (42, 18), (54, 0), (42, 2), (43, 0), (42, 10)] c j = true → inW W1 c j = false) (d2 : ∀ c j, inW [(7, 1), (8, 0), (1, 1), (2, 0), (0, 4), (54, 0), (42, 2), (43, 0)] c j = true → inW W2 c j = false) (es : h.2.2 7 0 = s) (en : h.2.2 0 3 = n) (e1 : h1.2.2 7 0 = if n = 6 then 0 + s else 0) (e2 : h2.2.2 42 17 = if n = 6 then 0 + s else 0) (s0 : 0 ≤ s) (c1 : h1.2.2 0 3 = qzN n (TC h 6 0 K00 0)) (c2 : h2.2.2 42 9 = qzN n (TR h1 6 0 K00 0)) : TC h = TR h1 ∧ Rt h2 := by
  have f1 : ∀ c j, c < 83 → inW W1 c j = false → h1.2.2 c j = h.2.2 c j := fun c j c1 c2 => k1.2.2 c j (by omega) c2
  have tc := x.tc
  obtain ⟨x1, x2, x3, x4, x5⟩ := x
  have a54 : ∀ j, h1.2.2 54 j = h.2.2 54 j := fun j => f1 54 j (by decide) (d1 54 j rfl)
  have a43 : ∀ j, h1.2.2 43 j = h.2.2 43 j := fun j => f1 43 j (by decide) (d1 43 j rfl)
  have a17 : h1.2.2 42 17 = h.2.2 42 17 := f1 42 17 (by decide) (d1 42 17 rfl)
  have a1 : h1.2.2 42 1 = h.2.2 42 1 := f1 42 1 (by decide) (d1 42 1 rfl)
  have tr : TR h1 = TR h := by
    have b : bR h1 = bR h := by
      funext p
      unfold bR
      rw [a54, a17]
    have y : yR h1 = yR h := by
      funext p
      unfold yR
      rw [a43, a1]
    funext k m K p
    unfold TR
    rw [b, y, a1, a17]
  refine ⟨tc.trans tr.symm, by rw [k2.v (d2 7 0 rfl), e1, e2], fun j hj => ?_, by rw [k2.v (d2 1 0 rfl), f1 1 0 (by decide) (d1 1 0 rfl), k2.v (d2 42 1 rfl), a1]; exact x3, fun j hj => ?_, by rw [k2.v (d2 0 3 rfl), c1, c2, tr, tc]⟩
  · rw [k2.v (d2 7 0 rfl), e1] at hj
    rw [k2.v (d2 8 j rfl), f1 8 j (by decide) (d1 8 j rfl), k2.v (d2 54 j rfl), a54]
    refine x2 j ?_
    split at hj <;> omega
  · rw [k2.v (d2 1 0 rfl), f1 1 0 (by decide) (d1 1 0 rfl)] at hj
    rw [k2.v (d2 2 j rfl), f1 2 j (by decide) (d1 2 j rfl), k2.v (d2 43 j rfl), a43]
    exact x4 j hj
/-- what hangs on what -/
def Rh (h : JH) : Prop := (∀ j : Nat, (j : Int) < h.2.2 1 0 → h.2.2 3 j = h.2.2 44 j) ∧ ∀ j : Nat, h.2.2 1 0 ≤ (j : Int) → j < 4 → h.2.2 44 j = -1
def Rl (h : JH) : Prop := Rt h ∧ Rh h
def Cc : List (Nat × Nat) := Ct ++ [(3, 0), (44, 0)]
theorem Cc_l {a i : Nat} (h : inW Ct a i = true) : inW Cc a i = true := by
  unfold Cc
  unfold inW at h ⊢
  rw [List.any_append, h, Bool.true_or]
theorem Rl.fr {h h' : JH} (x : Rl h) (e : ∀ a i, inW Cc a i = true → h'.2.2 a i = h.2.2 a i) : Rl h' := by
  refine ⟨x.1.fr (fun a i c => e a i (Cc_l c)), fun j hj => ?_, fun j hj j4 => ?_⟩
  · rw [e 1 0 rfl] at hj
    rw [e 3 _ rfl, e 44 _ rfl]
    exact x.2.1 j hj
  · rw [e 1 0 rfl] at hj
    rw [e 44 _ rfl]
    exact x.2.2 j hj j4
theorem Rh.fr {h h' : JH} (x : Rh h) (e1 : h'.2.2 1 0 = h.2.2 1 0) (e3 : ∀ j, h'.2.2 3 j = h.2.2 3 j) (e44 : ∀ j, h'.2.2 44 j = h.2.2 44 j) : Rh h' := by
  refine ⟨fun j hj => ?_, fun j hj j4 => ?_⟩
  · rw [e1] at hj
    rw [e3, e44]
    exact x.1 j hj
  · rw [e1] at hj
    rw [e44]
    exact x.2 j hj j4
def OnE (h h' : JH) (a n q : Int) : Prop := (TV a n q ∧ Up h h' 3 n (-1)) ∨ (¬ TV a n q ∧ Sm h h' 3)
theorem Rh.thing {h h1 h2 : JH} {a n q : Int} (x : Rh h) (en : h.2.2 1 0 = n) (n0 : 0 ≤ n) (n4 : n ≤ 4) (e1 : h2.2.2 1 0 = thN a n q) (e3 : ∀ j, h2.2.2 3 j = h1.2.2 3 j) (e44 : ∀ j, h2.2.2 44 j = h.2.2 44 j) (f : OnE h h1 a n q) : Rh h2 := by
  unfold thN at e1
  rcases f with ⟨t, u⟩ | ⟨t, u⟩
  · unfold TV at t
    rw [if_pos t] at e1
    refine ⟨fun j hj => ?_, fun j hj j4 => ?_⟩
    · rw [e3, e44]
      rcases Decidable.em (j = n.toNat) with z | z
      · rw [z, u.1]
        exact (x.2 n.toNat (by omega) (by omega)).symm
      · rw [u.2 j z]
        exact x.1 j (by omega)
    · rw [e44]
      exact x.2 j (by omega) j4
  · unfold TV at t
    rw [if_neg t] at e1
    refine ⟨fun j hj => ?_, fun j hj j4 => ?_⟩
    · rw [e3, e44, u j]
      exact x.1 j (by omega)
    · rw [e44]
      exact x.2 j (by omega) j4
def HV (t o n q v : Int) : Prop := 0 ≤ t ∧ t < n ∧ 0 ≤ o ∧ o < t ∧ v < 0 ∧ q ≤ 0
def hgA (t o n q v : Int) : Int := if ¬ (0 ≤ t ∧ t < n ∧ 0 ≤ o ∧ o < t) then -1 else if 0 ≤ v ∨ 0 < q then -5 else 1
def HaE (h h' : JH) (c : Nat) (t o n q : Int) (r : Int) : Prop := r = hgA t o n q (h.2.2 c t.toNat) ∧ ((HV t o n q (h.2.2 c t.toNat) ∧ Up h h' c t o) ∨ (¬ HV t o n q (h.2.2 c t.toNat) ∧ Sm h h' c))
theorem Rh.hang {h h1 h2 : JH} {t o n q r1 r2 : Int} (x : Rh h) (en : h.2.2 1 0 = n) (e1 : h2.2.2 1 0 = n) (a44 : ∀ j, h1.2.2 44 j = h.2.2 44 j) (a3 : ∀ j, h2.2.2 3 j = h1.2.2 3 j) (f1 : HaE h h1 3 t o n q r1) (f2 : HaE h1 h2 44 t o n q r2) : r1 = r2 ∧ Rh h2 := by
  unfold HaE at f1 f2
  rw [a44] at f2
  have key : (0 ≤ t ∧ t < n) → h.2.2 44 t.toNat = h.2.2 3 t.toNat := fun z => (x.1 t.toNat (by omega)).symm
  have hv : HV t o n q (h.2.2 44 t.toNat) ↔ HV t o n q (h.2.2 3 t.toNat) := by
    by_cases z : 0 ≤ t ∧ t < n
    · rw [key z]
    · unfold HV
      exact ⟨fun w => absurd ⟨w.1, w.2.1⟩ z, fun w => absurd ⟨w.1, w.2.1⟩ z⟩
  have ha : hgA t o n q (h.2.2 44 t.toNat) = hgA t o n q (h.2.2 3 t.toNat) := by
    by_cases z : 0 ≤ t ∧ t < n
    · rw [key z]
    · unfold hgA
      rw [if_pos (fun w => z ⟨w.1, w.2.1⟩), if_pos (fun w => z ⟨w.1, w.2.1⟩)]
  rw [hv, ha] at f2
  refine ⟨f1.1.trans f2.1.symm, ?_⟩
  rcases f1.2 with ⟨t1, u1⟩ | ⟨n1, u1⟩
  · rcases f2.2 with ⟨_, u2⟩ | ⟨n2, _⟩
    · unfold HV at t1
      refine ⟨fun j hj => ?_, fun j hj j4 => ?_⟩
      · rw [a3]
        rcases Decidable.em (j = t.toNat) with z | z
        · rw [z, u1.1, u2.1]
        · rw [u1.2 j z, u2.2 j z, a44]
          exact x.1 j (by omega)
      · rw [u2.2 j (by omega), a44]
        exact x.2 j (by omega) j4
    · exact absurd t1 n2
  · rcases f2.2 with ⟨t2, _⟩ | ⟨_, u2⟩
    · exact absurd t2 n1
    · exact x.fr (by omega) (fun j => (a3 j).trans (u1 j)) (fun j => (u2 j).trans (a44 j))
theorem Rl.kp {W : List (Nat × Nat)} {h h' : JH} (x : Rl h) (k : Kp W h h') (hd : dsj Cc W = true) : Rl h' := x.fr (fun a i hc => k.v (dsj_at hd hc).2)
theorem Rl.kx {W : List (Nat × Nat)} {h h' : JH} (x : Rl h) (k : Kx W h h') (hd : dsj Cc W = true) (h83 : 83 ≤ h.1) : Rl h' := x.fr (fun a i hc => k.2.2 a i (Nat.lt_of_lt_of_le (dsj_at hd hc).1 h83) (dsj_at hd hc).2)
set_option maxHeartbeats 4000000 in
theorem t76_2 {G : GH} {h : JH} (g : Gd G h) {w0 : Int} (ew0 : h.2.2 7 0 = w0) (lw0 : 0 ≤ w0) (uw0 : w0 ≤ 200) {w1 : Int} (ew1 : h.2.2 7 2 = w1) (lw1 : 0 ≤ w1) (uw1 : w1 ≤ 200) (ew2 : h.2.2 7 1 = (-1)) : jOk 3 0 0 76 [(2, 7), (0, 2)] h (fun v h' => ∃ r : Int, v = some (0, r) ∧ Gd G h' ∧ Kp [(7, 2), (7, 3)] h h' ∧ (-2147483648) ≤ r ∧ r ≤ 2147483647 ∧ ((h'.2.2 7 1 = -1 ∧ h'.2.2 7 2 = nm2 (bC h) w1) ∨ (nm2 (bC h) w1 = -1 - w1 ∧ h'.2.2 7 1 = w1))) := by
  refine ⟨by decide, by rw [ml76]; exact Nat.le_of_ble_eq_true rfl, ?_⟩
  rw [ml76, pp76]
  show jEv _ none _ c76_0 0 0 _ (c76_0, [(2, 7), (0, 2), (9, 0), (9, 0)], [], h, 0, 0)
  have k0 := Kp.rf [(7, 2), (7, 3)] h
  refine ev_iconst ?_
  refine ev_istore_n (L' := [(2, 7), (0, 2), (0, 0), (9, 0)]) (Nat.le_of_ble_eq_true rfl) rfl ?_
  refine ev_aload_n rfl ?_
  refine ev_in (d := 1) (a := 0) (b := 0) (cd' := c69_0) (m := 1) (L0 := [(2, 7)]) (jcall_v (A := []) (S' := []) (r := 7) rfl (g.lt ad7) (g.tg ad7) (Nat.le_of_ble_eq_true rfl)) (by decide) ml69 pp69 (Nat.le_of_ble_eq_true rfl) rfl (by decide) (by decide) ?_
  refine ev_aload_n rfl ?_
  refine ev_in (d := 0) (a := 0) (b := 0) (cd' := c68_0) (m := 1) (L0 := [(2, 7)]) (jcall_v (A := []) (S' := []) (r := 7) rfl (g.lt ad7) (g.tg ad7) (Nat.le_of_ble_eq_true rfl)) (by decide) ml68 pp68 (Nat.le_of_ble_eq_true rfl) rfl (by decide) (by decide) ?_
  refine ev_aload_n rfl ?_
  refine g_getv (r := 7) (v := w1) g ad7 (by decide) ft5_2 (ew1) ?_
  refine ev_aload_n rfl ?_
  refine g_getv (r := 7) (v := w0) g ad7 (by decide) ft5_0 (ew0) ?_
  refine ev_icmpge f68_27 (fun c75210 => ?_) (fun c75210 => ?_)
  · refine ev_iconst ?_
    refine ev_ret rfl (by decide) (by decide) ?_
    show jEv _ _ _ _ _ _ _ (_, [(2, 7)], [(0, (-1))], _, _, _)
    refine ev_bipush ?_
    refine ev_icmplt f69_22 (fun c75211 => ?_) (fun c75211 => absurd c75211 (by omega))
    refine ev_iconst ?_
    refine ev_ret rfl (by decide) (by decide) ?_
    show jEv _ _ _ _ _ _ _ (_, [(2, 7), (0, 2), (0, 0), (9, 0)], [(0, 0)], _, _, _)
    refine ev_ifne f76_13 (fun c75212 => absurd c75212 (by omega)) (fun c75212 => ?_)
    refine ev_aload_n rfl ?_
    refine ev_in (d := 1) (a := 0) (b := 0) (cd' := c70_0) (m := 1) (L0 := [(2, 7)]) (jcall_v (A := []) (S' := []) (r := 7) rfl (g.lt ad7) (g.tg ad7) (Nat.le_of_ble_eq_true rfl)) (by decide) ml70 pp70 (Nat.le_of_ble_eq_true rfl) rfl (by decide) (by decide) ?_
    refine ev_aload_n rfl ?_
    refine g_getv (r := 7) (v := (-1)) g ad7 (by decide) ft5_1 (ew2) ?_
    refine ev_ifge f70_15 (fun c75213 => absurd c75213 (by omega)) (fun c75213 => ?_)
    refine ev_aload_n rfl ?_
    refine ev_aload_n rfl ?_
    refine g_getv (r := 7) (v := w1) g ad7 (by decide) ft5_2 (ew1) ?_
    refine g_putf (r := 7) g ad7 (by decide) ft5_1 (by decide) (fun e => absurd e nz5_1) rf7_1 (by decide) (by omega) (by omega) (fun h75214 e75214 g75214 => ?_)
    have k75214 := k0.wr e75214 rfl
    refine ev_ret rfl (by decide) (by decide) ?_
    show jEv _ _ _ _ _ _ _ (_, [(2, 7), (0, 2), (0, 0), (9, 0)], [], _, _, _)
    refine ev_iconst ?_
    refine ev_istore_n (L' := [(2, 7), (0, 2), (0, 0), (0, 0)]) (Nat.le_of_ble_eq_true rfl) rfl ?_
    refine ev_iload_n rfl ?_
    refine ev_iload_n rfl ?_
    refine ev_icmpge f76_63 (fun c75215 => absurd c75215 (by omega)) (fun c75215 => ?_)
    refine ev_aload_n rfl ?_
    refine g_getv (r := 7) (v := w1) g75214 ad7 (by decide) ft5_1 ((jw_eq e75214)) ?_
    refine ev_ifge f76_63 (fun c75216 => ?_) (fun c75216 => absurd c75216 (by omega))
    refine ev_iload_n rfl ?_
    exact ev_ret rfl (by decide) (by decide) ⟨_, rfl, g75214, k75214, by omega, by omega, Or.inr ⟨(show nm2 (bC h) w1 = -1 - w1 by unfold nm2; rw [(bC_end (p := w1) ew0 (by omega))]; (repeat' split) <;> omega), (((jw_eq e75214))).trans (by omega)⟩⟩
  · refine ev_aload_n rfl ?_
    refine g_getp (r := 7) (c := 8) g ad7 (by decide) (by decide) rf7_5 ft5_5 ?_
    refine ev_aload_n rfl ?_
    refine g_getv (r := 7) (v := w1) g ad7 (by decide) ft5_2 (ew1) ?_
    refine g_bald g ad8 rt8 (by omega) (by omega) (fun v75217 ev75217 lv75217 uv75217 => ?_)
    refine ev_sipush ?_
    refine g_iandB (b := 255) (by omega) (by omega) (by decide) (fun v75218 ev75218 lv75218 uv75218 => ?_)
    have zv75218 := sgn ev75218 (by omega) (by omega)
    refine ev_goto f68_28 ?_
    refine ev_ret rfl (by decide) (by decide) ?_
    show jEv _ _ _ _ _ _ _ (_, [(2, 7)], [(0, v75218)], _, _, _)
    refine ev_bipush ?_
    refine ev_icmplt f69_22 (fun c75219 => ?_) (fun c75219 => ?_)
    · refine ev_iconst ?_
      refine ev_ret rfl (by decide) (by decide) ?_
      show jEv _ _ _ _ _ _ _ (_, [(2, 7), (0, 2), (0, 0), (9, 0)], [(0, 0)], _, _, _)
      refine ev_ifne f76_13 (fun c75220 => absurd c75220 (by omega)) (fun c75220 => ?_)
      refine ev_aload_n rfl ?_
      refine ev_in (d := 1) (a := 0) (b := 0) (cd' := c70_0) (m := 1) (L0 := [(2, 7)]) (jcall_v (A := []) (S' := []) (r := 7) rfl (g.lt ad7) (g.tg ad7) (Nat.le_of_ble_eq_true rfl)) (by decide) ml70 pp70 (Nat.le_of_ble_eq_true rfl) rfl (by decide) (by decide) ?_
      refine ev_aload_n rfl ?_
      refine g_getv (r := 7) (v := (-1)) g ad7 (by decide) ft5_1 (ew2) ?_
      refine ev_ifge f70_15 (fun c75221 => absurd c75221 (by omega)) (fun c75221 => ?_)
      refine ev_aload_n rfl ?_
      refine ev_aload_n rfl ?_
      refine g_getv (r := 7) (v := w1) g ad7 (by decide) ft5_2 (ew1) ?_
      refine g_putf (r := 7) g ad7 (by decide) ft5_1 (by decide) (fun e => absurd e nz5_1) rf7_1 (by decide) (by omega) (by omega) (fun h75222 e75222 g75222 => ?_)
      have k75222 := k0.wr e75222 rfl
      refine ev_ret rfl (by decide) (by decide) ?_
      show jEv _ _ _ _ _ _ _ (_, [(2, 7), (0, 2), (0, 0), (9, 0)], [], _, _, _)
      refine ev_iconst ?_
      refine ev_istore_n (L' := [(2, 7), (0, 2), (0, 0), (0, 0)]) (Nat.le_of_ble_eq_true rfl) rfl ?_
      refine ev_iload_n rfl ?_
      refine ev_iload_n rfl ?_
      refine ev_icmpge f76_63 (fun c75223 => absurd c75223 (by omega)) (fun c75223 => ?_)
      refine ev_aload_n rfl ?_
      refine g_getv (r := 7) (v := w1) g75222 ad7 (by decide) ft5_1 ((jw_eq e75222)) ?_
      refine ev_ifge f76_63 (fun c75224 => ?_) (fun c75224 => absurd c75224 (by omega))
      refine ev_iload_n rfl ?_
      exact ev_ret rfl (by decide) (by decide) ⟨_, rfl, g75222, k75222, by omega, by omega, Or.inr ⟨(show nm2 (bC h) w1 = -1 - w1 by unfold nm2; rw [(bC_at (p := w1) k75222 (fun _ => rfl) ew0 (((jw_ne e75222 (Or.inl (by decide))).trans ev75217)) (by omega) (by omega))]; (repeat' split) <;> omega), (((jw_eq e75222))).trans (by omega)⟩⟩
    · refine ev_aload_n rfl ?_
      refine ev_in (d := 0) (a := 0) (b := 0) (cd' := c68_0) (m := 1) (L0 := [(2, 7)]) (jcall_v (A := []) (S' := []) (r := 7) rfl (g.lt ad7) (g.tg ad7) (Nat.le_of_ble_eq_true rfl)) (by decide) ml68 pp68 (Nat.le_of_ble_eq_true rfl) rfl (by decide) (by decide) ?_
      refine ev_aload_n rfl ?_
      refine g_getv (r := 7) (v := w1) g ad7 (by decide) ft5_2 (ew1) ?_
      refine ev_aload_n rfl ?_
      refine g_getv (r := 7) (v := w0) g ad7 (by decide) ft5_0 (ew0) ?_
      refine ev_icmpge f68_27 (fun c75225 => absurd c75225 (by omega)) (fun c75225 => ?_)
      refine ev_aload_n rfl ?_
      refine g_getp (r := 7) (c := 8) g ad7 (by decide) (by decide) rf7_5 ft5_5 ?_
      refine ev_aload_n rfl ?_
      refine g_getv (r := 7) (v := w1) g ad7 (by decide) ft5_2 (ew1) ?_
      refine g_baldv (v := v75217) g ad8 (by omega) (by omega) (ev75217) ?_
      refine ev_sipush ?_
      refine g_iandB (b := 255) (by omega) (by omega) (by decide) (fun v75226 ev75226 lv75226 uv75226 => ?_)
      obtain rfl : v75218 = v75226 := by omega
      refine ev_goto f68_28 ?_
      refine ev_ret rfl (by decide) (by decide) ?_
      show jEv _ _ _ _ _ _ _ (_, [(2, 7)], [(0, v75218)], _, _, _)
      refine ev_bipush ?_
      refine ev_icmpgt f69_22 (fun c75227 => ?_) (fun c75227 => ?_)
      · refine ev_iconst ?_
        refine ev_ret rfl (by decide) (by decide) ?_
        show jEv _ _ _ _ _ _ _ (_, [(2, 7), (0, 2), (0, 0), (9, 0)], [(0, 0)], _, _, _)
        refine ev_ifne f76_13 (fun c75228 => absurd c75228 (by omega)) (fun c75228 => ?_)
        refine ev_aload_n rfl ?_
        refine ev_in (d := 1) (a := 0) (b := 0) (cd' := c70_0) (m := 1) (L0 := [(2, 7)]) (jcall_v (A := []) (S' := []) (r := 7) rfl (g.lt ad7) (g.tg ad7) (Nat.le_of_ble_eq_true rfl)) (by decide) ml70 pp70 (Nat.le_of_ble_eq_true rfl) rfl (by decide) (by decide) ?_
        refine ev_aload_n rfl ?_
        refine g_getv (r := 7) (v := (-1)) g ad7 (by decide) ft5_1 (ew2) ?_
        refine ev_ifge f70_15 (fun c75229 => absurd c75229 (by omega)) (fun c75229 => ?_)
        refine ev_aload_n rfl ?_
        refine ev_aload_n rfl ?_
        refine g_getv (r := 7) (v := w1) g ad7 (by decide) ft5_2 (ew1) ?_
        refine g_putf (r := 7) g ad7 (by decide) ft5_1 (by decide) (fun e => absurd e nz5_1) rf7_1 (by decide) (by omega) (by omega) (fun h75230 e75230 g75230 => ?_)
        have k75230 := k0.wr e75230 rfl
        refine ev_ret rfl (by decide) (by decide) ?_
        show jEv _ _ _ _ _ _ _ (_, [(2, 7), (0, 2), (0, 0), (9, 0)], [], _, _, _)
        refine ev_iconst ?_
        refine ev_istore_n (L' := [(2, 7), (0, 2), (0, 0), (0, 0)]) (Nat.le_of_ble_eq_true rfl) rfl ?_
        refine ev_iload_n rfl ?_
        refine ev_iload_n rfl ?_
        refine ev_icmpge f76_63 (fun c75231 => absurd c75231 (by omega)) (fun c75231 => ?_)
        refine ev_aload_n rfl ?_
        refine g_getv (r := 7) (v := w1) g75230 ad7 (by decide) ft5_1 ((jw_eq e75230)) ?_
        refine ev_ifge f76_63 (fun c75232 => ?_) (fun c75232 => absurd c75232 (by omega))
        refine ev_iload_n rfl ?_
        exact ev_ret rfl (by decide) (by decide) ⟨_, rfl, g75230, k75230, by omega, by omega, Or.inr ⟨(show nm2 (bC h) w1 = -1 - w1 by unfold nm2; rw [(bC_at (p := w1) k75230 (fun _ => rfl) ew0 (((jw_ne e75230 (Or.inl (by decide))).trans ev75217)) (by omega) (by omega))]; (repeat' split) <;> omega), (((jw_eq e75230))).trans (by omega)⟩⟩
      · refine ev_iconst ?_
        refine ev_goto f69_23 ?_
        refine ev_ret rfl (by decide) (by decide) ?_
        show jEv _ _ _ _ _ _ _ (_, [(2, 7), (0, 2), (0, 0), (9, 0)], [(0, 1)], _, _, _)
        refine ev_ifne f76_13 (fun c75233 => ?_) (fun c75233 => absurd c75233 (by omega))
        refine ev_iconst ?_
        refine ev_istore_n (L' := [(2, 7), (0, 2), (0, 0), (0, 0)]) (Nat.le_of_ble_eq_true rfl) rfl ?_
        refine ev_iload_n rfl ?_
        refine ev_iload_n rfl ?_
        refine ev_icmpge f76_63 (fun c75234 => absurd c75234 (by omega)) (fun c75234 => ?_)
        refine ev_aload_n rfl ?_
        refine g_getv (r := 7) (v := (-1)) g ad7 (by decide) ft5_1 (ew2) ?_
        refine ev_ifge f76_63 (fun c75235 => absurd c75235 (by omega)) (fun c75235 => ?_)
        refine ev_aload_n rfl ?_
        refine ev_in (d := 1) (a := 0) (b := 0) (cd' := c69_0) (m := 1) (L0 := [(2, 7)]) (jcall_v (A := []) (S' := []) (r := 7) rfl (g.lt ad7) (g.tg ad7) (Nat.le_of_ble_eq_true rfl)) (by decide) ml69 pp69 (Nat.le_of_ble_eq_true rfl) rfl (by decide) (by decide) ?_
        refine ev_aload_n rfl ?_
        refine ev_in (d := 0) (a := 0) (b := 0) (cd' := c68_0) (m := 1) (L0 := [(2, 7)]) (jcall_v (A := []) (S' := []) (r := 7) rfl (g.lt ad7) (g.tg ad7) (Nat.le_of_ble_eq_true rfl)) (by decide) ml68 pp68 (Nat.le_of_ble_eq_true rfl) rfl (by decide) (by decide) ?_
        refine ev_aload_n rfl ?_
        refine g_getv (r := 7) (v := w1) g ad7 (by decide) ft5_2 (ew1) ?_
        refine ev_aload_n rfl ?_
        refine g_getv (r := 7) (v := w0) g ad7 (by decide) ft5_0 (ew0) ?_
        refine ev_icmpge f68_27 (fun c75236 => absurd c75236 (by omega)) (fun c75236 => ?_)
        refine ev_aload_n rfl ?_
        refine g_getp (r := 7) (c := 8) g ad7 (by decide) (by decide) rf7_5 ft5_5 ?_
        refine ev_aload_n rfl ?_
        refine g_getv (r := 7) (v := w1) g ad7 (by decide) ft5_2 (ew1) ?_
        refine g_baldv (v := v75217) g ad8 (by omega) (by omega) (ev75217) ?_
        refine ev_sipush ?_
        refine g_iandB (b := 255) (by omega) (by omega) (by decide) (fun v75237 ev75237 lv75237 uv75237 => ?_)
        obtain rfl : v75218 = v75237 := by omega
        refine ev_goto f68_28 ?_
        refine ev_ret rfl (by decide) (by decide) ?_
        show jEv _ _ _ _ _ _ _ (_, [(2, 7)], [(0, v75218)], _, _, _)
        refine ev_bipush ?_
        refine ev_icmplt f69_22 (fun c75238 => absurd c75238 (by omega)) (fun c75238 => ?_)
        refine ev_aload_n rfl ?_
        refine ev_in (d := 0) (a := 0) (b := 0) (cd' := c68_0) (m := 1) (L0 := [(2, 7)]) (jcall_v (A := []) (S' := []) (r := 7) rfl (g.lt ad7) (g.tg ad7) (Nat.le_of_ble_eq_true rfl)) (by decide) ml68 pp68 (Nat.le_of_ble_eq_true rfl) rfl (by decide) (by decide) ?_
        refine ev_aload_n rfl ?_
        refine g_getv (r := 7) (v := w1) g ad7 (by decide) ft5_2 (ew1) ?_
        refine ev_aload_n rfl ?_
        refine g_getv (r := 7) (v := w0) g ad7 (by decide) ft5_0 (ew0) ?_
        refine ev_icmpge f68_27 (fun c75239 => absurd c75239 (by omega)) (fun c75239 => ?_)
        refine ev_aload_n rfl ?_
        refine g_getp (r := 7) (c := 8) g ad7 (by decide) (by decide) rf7_5 ft5_5 ?_
        refine ev_aload_n rfl ?_
        refine g_getv (r := 7) (v := w1) g ad7 (by decide) ft5_2 (ew1) ?_
        refine g_baldv (v := v75217) g ad8 (by omega) (by omega) (ev75217) ?_
        refine ev_sipush ?_
        refine g_iandB (b := 255) (by omega) (by omega) (by decide) (fun v75240 ev75240 lv75240 uv75240 => ?_)
        obtain rfl : v75218 = v75240 := by omega
        refine ev_goto f68_28 ?_
        refine ev_ret rfl (by decide) (by decide) ?_
        show jEv _ _ _ _ _ _ _ (_, [(2, 7)], [(0, v75218)], _, _, _)
        refine ev_bipush ?_
        refine ev_icmpgt f69_22 (fun c75241 => absurd c75241 (by omega)) (fun c75241 => ?_)
        refine ev_iconst ?_
        refine ev_goto f69_23 ?_
        refine ev_ret rfl (by decide) (by decide) ?_
        show jEv _ _ _ _ _ _ _ (_, [(2, 7), (0, 2), (0, 0), (0, 0)], [(0, 1)], _, _, _)
        refine ev_ifeq f76_63 (fun c75242 => absurd c75242 (by omega)) (fun c75242 => ?_)
        refine ev_bipush ?_
        refine ev_iload_n rfl ?_
        refine ev_imul (r := 0) (by decide) ?_
        refine ev_aload_n rfl ?_
        refine ev_in (d := 1) (a := 0) (b := 0) (cd' := c68_0) (m := 1) (L0 := [(2, 7)]) (jcall_v (A := []) (S' := [(0, 0)]) (r := 7) rfl (g.lt ad7) (g.tg ad7) (Nat.le_of_ble_eq_true rfl)) (by decide) ml68 pp68 (Nat.le_of_ble_eq_true rfl) rfl (by decide) (by decide) ?_
        refine ev_aload_n rfl ?_
        refine g_getv (r := 7) (v := w1) g ad7 (by decide) ft5_2 (ew1) ?_
        refine ev_aload_n rfl ?_
        refine g_getv (r := 7) (v := w0) g ad7 (by decide) ft5_0 (ew0) ?_
        refine ev_icmpge f68_27 (fun c75243 => absurd c75243 (by omega)) (fun c75243 => ?_)
        refine ev_aload_n rfl ?_
        refine g_getp (r := 7) (c := 8) g ad7 (by decide) (by decide) rf7_5 ft5_5 ?_
        refine ev_aload_n rfl ?_
        refine g_getv (r := 7) (v := w1) g ad7 (by decide) ft5_2 (ew1) ?_
        refine g_baldv (v := v75217) g ad8 (by omega) (by omega) (ev75217) ?_
        refine ev_sipush ?_
        refine g_iandB (b := 255) (by omega) (by omega) (by decide) (fun v75244 ev75244 lv75244 uv75244 => ?_)
        obtain rfl : v75218 = v75244 := by omega
        refine ev_goto f68_28 ?_
        refine ev_ret rfl (by decide) (by decide) ?_
        show jEv _ _ _ _ _ _ _ (_, [(2, 7), (0, 2), (0, 0), (0, 0)], [(0, v75218), (0, 0)], _, _, _)
        refine ev_iadd (r := v75218) (by unfold w32; omega) ?_
        refine ev_bipush ?_
        refine ev_isub (r := (v75218 - 48)) (by unfold w32; omega) ?_
        refine ev_istore_n (L' := [(2, 7), (0, 2), (0, (v75218 - 48)), (0, 0)]) (Nat.le_of_ble_eq_true rfl) rfl ?_
        refine ev_aload_n rfl ?_
        refine ev_dup (by decide) ?_
        refine g_getv (r := 7) (v := w1) g ad7 (by decide) ft5_2 (ew1) ?_
        refine ev_iconst ?_
        refine ev_iadd (r := (w1 + 1)) (by unfold w32; omega) ?_
        refine g_putf (r := 7) g ad7 (by decide) ft5_2 (by decide) (fun e => absurd e nz5_2) rf7_2 (by decide) (by omega) (by omega) (fun h75245 e75245 g75245 => ?_)
        have k75245 := k0.wr e75245 rfl
        refine ev_iinc (w := 1) (L' := [(2, 7), (0, 2), (0, (v75218 - 48)), (0, 1)]) rfl (by decide) rfl ?_
        refine ev_goto f76_15 ?_
        refine ev_iload_n rfl ?_
        refine ev_iload_n rfl ?_
        refine ev_icmpge f76_63 (fun c75246 => absurd c75246 (by omega)) (fun c75246 => ?_)
        refine ev_aload_n rfl ?_
        refine g_getv (r := 7) (v := (-1)) g75245 ad7 (by decide) ft5_1 (((jw_ne e75245 (Or.inr (by decide))).trans ew2)) ?_
        refine ev_ifge f76_63 (fun c75247 => absurd c75247 (by omega)) (fun c75247 => ?_)
        refine ev_aload_n rfl ?_
        refine ev_in (d := 1) (a := 0) (b := 0) (cd' := c69_0) (m := 1) (L0 := [(2, 7)]) (jcall_v (A := []) (S' := []) (r := 7) rfl (g75245.lt ad7) (g75245.tg ad7) (Nat.le_of_ble_eq_true rfl)) (by decide) ml69 pp69 (Nat.le_of_ble_eq_true rfl) rfl (by decide) (by decide) ?_
        refine ev_aload_n rfl ?_
        refine ev_in (d := 0) (a := 0) (b := 0) (cd' := c68_0) (m := 1) (L0 := [(2, 7)]) (jcall_v (A := []) (S' := []) (r := 7) rfl (g75245.lt ad7) (g75245.tg ad7) (Nat.le_of_ble_eq_true rfl)) (by decide) ml68 pp68 (Nat.le_of_ble_eq_true rfl) rfl (by decide) (by decide) ?_
        refine ev_aload_n rfl ?_
        refine g_getv (r := 7) (v := (w1 + 1)) g75245 ad7 (by decide) ft5_2 ((jw_eq e75245)) ?_
        refine ev_aload_n rfl ?_
        refine g_getv (r := 7) (v := w0) g75245 ad7 (by decide) ft5_0 (((jw_ne e75245 (Or.inr (by decide))).trans ew0)) ?_
        refine ev_icmpge f68_27 (fun c75248 => ?_) (fun c75248 => ?_)
        · refine ev_iconst ?_
          refine ev_ret rfl (by decide) (by decide) ?_
          show jEv _ _ _ _ _ _ _ (_, [(2, 7)], [(0, (-1))], _, _, _)
          refine ev_bipush ?_
          refine ev_icmplt f69_22 (fun c75249 => ?_) (fun c75249 => absurd c75249 (by omega))
          refine ev_iconst ?_
          refine ev_ret rfl (by decide) (by decide) ?_
          show jEv _ _ _ _ _ _ _ (_, [(2, 7), (0, 2), (0, (v75218 - 48)), (0, 1)], [(0, 0)], _, _, _)
          refine ev_ifeq f76_63 (fun c75250 => ?_) (fun c75250 => absurd c75250 (by omega))
          refine ev_iload_n rfl ?_
          exact ev_ret rfl (by decide) (by decide) ⟨_, rfl, g75245, k75245, by omega, by omega, Or.inl ⟨(((jw_ne e75245 (Or.inr (by decide))).trans ew2)), (((jw_eq e75245))).trans (show (w1 + 1) = nm2 (bC h) w1 by unfold nm2; rw [(bC_at (p := w1) k75245 (fun _ => rfl) ew0 (((jw_ne e75245 (Or.inl (by decide))).trans ev75217)) (by omega) (by omega)), (bC_end (p := (w1 + 1)) ew0 (by omega))]; (repeat' split) <;> omega)⟩⟩
        · refine ev_aload_n rfl ?_
          refine g_getp (r := 7) (c := 8) g75245 ad7 (by decide) (by decide) rf7_5 ft5_5 ?_
          refine ev_aload_n rfl ?_
          refine g_getv (r := 7) (v := (w1 + 1)) g75245 ad7 (by decide) ft5_2 ((jw_eq e75245)) ?_
          refine g_bald g75245 ad8 rt8 (by omega) (by omega) (fun v75251 ev75251 lv75251 uv75251 => ?_)
          refine ev_sipush ?_
          refine g_iandB (b := 255) (by omega) (by omega) (by decide) (fun v75252 ev75252 lv75252 uv75252 => ?_)
          have zv75252 := sgn ev75252 (by omega) (by omega)
          refine ev_goto f68_28 ?_
          refine ev_ret rfl (by decide) (by decide) ?_
          show jEv _ _ _ _ _ _ _ (_, [(2, 7)], [(0, v75252)], _, _, _)
          refine ev_bipush ?_
          refine ev_icmplt f69_22 (fun c75253 => ?_) (fun c75253 => ?_)
          · refine ev_iconst ?_
            refine ev_ret rfl (by decide) (by decide) ?_
            show jEv _ _ _ _ _ _ _ (_, [(2, 7), (0, 2), (0, (v75218 - 48)), (0, 1)], [(0, 0)], _, _, _)
            refine ev_ifeq f76_63 (fun c75254 => ?_) (fun c75254 => absurd c75254 (by omega))
            refine ev_iload_n rfl ?_
            exact ev_ret rfl (by decide) (by decide) ⟨_, rfl, g75245, k75245, by omega, by omega, Or.inl ⟨(((jw_ne e75245 (Or.inr (by decide))).trans ew2)), (((jw_eq e75245))).trans (show (w1 + 1) = nm2 (bC h) w1 by unfold nm2; rw [(bC_at (p := w1) k75245 (fun _ => rfl) ew0 (((jw_ne e75245 (Or.inl (by decide))).trans ev75217)) (by omega) (by omega)), (bC_at (p := (w1 + 1)) k75245 (fun _ => rfl) ew0 (ev75251) (by omega) (by omega))]; (repeat' split) <;> omega)⟩⟩
          · refine ev_aload_n rfl ?_
            refine ev_in (d := 0) (a := 0) (b := 0) (cd' := c68_0) (m := 1) (L0 := [(2, 7)]) (jcall_v (A := []) (S' := []) (r := 7) rfl (g75245.lt ad7) (g75245.tg ad7) (Nat.le_of_ble_eq_true rfl)) (by decide) ml68 pp68 (Nat.le_of_ble_eq_true rfl) rfl (by decide) (by decide) ?_
            refine ev_aload_n rfl ?_
            refine g_getv (r := 7) (v := (w1 + 1)) g75245 ad7 (by decide) ft5_2 ((jw_eq e75245)) ?_
            refine ev_aload_n rfl ?_
            refine g_getv (r := 7) (v := w0) g75245 ad7 (by decide) ft5_0 (((jw_ne e75245 (Or.inr (by decide))).trans ew0)) ?_
            refine ev_icmpge f68_27 (fun c75255 => absurd c75255 (by omega)) (fun c75255 => ?_)
            refine ev_aload_n rfl ?_
            refine g_getp (r := 7) (c := 8) g75245 ad7 (by decide) (by decide) rf7_5 ft5_5 ?_
            refine ev_aload_n rfl ?_
            refine g_getv (r := 7) (v := (w1 + 1)) g75245 ad7 (by decide) ft5_2 ((jw_eq e75245)) ?_
            refine g_baldv (v := v75251) g75245 ad8 (by omega) (by omega) (ev75251) ?_
            refine ev_sipush ?_
            refine g_iandB (b := 255) (by omega) (by omega) (by decide) (fun v75256 ev75256 lv75256 uv75256 => ?_)
            obtain rfl : v75252 = v75256 := by omega
            refine ev_goto f68_28 ?_
            refine ev_ret rfl (by decide) (by decide) ?_
            show jEv _ _ _ _ _ _ _ (_, [(2, 7)], [(0, v75252)], _, _, _)
            refine ev_bipush ?_
            refine ev_icmpgt f69_22 (fun c75257 => ?_) (fun c75257 => ?_)
            · refine ev_iconst ?_
              refine ev_ret rfl (by decide) (by decide) ?_
              show jEv _ _ _ _ _ _ _ (_, [(2, 7), (0, 2), (0, (v75218 - 48)), (0, 1)], [(0, 0)], _, _, _)
              refine ev_ifeq f76_63 (fun c75258 => ?_) (fun c75258 => absurd c75258 (by omega))
              refine ev_iload_n rfl ?_
              exact ev_ret rfl (by decide) (by decide) ⟨_, rfl, g75245, k75245, by omega, by omega, Or.inl ⟨(((jw_ne e75245 (Or.inr (by decide))).trans ew2)), (((jw_eq e75245))).trans (show (w1 + 1) = nm2 (bC h) w1 by unfold nm2; rw [(bC_at (p := w1) k75245 (fun _ => rfl) ew0 (((jw_ne e75245 (Or.inl (by decide))).trans ev75217)) (by omega) (by omega)), (bC_at (p := (w1 + 1)) k75245 (fun _ => rfl) ew0 (ev75251) (by omega) (by omega))]; (repeat' split) <;> omega)⟩⟩
            · refine ev_iconst ?_
              refine ev_goto f69_23 ?_
              refine ev_ret rfl (by decide) (by decide) ?_
              show jEv _ _ _ _ _ _ _ (_, [(2, 7), (0, 2), (0, (v75218 - 48)), (0, 1)], [(0, 1)], _, _, _)
              refine ev_ifeq f76_63 (fun c75259 => absurd c75259 (by omega)) (fun c75259 => ?_)
              refine ev_bipush ?_
              refine ev_iload_n rfl ?_
              refine ev_imul (r := (10 * v75218 - 480)) (by unfold w32; omega) ?_
              refine ev_aload_n rfl ?_
              refine ev_in (d := 1) (a := 0) (b := 0) (cd' := c68_0) (m := 1) (L0 := [(2, 7)]) (jcall_v (A := []) (S' := [(0, (10 * v75218 - 480))]) (r := 7) rfl (g75245.lt ad7) (g75245.tg ad7) (Nat.le_of_ble_eq_true rfl)) (by decide) ml68 pp68 (Nat.le_of_ble_eq_true rfl) rfl (by decide) (by decide) ?_
              refine ev_aload_n rfl ?_
              refine g_getv (r := 7) (v := (w1 + 1)) g75245 ad7 (by decide) ft5_2 ((jw_eq e75245)) ?_
              refine ev_aload_n rfl ?_
              refine g_getv (r := 7) (v := w0) g75245 ad7 (by decide) ft5_0 (((jw_ne e75245 (Or.inr (by decide))).trans ew0)) ?_
              refine ev_icmpge f68_27 (fun c75260 => absurd c75260 (by omega)) (fun c75260 => ?_)
              refine ev_aload_n rfl ?_
              refine g_getp (r := 7) (c := 8) g75245 ad7 (by decide) (by decide) rf7_5 ft5_5 ?_
              refine ev_aload_n rfl ?_
              refine g_getv (r := 7) (v := (w1 + 1)) g75245 ad7 (by decide) ft5_2 ((jw_eq e75245)) ?_
              refine g_baldv (v := v75251) g75245 ad8 (by omega) (by omega) (ev75251) ?_
              refine ev_sipush ?_
              refine g_iandB (b := 255) (by omega) (by omega) (by decide) (fun v75261 ev75261 lv75261 uv75261 => ?_)
              obtain rfl : v75252 = v75261 := by omega
              refine ev_goto f68_28 ?_
              refine ev_ret rfl (by decide) (by decide) ?_
              show jEv _ _ _ _ _ _ _ (_, [(2, 7), (0, 2), (0, (v75218 - 48)), (0, 1)], [(0, v75252), (0, (10 * v75218 - 480))], _, _, _)
              refine ev_iadd (r := (10 * v75218 + v75252 - 480)) (by unfold w32; omega) ?_
              refine ev_bipush ?_
              refine ev_isub (r := (10 * v75218 + v75252 - 528)) (by unfold w32; omega) ?_
              refine ev_istore_n (L' := [(2, 7), (0, 2), (0, (10 * v75218 + v75252 - 528)), (0, 1)]) (Nat.le_of_ble_eq_true rfl) rfl ?_
              refine ev_aload_n rfl ?_
              refine ev_dup (by decide) ?_
              refine g_getv (r := 7) (v := (w1 + 1)) g75245 ad7 (by decide) ft5_2 ((jw_eq e75245)) ?_
              refine ev_iconst ?_
              refine ev_iadd (r := (w1 + 2)) (by unfold w32; omega) ?_
              refine g_putf (r := 7) g75245 ad7 (by decide) ft5_2 (by decide) (fun e => absurd e nz5_2) rf7_2 (by decide) (by omega) (by omega) (fun h75262 e75262 g75262 => ?_)
              have k75262 := k75245.wr e75262 rfl
              refine ev_iinc (w := 2) (L' := [(2, 7), (0, 2), (0, (10 * v75218 + v75252 - 528)), (0, 2)]) rfl (by decide) rfl ?_
              refine ev_goto f76_15 ?_
              refine ev_iload_n rfl ?_
              refine ev_iload_n rfl ?_
              refine ev_icmpge f76_63 (fun c75263 => ?_) (fun c75263 => absurd c75263 (by omega))
              refine ev_iload_n rfl ?_
              exact ev_ret rfl (by decide) (by decide) ⟨_, rfl, g75262, k75262, by omega, by omega, Or.inl ⟨(((jw_ne e75262 (Or.inr (by decide))).trans ((jw_ne e75245 (Or.inr (by decide))).trans ew2))), (((jw_eq e75262))).trans (show (w1 + 2) = nm2 (bC h) w1 by unfold nm2; rw [(bC_at (p := w1) k75262 (fun _ => rfl) ew0 (((jw_ne e75262 (Or.inl (by decide))).trans ((jw_ne e75245 (Or.inl (by decide))).trans ev75217))) (by omega) (by omega)), (bC_at (p := (w1 + 1)) k75262 (fun _ => rfl) ew0 (((jw_ne e75262 (Or.inl (by decide))).trans ev75251)) (by omega) (by omega))]; (repeat' split) <;> omega)⟩⟩
set_option maxHeartbeats 4000000 in
theorem t76_3 {G : GH} {h : JH} (g : Gd G h) {w0 : Int} (ew0 : h.2.2 7 0 = w0) (lw0 : 0 ≤ w0) (uw0 : w0 ≤ 200) {w1 : Int} (ew1 : h.2.2 7 2 = w1) (lw1 : 0 ≤ w1) (uw1 : w1 ≤ 200) (ew2 : h.2.2 7 1 = (-1)) : jOk 3 0 0 76 [(2, 7), (0, 3)] h (fun v h' => ∃ r : Int, v = some (0, r) ∧ Gd G h' ∧ Kp [(7, 2), (7, 3)] h h' ∧ (-2147483648) ≤ r ∧ r ≤ 2147483647 ∧ ((h'.2.2 7 1 = -1 ∧ h'.2.2 7 2 = nm3 (bC h) w1) ∨ (nm3 (bC h) w1 = -1 - w1 ∧ h'.2.2 7 1 = w1))) := by
  refine ⟨by decide, by rw [ml76]; exact Nat.le_of_ble_eq_true rfl, ?_⟩
  rw [ml76, pp76]
  show jEv _ none _ c76_0 0 0 _ (c76_0, [(2, 7), (0, 3), (9, 0), (9, 0)], [], h, 0, 0)
  have k0 := Kp.rf [(7, 2), (7, 3)] h
  refine ev_iconst ?_
  refine ev_istore_n (L' := [(2, 7), (0, 3), (0, 0), (9, 0)]) (Nat.le_of_ble_eq_true rfl) rfl ?_
  refine ev_aload_n rfl ?_
  refine ev_in (d := 1) (a := 0) (b := 0) (cd' := c69_0) (m := 1) (L0 := [(2, 7)]) (jcall_v (A := []) (S' := []) (r := 7) rfl (g.lt ad7) (g.tg ad7) (Nat.le_of_ble_eq_true rfl)) (by decide) ml69 pp69 (Nat.le_of_ble_eq_true rfl) rfl (by decide) (by decide) ?_
  refine ev_aload_n rfl ?_
  refine ev_in (d := 0) (a := 0) (b := 0) (cd' := c68_0) (m := 1) (L0 := [(2, 7)]) (jcall_v (A := []) (S' := []) (r := 7) rfl (g.lt ad7) (g.tg ad7) (Nat.le_of_ble_eq_true rfl)) (by decide) ml68 pp68 (Nat.le_of_ble_eq_true rfl) rfl (by decide) (by decide) ?_
  refine ev_aload_n rfl ?_
  refine g_getv (r := 7) (v := w1) g ad7 (by decide) ft5_2 (ew1) ?_
  refine ev_aload_n rfl ?_
  refine g_getv (r := 7) (v := w0) g ad7 (by decide) ft5_0 (ew0) ?_
  refine ev_icmpge f68_27 (fun c75406 => ?_) (fun c75406 => ?_)
  · refine ev_iconst ?_
    refine ev_ret rfl (by decide) (by decide) ?_
    show jEv _ _ _ _ _ _ _ (_, [(2, 7)], [(0, (-1))], _, _, _)
    refine ev_bipush ?_
    refine ev_icmplt f69_22 (fun c75407 => ?_) (fun c75407 => absurd c75407 (by omega))
    refine ev_iconst ?_
    refine ev_ret rfl (by decide) (by decide) ?_
    show jEv _ _ _ _ _ _ _ (_, [(2, 7), (0, 3), (0, 0), (9, 0)], [(0, 0)], _, _, _)
    refine ev_ifne f76_13 (fun c75408 => absurd c75408 (by omega)) (fun c75408 => ?_)
    refine ev_aload_n rfl ?_
    refine ev_in (d := 1) (a := 0) (b := 0) (cd' := c70_0) (m := 1) (L0 := [(2, 7)]) (jcall_v (A := []) (S' := []) (r := 7) rfl (g.lt ad7) (g.tg ad7) (Nat.le_of_ble_eq_true rfl)) (by decide) ml70 pp70 (Nat.le_of_ble_eq_true rfl) rfl (by decide) (by decide) ?_
    refine ev_aload_n rfl ?_
    refine g_getv (r := 7) (v := (-1)) g ad7 (by decide) ft5_1 (ew2) ?_
    refine ev_ifge f70_15 (fun c75409 => absurd c75409 (by omega)) (fun c75409 => ?_)
    refine ev_aload_n rfl ?_
    refine ev_aload_n rfl ?_
    refine g_getv (r := 7) (v := w1) g ad7 (by decide) ft5_2 (ew1) ?_
    refine g_putf (r := 7) g ad7 (by decide) ft5_1 (by decide) (fun e => absurd e nz5_1) rf7_1 (by decide) (by omega) (by omega) (fun h75410 e75410 g75410 => ?_)
    have k75410 := k0.wr e75410 rfl
    refine ev_ret rfl (by decide) (by decide) ?_
    show jEv _ _ _ _ _ _ _ (_, [(2, 7), (0, 3), (0, 0), (9, 0)], [], _, _, _)
    refine ev_iconst ?_
    refine ev_istore_n (L' := [(2, 7), (0, 3), (0, 0), (0, 0)]) (Nat.le_of_ble_eq_true rfl) rfl ?_
    refine ev_iload_n rfl ?_
    refine ev_iload_n rfl ?_
    refine ev_icmpge f76_63 (fun c75411 => absurd c75411 (by omega)) (fun c75411 => ?_)
    refine ev_aload_n rfl ?_
    refine g_getv (r := 7) (v := w1) g75410 ad7 (by decide) ft5_1 ((jw_eq e75410)) ?_
    refine ev_ifge f76_63 (fun c75412 => ?_) (fun c75412 => absurd c75412 (by omega))
    refine ev_iload_n rfl ?_
    exact ev_ret rfl (by decide) (by decide) ⟨_, rfl, g75410, k75410, by omega, by omega, Or.inr ⟨(show nm3 (bC h) w1 = -1 - w1 by unfold nm3; rw [(bC_end (p := w1) ew0 (by omega))]; (repeat' split) <;> omega), (((jw_eq e75410))).trans (by omega)⟩⟩
  · refine ev_aload_n rfl ?_
    refine g_getp (r := 7) (c := 8) g ad7 (by decide) (by decide) rf7_5 ft5_5 ?_
    refine ev_aload_n rfl ?_
    refine g_getv (r := 7) (v := w1) g ad7 (by decide) ft5_2 (ew1) ?_
    refine g_bald g ad8 rt8 (by omega) (by omega) (fun v75413 ev75413 lv75413 uv75413 => ?_)
    refine ev_sipush ?_
    refine g_iandB (b := 255) (by omega) (by omega) (by decide) (fun v75414 ev75414 lv75414 uv75414 => ?_)
    have zv75414 := sgn ev75414 (by omega) (by omega)
    refine ev_goto f68_28 ?_
    refine ev_ret rfl (by decide) (by decide) ?_
    show jEv _ _ _ _ _ _ _ (_, [(2, 7)], [(0, v75414)], _, _, _)
    refine ev_bipush ?_
    refine ev_icmplt f69_22 (fun c75415 => ?_) (fun c75415 => ?_)
    · refine ev_iconst ?_
      refine ev_ret rfl (by decide) (by decide) ?_
      show jEv _ _ _ _ _ _ _ (_, [(2, 7), (0, 3), (0, 0), (9, 0)], [(0, 0)], _, _, _)
      refine ev_ifne f76_13 (fun c75416 => absurd c75416 (by omega)) (fun c75416 => ?_)
      refine ev_aload_n rfl ?_
      refine ev_in (d := 1) (a := 0) (b := 0) (cd' := c70_0) (m := 1) (L0 := [(2, 7)]) (jcall_v (A := []) (S' := []) (r := 7) rfl (g.lt ad7) (g.tg ad7) (Nat.le_of_ble_eq_true rfl)) (by decide) ml70 pp70 (Nat.le_of_ble_eq_true rfl) rfl (by decide) (by decide) ?_
      refine ev_aload_n rfl ?_
      refine g_getv (r := 7) (v := (-1)) g ad7 (by decide) ft5_1 (ew2) ?_
      refine ev_ifge f70_15 (fun c75417 => absurd c75417 (by omega)) (fun c75417 => ?_)
      refine ev_aload_n rfl ?_
      refine ev_aload_n rfl ?_
      refine g_getv (r := 7) (v := w1) g ad7 (by decide) ft5_2 (ew1) ?_
      refine g_putf (r := 7) g ad7 (by decide) ft5_1 (by decide) (fun e => absurd e nz5_1) rf7_1 (by decide) (by omega) (by omega) (fun h75418 e75418 g75418 => ?_)
      have k75418 := k0.wr e75418 rfl
      refine ev_ret rfl (by decide) (by decide) ?_
      show jEv _ _ _ _ _ _ _ (_, [(2, 7), (0, 3), (0, 0), (9, 0)], [], _, _, _)
      refine ev_iconst ?_
      refine ev_istore_n (L' := [(2, 7), (0, 3), (0, 0), (0, 0)]) (Nat.le_of_ble_eq_true rfl) rfl ?_
      refine ev_iload_n rfl ?_
      refine ev_iload_n rfl ?_
      refine ev_icmpge f76_63 (fun c75419 => absurd c75419 (by omega)) (fun c75419 => ?_)
      refine ev_aload_n rfl ?_
      refine g_getv (r := 7) (v := w1) g75418 ad7 (by decide) ft5_1 ((jw_eq e75418)) ?_
      refine ev_ifge f76_63 (fun c75420 => ?_) (fun c75420 => absurd c75420 (by omega))
      refine ev_iload_n rfl ?_
      exact ev_ret rfl (by decide) (by decide) ⟨_, rfl, g75418, k75418, by omega, by omega, Or.inr ⟨(show nm3 (bC h) w1 = -1 - w1 by unfold nm3; rw [(bC_at (p := w1) k75418 (fun _ => rfl) ew0 (((jw_ne e75418 (Or.inl (by decide))).trans ev75413)) (by omega) (by omega))]; (repeat' split) <;> omega), (((jw_eq e75418))).trans (by omega)⟩⟩
    · refine ev_aload_n rfl ?_
      refine ev_in (d := 0) (a := 0) (b := 0) (cd' := c68_0) (m := 1) (L0 := [(2, 7)]) (jcall_v (A := []) (S' := []) (r := 7) rfl (g.lt ad7) (g.tg ad7) (Nat.le_of_ble_eq_true rfl)) (by decide) ml68 pp68 (Nat.le_of_ble_eq_true rfl) rfl (by decide) (by decide) ?_
      refine ev_aload_n rfl ?_
      refine g_getv (r := 7) (v := w1) g ad7 (by decide) ft5_2 (ew1) ?_
      refine ev_aload_n rfl ?_
      refine g_getv (r := 7) (v := w0) g ad7 (by decide) ft5_0 (ew0) ?_
      refine ev_icmpge f68_27 (fun c75421 => absurd c75421 (by omega)) (fun c75421 => ?_)
      refine ev_aload_n rfl ?_
      refine g_getp (r := 7) (c := 8) g ad7 (by decide) (by decide) rf7_5 ft5_5 ?_
      refine ev_aload_n rfl ?_
      refine g_getv (r := 7) (v := w1) g ad7 (by decide) ft5_2 (ew1) ?_
      refine g_baldv (v := v75413) g ad8 (by omega) (by omega) (ev75413) ?_
      refine ev_sipush ?_
      refine g_iandB (b := 255) (by omega) (by omega) (by decide) (fun v75422 ev75422 lv75422 uv75422 => ?_)
      obtain rfl : v75414 = v75422 := by omega
      refine ev_goto f68_28 ?_
      refine ev_ret rfl (by decide) (by decide) ?_
      show jEv _ _ _ _ _ _ _ (_, [(2, 7)], [(0, v75414)], _, _, _)
      refine ev_bipush ?_
      refine ev_icmpgt f69_22 (fun c75423 => ?_) (fun c75423 => ?_)
      · refine ev_iconst ?_
        refine ev_ret rfl (by decide) (by decide) ?_
        show jEv _ _ _ _ _ _ _ (_, [(2, 7), (0, 3), (0, 0), (9, 0)], [(0, 0)], _, _, _)
        refine ev_ifne f76_13 (fun c75424 => absurd c75424 (by omega)) (fun c75424 => ?_)
        refine ev_aload_n rfl ?_
        refine ev_in (d := 1) (a := 0) (b := 0) (cd' := c70_0) (m := 1) (L0 := [(2, 7)]) (jcall_v (A := []) (S' := []) (r := 7) rfl (g.lt ad7) (g.tg ad7) (Nat.le_of_ble_eq_true rfl)) (by decide) ml70 pp70 (Nat.le_of_ble_eq_true rfl) rfl (by decide) (by decide) ?_
        refine ev_aload_n rfl ?_
        refine g_getv (r := 7) (v := (-1)) g ad7 (by decide) ft5_1 (ew2) ?_
        refine ev_ifge f70_15 (fun c75425 => absurd c75425 (by omega)) (fun c75425 => ?_)
        refine ev_aload_n rfl ?_
        refine ev_aload_n rfl ?_
        refine g_getv (r := 7) (v := w1) g ad7 (by decide) ft5_2 (ew1) ?_
        refine g_putf (r := 7) g ad7 (by decide) ft5_1 (by decide) (fun e => absurd e nz5_1) rf7_1 (by decide) (by omega) (by omega) (fun h75426 e75426 g75426 => ?_)
        have k75426 := k0.wr e75426 rfl
        refine ev_ret rfl (by decide) (by decide) ?_
        show jEv _ _ _ _ _ _ _ (_, [(2, 7), (0, 3), (0, 0), (9, 0)], [], _, _, _)
        refine ev_iconst ?_
        refine ev_istore_n (L' := [(2, 7), (0, 3), (0, 0), (0, 0)]) (Nat.le_of_ble_eq_true rfl) rfl ?_
        refine ev_iload_n rfl ?_
        refine ev_iload_n rfl ?_
        refine ev_icmpge f76_63 (fun c75427 => absurd c75427 (by omega)) (fun c75427 => ?_)
        refine ev_aload_n rfl ?_
        refine g_getv (r := 7) (v := w1) g75426 ad7 (by decide) ft5_1 ((jw_eq e75426)) ?_
        refine ev_ifge f76_63 (fun c75428 => ?_) (fun c75428 => absurd c75428 (by omega))
        refine ev_iload_n rfl ?_
        exact ev_ret rfl (by decide) (by decide) ⟨_, rfl, g75426, k75426, by omega, by omega, Or.inr ⟨(show nm3 (bC h) w1 = -1 - w1 by unfold nm3; rw [(bC_at (p := w1) k75426 (fun _ => rfl) ew0 (((jw_ne e75426 (Or.inl (by decide))).trans ev75413)) (by omega) (by omega))]; (repeat' split) <;> omega), (((jw_eq e75426))).trans (by omega)⟩⟩
      · refine ev_iconst ?_
        refine ev_goto f69_23 ?_
        refine ev_ret rfl (by decide) (by decide) ?_
        show jEv _ _ _ _ _ _ _ (_, [(2, 7), (0, 3), (0, 0), (9, 0)], [(0, 1)], _, _, _)
        refine ev_ifne f76_13 (fun c75429 => ?_) (fun c75429 => absurd c75429 (by omega))
        refine ev_iconst ?_
        refine ev_istore_n (L' := [(2, 7), (0, 3), (0, 0), (0, 0)]) (Nat.le_of_ble_eq_true rfl) rfl ?_
        refine ev_iload_n rfl ?_
        refine ev_iload_n rfl ?_
        refine ev_icmpge f76_63 (fun c75430 => absurd c75430 (by omega)) (fun c75430 => ?_)
        refine ev_aload_n rfl ?_
        refine g_getv (r := 7) (v := (-1)) g ad7 (by decide) ft5_1 (ew2) ?_
        refine ev_ifge f76_63 (fun c75431 => absurd c75431 (by omega)) (fun c75431 => ?_)
        refine ev_aload_n rfl ?_
        refine ev_in (d := 1) (a := 0) (b := 0) (cd' := c69_0) (m := 1) (L0 := [(2, 7)]) (jcall_v (A := []) (S' := []) (r := 7) rfl (g.lt ad7) (g.tg ad7) (Nat.le_of_ble_eq_true rfl)) (by decide) ml69 pp69 (Nat.le_of_ble_eq_true rfl) rfl (by decide) (by decide) ?_
        refine ev_aload_n rfl ?_
        refine ev_in (d := 0) (a := 0) (b := 0) (cd' := c68_0) (m := 1) (L0 := [(2, 7)]) (jcall_v (A := []) (S' := []) (r := 7) rfl (g.lt ad7) (g.tg ad7) (Nat.le_of_ble_eq_true rfl)) (by decide) ml68 pp68 (Nat.le_of_ble_eq_true rfl) rfl (by decide) (by decide) ?_
        refine ev_aload_n rfl ?_
        refine g_getv (r := 7) (v := w1) g ad7 (by decide) ft5_2 (ew1) ?_
        refine ev_aload_n rfl ?_
        refine g_getv (r := 7) (v := w0) g ad7 (by decide) ft5_0 (ew0) ?_
        refine ev_icmpge f68_27 (fun c75432 => absurd c75432 (by omega)) (fun c75432 => ?_)
        refine ev_aload_n rfl ?_
        refine g_getp (r := 7) (c := 8) g ad7 (by decide) (by decide) rf7_5 ft5_5 ?_
        refine ev_aload_n rfl ?_
        refine g_getv (r := 7) (v := w1) g ad7 (by decide) ft5_2 (ew1) ?_
        refine g_baldv (v := v75413) g ad8 (by omega) (by omega) (ev75413) ?_
        refine ev_sipush ?_
        refine g_iandB (b := 255) (by omega) (by omega) (by decide) (fun v75433 ev75433 lv75433 uv75433 => ?_)
        obtain rfl : v75414 = v75433 := by omega
        refine ev_goto f68_28 ?_
        refine ev_ret rfl (by decide) (by decide) ?_
        show jEv _ _ _ _ _ _ _ (_, [(2, 7)], [(0, v75414)], _, _, _)
        refine ev_bipush ?_
        refine ev_icmplt f69_22 (fun c75434 => absurd c75434 (by omega)) (fun c75434 => ?_)
        refine ev_aload_n rfl ?_
        refine ev_in (d := 0) (a := 0) (b := 0) (cd' := c68_0) (m := 1) (L0 := [(2, 7)]) (jcall_v (A := []) (S' := []) (r := 7) rfl (g.lt ad7) (g.tg ad7) (Nat.le_of_ble_eq_true rfl)) (by decide) ml68 pp68 (Nat.le_of_ble_eq_true rfl) rfl (by decide) (by decide) ?_
        refine ev_aload_n rfl ?_
        refine g_getv (r := 7) (v := w1) g ad7 (by decide) ft5_2 (ew1) ?_
        refine ev_aload_n rfl ?_
        refine g_getv (r := 7) (v := w0) g ad7 (by decide) ft5_0 (ew0) ?_
        refine ev_icmpge f68_27 (fun c75435 => absurd c75435 (by omega)) (fun c75435 => ?_)
        refine ev_aload_n rfl ?_
        refine g_getp (r := 7) (c := 8) g ad7 (by decide) (by decide) rf7_5 ft5_5 ?_
        refine ev_aload_n rfl ?_
        refine g_getv (r := 7) (v := w1) g ad7 (by decide) ft5_2 (ew1) ?_
        refine g_baldv (v := v75413) g ad8 (by omega) (by omega) (ev75413) ?_
        refine ev_sipush ?_
        refine g_iandB (b := 255) (by omega) (by omega) (by decide) (fun v75436 ev75436 lv75436 uv75436 => ?_)
        obtain rfl : v75414 = v75436 := by omega
        refine ev_goto f68_28 ?_
        refine ev_ret rfl (by decide) (by decide) ?_
        show jEv _ _ _ _ _ _ _ (_, [(2, 7)], [(0, v75414)], _, _, _)
        refine ev_bipush ?_
        refine ev_icmpgt f69_22 (fun c75437 => absurd c75437 (by omega)) (fun c75437 => ?_)
        refine ev_iconst ?_
        refine ev_goto f69_23 ?_
        refine ev_ret rfl (by decide) (by decide) ?_
        show jEv _ _ _ _ _ _ _ (_, [(2, 7), (0, 3), (0, 0), (0, 0)], [(0, 1)], _, _, _)
        refine ev_ifeq f76_63 (fun c75438 => absurd c75438 (by omega)) (fun c75438 => ?_)
        refine ev_bipush ?_
        refine ev_iload_n rfl ?_
        refine ev_imul (r := 0) (by decide) ?_
        refine ev_aload_n rfl ?_
        refine ev_in (d := 1) (a := 0) (b := 0) (cd' := c68_0) (m := 1) (L0 := [(2, 7)]) (jcall_v (A := []) (S' := [(0, 0)]) (r := 7) rfl (g.lt ad7) (g.tg ad7) (Nat.le_of_ble_eq_true rfl)) (by decide) ml68 pp68 (Nat.le_of_ble_eq_true rfl) rfl (by decide) (by decide) ?_
        refine ev_aload_n rfl ?_
        refine g_getv (r := 7) (v := w1) g ad7 (by decide) ft5_2 (ew1) ?_
        refine ev_aload_n rfl ?_
        refine g_getv (r := 7) (v := w0) g ad7 (by decide) ft5_0 (ew0) ?_
        refine ev_icmpge f68_27 (fun c75439 => absurd c75439 (by omega)) (fun c75439 => ?_)
        refine ev_aload_n rfl ?_
        refine g_getp (r := 7) (c := 8) g ad7 (by decide) (by decide) rf7_5 ft5_5 ?_
        refine ev_aload_n rfl ?_
        refine g_getv (r := 7) (v := w1) g ad7 (by decide) ft5_2 (ew1) ?_
        refine g_baldv (v := v75413) g ad8 (by omega) (by omega) (ev75413) ?_
        refine ev_sipush ?_
        refine g_iandB (b := 255) (by omega) (by omega) (by decide) (fun v75440 ev75440 lv75440 uv75440 => ?_)
        obtain rfl : v75414 = v75440 := by omega
        refine ev_goto f68_28 ?_
        refine ev_ret rfl (by decide) (by decide) ?_
        show jEv _ _ _ _ _ _ _ (_, [(2, 7), (0, 3), (0, 0), (0, 0)], [(0, v75414), (0, 0)], _, _, _)
        refine ev_iadd (r := v75414) (by unfold w32; omega) ?_
        refine ev_bipush ?_
        refine ev_isub (r := (v75414 - 48)) (by unfold w32; omega) ?_
        refine ev_istore_n (L' := [(2, 7), (0, 3), (0, (v75414 - 48)), (0, 0)]) (Nat.le_of_ble_eq_true rfl) rfl ?_
        refine ev_aload_n rfl ?_
        refine ev_dup (by decide) ?_
        refine g_getv (r := 7) (v := w1) g ad7 (by decide) ft5_2 (ew1) ?_
        refine ev_iconst ?_
        refine ev_iadd (r := (w1 + 1)) (by unfold w32; omega) ?_
        refine g_putf (r := 7) g ad7 (by decide) ft5_2 (by decide) (fun e => absurd e nz5_2) rf7_2 (by decide) (by omega) (by omega) (fun h75441 e75441 g75441 => ?_)
        have k75441 := k0.wr e75441 rfl
        refine ev_iinc (w := 1) (L' := [(2, 7), (0, 3), (0, (v75414 - 48)), (0, 1)]) rfl (by decide) rfl ?_
        refine ev_goto f76_15 ?_
        refine ev_iload_n rfl ?_
        refine ev_iload_n rfl ?_
        refine ev_icmpge f76_63 (fun c75442 => absurd c75442 (by omega)) (fun c75442 => ?_)
        refine ev_aload_n rfl ?_
        refine g_getv (r := 7) (v := (-1)) g75441 ad7 (by decide) ft5_1 (((jw_ne e75441 (Or.inr (by decide))).trans ew2)) ?_
        refine ev_ifge f76_63 (fun c75443 => absurd c75443 (by omega)) (fun c75443 => ?_)
        refine ev_aload_n rfl ?_
        refine ev_in (d := 1) (a := 0) (b := 0) (cd' := c69_0) (m := 1) (L0 := [(2, 7)]) (jcall_v (A := []) (S' := []) (r := 7) rfl (g75441.lt ad7) (g75441.tg ad7) (Nat.le_of_ble_eq_true rfl)) (by decide) ml69 pp69 (Nat.le_of_ble_eq_true rfl) rfl (by decide) (by decide) ?_
        refine ev_aload_n rfl ?_
        refine ev_in (d := 0) (a := 0) (b := 0) (cd' := c68_0) (m := 1) (L0 := [(2, 7)]) (jcall_v (A := []) (S' := []) (r := 7) rfl (g75441.lt ad7) (g75441.tg ad7) (Nat.le_of_ble_eq_true rfl)) (by decide) ml68 pp68 (Nat.le_of_ble_eq_true rfl) rfl (by decide) (by decide) ?_
        refine ev_aload_n rfl ?_
        refine g_getv (r := 7) (v := (w1 + 1)) g75441 ad7 (by decide) ft5_2 ((jw_eq e75441)) ?_
        refine ev_aload_n rfl ?_
        refine g_getv (r := 7) (v := w0) g75441 ad7 (by decide) ft5_0 (((jw_ne e75441 (Or.inr (by decide))).trans ew0)) ?_
        refine ev_icmpge f68_27 (fun c75444 => ?_) (fun c75444 => ?_)
        · refine ev_iconst ?_
          refine ev_ret rfl (by decide) (by decide) ?_
          show jEv _ _ _ _ _ _ _ (_, [(2, 7)], [(0, (-1))], _, _, _)
          refine ev_bipush ?_
          refine ev_icmplt f69_22 (fun c75445 => ?_) (fun c75445 => absurd c75445 (by omega))
          refine ev_iconst ?_
          refine ev_ret rfl (by decide) (by decide) ?_
          show jEv _ _ _ _ _ _ _ (_, [(2, 7), (0, 3), (0, (v75414 - 48)), (0, 1)], [(0, 0)], _, _, _)
          refine ev_ifeq f76_63 (fun c75446 => ?_) (fun c75446 => absurd c75446 (by omega))
          refine ev_iload_n rfl ?_
          exact ev_ret rfl (by decide) (by decide) ⟨_, rfl, g75441, k75441, by omega, by omega, Or.inl ⟨(((jw_ne e75441 (Or.inr (by decide))).trans ew2)), (((jw_eq e75441))).trans (show (w1 + 1) = nm3 (bC h) w1 by unfold nm3; rw [(bC_at (p := w1) k75441 (fun _ => rfl) ew0 (((jw_ne e75441 (Or.inl (by decide))).trans ev75413)) (by omega) (by omega)), (bC_end (p := (w1 + 1)) ew0 (by omega))]; (repeat' split) <;> omega)⟩⟩
        · refine ev_aload_n rfl ?_
          refine g_getp (r := 7) (c := 8) g75441 ad7 (by decide) (by decide) rf7_5 ft5_5 ?_
          refine ev_aload_n rfl ?_
          refine g_getv (r := 7) (v := (w1 + 1)) g75441 ad7 (by decide) ft5_2 ((jw_eq e75441)) ?_
          refine g_bald g75441 ad8 rt8 (by omega) (by omega) (fun v75447 ev75447 lv75447 uv75447 => ?_)
          refine ev_sipush ?_
          refine g_iandB (b := 255) (by omega) (by omega) (by decide) (fun v75448 ev75448 lv75448 uv75448 => ?_)
          have zv75448 := sgn ev75448 (by omega) (by omega)
          refine ev_goto f68_28 ?_
          refine ev_ret rfl (by decide) (by decide) ?_
          show jEv _ _ _ _ _ _ _ (_, [(2, 7)], [(0, v75448)], _, _, _)
          refine ev_bipush ?_
          refine ev_icmplt f69_22 (fun c75449 => ?_) (fun c75449 => ?_)
          · refine ev_iconst ?_
            refine ev_ret rfl (by decide) (by decide) ?_
            show jEv _ _ _ _ _ _ _ (_, [(2, 7), (0, 3), (0, (v75414 - 48)), (0, 1)], [(0, 0)], _, _, _)
            refine ev_ifeq f76_63 (fun c75450 => ?_) (fun c75450 => absurd c75450 (by omega))
            refine ev_iload_n rfl ?_
            exact ev_ret rfl (by decide) (by decide) ⟨_, rfl, g75441, k75441, by omega, by omega, Or.inl ⟨(((jw_ne e75441 (Or.inr (by decide))).trans ew2)), (((jw_eq e75441))).trans (show (w1 + 1) = nm3 (bC h) w1 by unfold nm3; rw [(bC_at (p := w1) k75441 (fun _ => rfl) ew0 (((jw_ne e75441 (Or.inl (by decide))).trans ev75413)) (by omega) (by omega)), (bC_at (p := (w1 + 1)) k75441 (fun _ => rfl) ew0 (ev75447) (by omega) (by omega))]; (repeat' split) <;> omega)⟩⟩
          · refine ev_aload_n rfl ?_
            refine ev_in (d := 0) (a := 0) (b := 0) (cd' := c68_0) (m := 1) (L0 := [(2, 7)]) (jcall_v (A := []) (S' := []) (r := 7) rfl (g75441.lt ad7) (g75441.tg ad7) (Nat.le_of_ble_eq_true rfl)) (by decide) ml68 pp68 (Nat.le_of_ble_eq_true rfl) rfl (by decide) (by decide) ?_
            refine ev_aload_n rfl ?_
            refine g_getv (r := 7) (v := (w1 + 1)) g75441 ad7 (by decide) ft5_2 ((jw_eq e75441)) ?_
            refine ev_aload_n rfl ?_
            refine g_getv (r := 7) (v := w0) g75441 ad7 (by decide) ft5_0 (((jw_ne e75441 (Or.inr (by decide))).trans ew0)) ?_
            refine ev_icmpge f68_27 (fun c75451 => absurd c75451 (by omega)) (fun c75451 => ?_)
            refine ev_aload_n rfl ?_
            refine g_getp (r := 7) (c := 8) g75441 ad7 (by decide) (by decide) rf7_5 ft5_5 ?_
            refine ev_aload_n rfl ?_
            refine g_getv (r := 7) (v := (w1 + 1)) g75441 ad7 (by decide) ft5_2 ((jw_eq e75441)) ?_
            refine g_baldv (v := v75447) g75441 ad8 (by omega) (by omega) (ev75447) ?_
            refine ev_sipush ?_
            refine g_iandB (b := 255) (by omega) (by omega) (by decide) (fun v75452 ev75452 lv75452 uv75452 => ?_)
            obtain rfl : v75448 = v75452 := by omega
            refine ev_goto f68_28 ?_
            refine ev_ret rfl (by decide) (by decide) ?_
            show jEv _ _ _ _ _ _ _ (_, [(2, 7)], [(0, v75448)], _, _, _)
            refine ev_bipush ?_
            refine ev_icmpgt f69_22 (fun c75453 => ?_) (fun c75453 => ?_)
            · refine ev_iconst ?_
              refine ev_ret rfl (by decide) (by decide) ?_
              show jEv _ _ _ _ _ _ _ (_, [(2, 7), (0, 3), (0, (v75414 - 48)), (0, 1)], [(0, 0)], _, _, _)
              refine ev_ifeq f76_63 (fun c75454 => ?_) (fun c75454 => absurd c75454 (by omega))
              refine ev_iload_n rfl ?_
              exact ev_ret rfl (by decide) (by decide) ⟨_, rfl, g75441, k75441, by omega, by omega, Or.inl ⟨(((jw_ne e75441 (Or.inr (by decide))).trans ew2)), (((jw_eq e75441))).trans (show (w1 + 1) = nm3 (bC h) w1 by unfold nm3; rw [(bC_at (p := w1) k75441 (fun _ => rfl) ew0 (((jw_ne e75441 (Or.inl (by decide))).trans ev75413)) (by omega) (by omega)), (bC_at (p := (w1 + 1)) k75441 (fun _ => rfl) ew0 (ev75447) (by omega) (by omega))]; (repeat' split) <;> omega)⟩⟩
            · refine ev_iconst ?_
              refine ev_goto f69_23 ?_
              refine ev_ret rfl (by decide) (by decide) ?_
              show jEv _ _ _ _ _ _ _ (_, [(2, 7), (0, 3), (0, (v75414 - 48)), (0, 1)], [(0, 1)], _, _, _)
              refine ev_ifeq f76_63 (fun c75455 => absurd c75455 (by omega)) (fun c75455 => ?_)
              refine ev_bipush ?_
              refine ev_iload_n rfl ?_
              refine ev_imul (r := (10 * v75414 - 480)) (by unfold w32; omega) ?_
              refine ev_aload_n rfl ?_
              refine ev_in (d := 1) (a := 0) (b := 0) (cd' := c68_0) (m := 1) (L0 := [(2, 7)]) (jcall_v (A := []) (S' := [(0, (10 * v75414 - 480))]) (r := 7) rfl (g75441.lt ad7) (g75441.tg ad7) (Nat.le_of_ble_eq_true rfl)) (by decide) ml68 pp68 (Nat.le_of_ble_eq_true rfl) rfl (by decide) (by decide) ?_
              refine ev_aload_n rfl ?_
              refine g_getv (r := 7) (v := (w1 + 1)) g75441 ad7 (by decide) ft5_2 ((jw_eq e75441)) ?_
              refine ev_aload_n rfl ?_
              refine g_getv (r := 7) (v := w0) g75441 ad7 (by decide) ft5_0 (((jw_ne e75441 (Or.inr (by decide))).trans ew0)) ?_
              refine ev_icmpge f68_27 (fun c75456 => absurd c75456 (by omega)) (fun c75456 => ?_)
              refine ev_aload_n rfl ?_
              refine g_getp (r := 7) (c := 8) g75441 ad7 (by decide) (by decide) rf7_5 ft5_5 ?_
              refine ev_aload_n rfl ?_
              refine g_getv (r := 7) (v := (w1 + 1)) g75441 ad7 (by decide) ft5_2 ((jw_eq e75441)) ?_
              refine g_baldv (v := v75447) g75441 ad8 (by omega) (by omega) (ev75447) ?_
              refine ev_sipush ?_
              refine g_iandB (b := 255) (by omega) (by omega) (by decide) (fun v75457 ev75457 lv75457 uv75457 => ?_)
              obtain rfl : v75448 = v75457 := by omega
              refine ev_goto f68_28 ?_
              refine ev_ret rfl (by decide) (by decide) ?_
              show jEv _ _ _ _ _ _ _ (_, [(2, 7), (0, 3), (0, (v75414 - 48)), (0, 1)], [(0, v75448), (0, (10 * v75414 - 480))], _, _, _)
              refine ev_iadd (r := (10 * v75414 + v75448 - 480)) (by unfold w32; omega) ?_
              refine ev_bipush ?_
              refine ev_isub (r := (10 * v75414 + v75448 - 528)) (by unfold w32; omega) ?_
              refine ev_istore_n (L' := [(2, 7), (0, 3), (0, (10 * v75414 + v75448 - 528)), (0, 1)]) (Nat.le_of_ble_eq_true rfl) rfl ?_
              refine ev_aload_n rfl ?_
              refine ev_dup (by decide) ?_
              refine g_getv (r := 7) (v := (w1 + 1)) g75441 ad7 (by decide) ft5_2 ((jw_eq e75441)) ?_
              refine ev_iconst ?_
              refine ev_iadd (r := (w1 + 2)) (by unfold w32; omega) ?_
              refine g_putf (r := 7) g75441 ad7 (by decide) ft5_2 (by decide) (fun e => absurd e nz5_2) rf7_2 (by decide) (by omega) (by omega) (fun h75458 e75458 g75458 => ?_)
              have k75458 := k75441.wr e75458 rfl
              refine ev_iinc (w := 2) (L' := [(2, 7), (0, 3), (0, (10 * v75414 + v75448 - 528)), (0, 2)]) rfl (by decide) rfl ?_
              refine ev_goto f76_15 ?_
              refine ev_iload_n rfl ?_
              refine ev_iload_n rfl ?_
              refine ev_icmpge f76_63 (fun c75459 => absurd c75459 (by omega)) (fun c75459 => ?_)
              refine ev_aload_n rfl ?_
              refine g_getv (r := 7) (v := (-1)) g75458 ad7 (by decide) ft5_1 (((jw_ne e75458 (Or.inr (by decide))).trans ((jw_ne e75441 (Or.inr (by decide))).trans ew2))) ?_
              refine ev_ifge f76_63 (fun c75460 => absurd c75460 (by omega)) (fun c75460 => ?_)
              refine ev_aload_n rfl ?_
              refine ev_in (d := 1) (a := 0) (b := 0) (cd' := c69_0) (m := 1) (L0 := [(2, 7)]) (jcall_v (A := []) (S' := []) (r := 7) rfl (g75458.lt ad7) (g75458.tg ad7) (Nat.le_of_ble_eq_true rfl)) (by decide) ml69 pp69 (Nat.le_of_ble_eq_true rfl) rfl (by decide) (by decide) ?_
              refine ev_aload_n rfl ?_
              refine ev_in (d := 0) (a := 0) (b := 0) (cd' := c68_0) (m := 1) (L0 := [(2, 7)]) (jcall_v (A := []) (S' := []) (r := 7) rfl (g75458.lt ad7) (g75458.tg ad7) (Nat.le_of_ble_eq_true rfl)) (by decide) ml68 pp68 (Nat.le_of_ble_eq_true rfl) rfl (by decide) (by decide) ?_
              refine ev_aload_n rfl ?_
              refine g_getv (r := 7) (v := (w1 + 2)) g75458 ad7 (by decide) ft5_2 ((jw_eq e75458)) ?_
              refine ev_aload_n rfl ?_
              refine g_getv (r := 7) (v := w0) g75458 ad7 (by decide) ft5_0 (((jw_ne e75458 (Or.inr (by decide))).trans ((jw_ne e75441 (Or.inr (by decide))).trans ew0))) ?_
              refine ev_icmpge f68_27 (fun c75461 => ?_) (fun c75461 => ?_)
              · refine ev_iconst ?_
                refine ev_ret rfl (by decide) (by decide) ?_
                show jEv _ _ _ _ _ _ _ (_, [(2, 7)], [(0, (-1))], _, _, _)
                refine ev_bipush ?_
                refine ev_icmplt f69_22 (fun c75462 => ?_) (fun c75462 => absurd c75462 (by omega))
                refine ev_iconst ?_
                refine ev_ret rfl (by decide) (by decide) ?_
                show jEv _ _ _ _ _ _ _ (_, [(2, 7), (0, 3), (0, (10 * v75414 + v75448 - 528)), (0, 2)], [(0, 0)], _, _, _)
                refine ev_ifeq f76_63 (fun c75463 => ?_) (fun c75463 => absurd c75463 (by omega))
                refine ev_iload_n rfl ?_
                exact ev_ret rfl (by decide) (by decide) ⟨_, rfl, g75458, k75458, by omega, by omega, Or.inl ⟨(((jw_ne e75458 (Or.inr (by decide))).trans ((jw_ne e75441 (Or.inr (by decide))).trans ew2))), (((jw_eq e75458))).trans (show (w1 + 2) = nm3 (bC h) w1 by unfold nm3; rw [(bC_at (p := w1) k75458 (fun _ => rfl) ew0 (((jw_ne e75458 (Or.inl (by decide))).trans ((jw_ne e75441 (Or.inl (by decide))).trans ev75413))) (by omega) (by omega)), (bC_at (p := (w1 + 1)) k75458 (fun _ => rfl) ew0 (((jw_ne e75458 (Or.inl (by decide))).trans ev75447)) (by omega) (by omega)), (bC_end (p := (w1 + 2)) ew0 (by omega))]; (repeat' split) <;> omega)⟩⟩
              · refine ev_aload_n rfl ?_
                refine g_getp (r := 7) (c := 8) g75458 ad7 (by decide) (by decide) rf7_5 ft5_5 ?_
                refine ev_aload_n rfl ?_
                refine g_getv (r := 7) (v := (w1 + 2)) g75458 ad7 (by decide) ft5_2 ((jw_eq e75458)) ?_
                refine g_bald g75458 ad8 rt8 (by omega) (by omega) (fun v75464 ev75464 lv75464 uv75464 => ?_)
                refine ev_sipush ?_
                refine g_iandB (b := 255) (by omega) (by omega) (by decide) (fun v75465 ev75465 lv75465 uv75465 => ?_)
                have zv75465 := sgn ev75465 (by omega) (by omega)
                refine ev_goto f68_28 ?_
                refine ev_ret rfl (by decide) (by decide) ?_
                show jEv _ _ _ _ _ _ _ (_, [(2, 7)], [(0, v75465)], _, _, _)
                refine ev_bipush ?_
                refine ev_icmplt f69_22 (fun c75466 => ?_) (fun c75466 => ?_)
                · refine ev_iconst ?_
                  refine ev_ret rfl (by decide) (by decide) ?_
                  show jEv _ _ _ _ _ _ _ (_, [(2, 7), (0, 3), (0, (10 * v75414 + v75448 - 528)), (0, 2)], [(0, 0)], _, _, _)
                  refine ev_ifeq f76_63 (fun c75467 => ?_) (fun c75467 => absurd c75467 (by omega))
                  refine ev_iload_n rfl ?_
                  exact ev_ret rfl (by decide) (by decide) ⟨_, rfl, g75458, k75458, by omega, by omega, Or.inl ⟨(((jw_ne e75458 (Or.inr (by decide))).trans ((jw_ne e75441 (Or.inr (by decide))).trans ew2))), (((jw_eq e75458))).trans (show (w1 + 2) = nm3 (bC h) w1 by unfold nm3; rw [(bC_at (p := w1) k75458 (fun _ => rfl) ew0 (((jw_ne e75458 (Or.inl (by decide))).trans ((jw_ne e75441 (Or.inl (by decide))).trans ev75413))) (by omega) (by omega)), (bC_at (p := (w1 + 1)) k75458 (fun _ => rfl) ew0 (((jw_ne e75458 (Or.inl (by decide))).trans ev75447)) (by omega) (by omega)), (bC_at (p := (w1 + 2)) k75458 (fun _ => rfl) ew0 (ev75464) (by omega) (by omega))]; (repeat' split) <;> omega)⟩⟩
                · refine ev_aload_n rfl ?_
                  refine ev_in (d := 0) (a := 0) (b := 0) (cd' := c68_0) (m := 1) (L0 := [(2, 7)]) (jcall_v (A := []) (S' := []) (r := 7) rfl (g75458.lt ad7) (g75458.tg ad7) (Nat.le_of_ble_eq_true rfl)) (by decide) ml68 pp68 (Nat.le_of_ble_eq_true rfl) rfl (by decide) (by decide) ?_
                  refine ev_aload_n rfl ?_
                  refine g_getv (r := 7) (v := (w1 + 2)) g75458 ad7 (by decide) ft5_2 ((jw_eq e75458)) ?_
                  refine ev_aload_n rfl ?_
                  refine g_getv (r := 7) (v := w0) g75458 ad7 (by decide) ft5_0 (((jw_ne e75458 (Or.inr (by decide))).trans ((jw_ne e75441 (Or.inr (by decide))).trans ew0))) ?_
                  refine ev_icmpge f68_27 (fun c75468 => absurd c75468 (by omega)) (fun c75468 => ?_)
                  refine ev_aload_n rfl ?_
                  refine g_getp (r := 7) (c := 8) g75458 ad7 (by decide) (by decide) rf7_5 ft5_5 ?_
                  refine ev_aload_n rfl ?_
                  refine g_getv (r := 7) (v := (w1 + 2)) g75458 ad7 (by decide) ft5_2 ((jw_eq e75458)) ?_
                  refine g_baldv (v := v75464) g75458 ad8 (by omega) (by omega) (ev75464) ?_
                  refine ev_sipush ?_
                  refine g_iandB (b := 255) (by omega) (by omega) (by decide) (fun v75469 ev75469 lv75469 uv75469 => ?_)
                  obtain rfl : v75465 = v75469 := by omega
                  refine ev_goto f68_28 ?_
                  refine ev_ret rfl (by decide) (by decide) ?_
                  show jEv _ _ _ _ _ _ _ (_, [(2, 7)], [(0, v75465)], _, _, _)
                  refine ev_bipush ?_
                  refine ev_icmpgt f69_22 (fun c75470 => ?_) (fun c75470 => ?_)
                  · refine ev_iconst ?_
                    refine ev_ret rfl (by decide) (by decide) ?_
                    show jEv _ _ _ _ _ _ _ (_, [(2, 7), (0, 3), (0, (10 * v75414 + v75448 - 528)), (0, 2)], [(0, 0)], _, _, _)
                    refine ev_ifeq f76_63 (fun c75471 => ?_) (fun c75471 => absurd c75471 (by omega))
                    refine ev_iload_n rfl ?_
                    exact ev_ret rfl (by decide) (by decide) ⟨_, rfl, g75458, k75458, by omega, by omega, Or.inl ⟨(((jw_ne e75458 (Or.inr (by decide))).trans ((jw_ne e75441 (Or.inr (by decide))).trans ew2))), (((jw_eq e75458))).trans (show (w1 + 2) = nm3 (bC h) w1 by unfold nm3; rw [(bC_at (p := w1) k75458 (fun _ => rfl) ew0 (((jw_ne e75458 (Or.inl (by decide))).trans ((jw_ne e75441 (Or.inl (by decide))).trans ev75413))) (by omega) (by omega)), (bC_at (p := (w1 + 1)) k75458 (fun _ => rfl) ew0 (((jw_ne e75458 (Or.inl (by decide))).trans ev75447)) (by omega) (by omega)), (bC_at (p := (w1 + 2)) k75458 (fun _ => rfl) ew0 (ev75464) (by omega) (by omega))]; (repeat' split) <;> omega)⟩⟩
                  · refine ev_iconst ?_
                    refine ev_goto f69_23 ?_
                    refine ev_ret rfl (by decide) (by decide) ?_
                    show jEv _ _ _ _ _ _ _ (_, [(2, 7), (0, 3), (0, (10 * v75414 + v75448 - 528)), (0, 2)], [(0, 1)], _, _, _)
                    refine ev_ifeq f76_63 (fun c75472 => absurd c75472 (by omega)) (fun c75472 => ?_)
                    refine ev_bipush ?_
                    refine ev_iload_n rfl ?_
                    refine ev_imul (r := (100 * v75414 + 10 * v75448 - 5280)) (by unfold w32; omega) ?_
                    refine ev_aload_n rfl ?_
                    refine ev_in (d := 1) (a := 0) (b := 0) (cd' := c68_0) (m := 1) (L0 := [(2, 7)]) (jcall_v (A := []) (S' := [(0, (100 * v75414 + 10 * v75448 - 5280))]) (r := 7) rfl (g75458.lt ad7) (g75458.tg ad7) (Nat.le_of_ble_eq_true rfl)) (by decide) ml68 pp68 (Nat.le_of_ble_eq_true rfl) rfl (by decide) (by decide) ?_
                    refine ev_aload_n rfl ?_
                    refine g_getv (r := 7) (v := (w1 + 2)) g75458 ad7 (by decide) ft5_2 ((jw_eq e75458)) ?_
                    refine ev_aload_n rfl ?_
                    refine g_getv (r := 7) (v := w0) g75458 ad7 (by decide) ft5_0 (((jw_ne e75458 (Or.inr (by decide))).trans ((jw_ne e75441 (Or.inr (by decide))).trans ew0))) ?_
                    refine ev_icmpge f68_27 (fun c75473 => absurd c75473 (by omega)) (fun c75473 => ?_)
                    refine ev_aload_n rfl ?_
                    refine g_getp (r := 7) (c := 8) g75458 ad7 (by decide) (by decide) rf7_5 ft5_5 ?_
                    refine ev_aload_n rfl ?_
                    refine g_getv (r := 7) (v := (w1 + 2)) g75458 ad7 (by decide) ft5_2 ((jw_eq e75458)) ?_
                    refine g_baldv (v := v75464) g75458 ad8 (by omega) (by omega) (ev75464) ?_
                    refine ev_sipush ?_
                    refine g_iandB (b := 255) (by omega) (by omega) (by decide) (fun v75474 ev75474 lv75474 uv75474 => ?_)
                    obtain rfl : v75465 = v75474 := by omega
                    refine ev_goto f68_28 ?_
                    refine ev_ret rfl (by decide) (by decide) ?_
                    show jEv _ _ _ _ _ _ _ (_, [(2, 7), (0, 3), (0, (10 * v75414 + v75448 - 528)), (0, 2)], [(0, v75465), (0, (100 * v75414 + 10 * v75448 - 5280))], _, _, _)
                    refine ev_iadd (r := (100 * v75414 + 10 * v75448 + v75465 - 5280)) (by unfold w32; omega) ?_
                    refine ev_bipush ?_
                    refine ev_isub (r := (100 * v75414 + 10 * v75448 + v75465 - 5328)) (by unfold w32; omega) ?_
                    refine ev_istore_n (L' := [(2, 7), (0, 3), (0, (100 * v75414 + 10 * v75448 + v75465 - 5328)), (0, 2)]) (Nat.le_of_ble_eq_true rfl) rfl ?_
                    refine ev_aload_n rfl ?_
                    refine ev_dup (by decide) ?_
                    refine g_getv (r := 7) (v := (w1 + 2)) g75458 ad7 (by decide) ft5_2 ((jw_eq e75458)) ?_
                    refine ev_iconst ?_
                    refine ev_iadd (r := (w1 + 3)) (by unfold w32; omega) ?_
                    refine g_putf (r := 7) g75458 ad7 (by decide) ft5_2 (by decide) (fun e => absurd e nz5_2) rf7_2 (by decide) (by omega) (by omega) (fun h75475 e75475 g75475 => ?_)
                    have k75475 := k75458.wr e75475 rfl
                    refine ev_iinc (w := 3) (L' := [(2, 7), (0, 3), (0, (100 * v75414 + 10 * v75448 + v75465 - 5328)), (0, 3)]) rfl (by decide) rfl ?_
                    refine ev_goto f76_15 ?_
                    refine ev_iload_n rfl ?_
                    refine ev_iload_n rfl ?_
                    refine ev_icmpge f76_63 (fun c75476 => ?_) (fun c75476 => absurd c75476 (by omega))
                    refine ev_iload_n rfl ?_
                    exact ev_ret rfl (by decide) (by decide) ⟨_, rfl, g75475, k75475, by omega, by omega, Or.inl ⟨(((jw_ne e75475 (Or.inr (by decide))).trans ((jw_ne e75458 (Or.inr (by decide))).trans ((jw_ne e75441 (Or.inr (by decide))).trans ew2)))), (((jw_eq e75475))).trans (show (w1 + 3) = nm3 (bC h) w1 by unfold nm3; rw [(bC_at (p := w1) k75475 (fun _ => rfl) ew0 (((jw_ne e75475 (Or.inl (by decide))).trans ((jw_ne e75458 (Or.inl (by decide))).trans ((jw_ne e75441 (Or.inl (by decide))).trans ev75413)))) (by omega) (by omega)), (bC_at (p := (w1 + 1)) k75475 (fun _ => rfl) ew0 (((jw_ne e75475 (Or.inl (by decide))).trans ((jw_ne e75458 (Or.inl (by decide))).trans ev75447))) (by omega) (by omega)), (bC_at (p := (w1 + 2)) k75475 (fun _ => rfl) ew0 (((jw_ne e75475 (Or.inl (by decide))).trans ev75464)) (by omega) (by omega))]; (repeat' split) <;> omega)⟩⟩
set_option maxHeartbeats 4000000 in
theorem t75 {G : GH} {h : JH} (g : Gd G h) {w0 : Int} (ew0 : h.2.2 7 0 = w0) (lw0 : 0 ≤ w0) (uw0 : w0 ≤ 200) {w1 : Int} (ew1 : h.2.2 7 2 = w1) (lw1 : 0 ≤ w1) (uw1 : w1 ≤ 200) (ew2 : h.2.2 7 1 = (-1)) {w3 : Int} (ew3 : h.2.2 7 3 = w3) (lw3 : 0 ≤ w3) (uw3 : w3 ≤ 200) (F0 : ((-w1) + w3) ≤ 0) : jOk 4 0 0 75 [(2, 7)] h (fun v h' => ∃ r : Int, v = some (0, r) ∧ Gd G h' ∧ Kp [(7, 2), (7, 3), (7, 4), (10, 0), (11, 0), (12, 0), (13, 0), (14, 0), (15, 0), (16, 0), (17, 0)] h h' ∧ (-1) ≤ r ∧ r ≤ 199 ∧ Rp h h' w3 (if bC h w1 = 45 then enR (bC h) (w1 + 1) else enR (bC h) w1) r) := by
  refine ⟨by decide, by rw [ml75]; exact Nat.le_of_ble_eq_true rfl, ?_⟩
  rw [ml75, pp75]
  show jEv _ none _ c75_0 0 0 _ (c75_0, [(2, 7), (9, 0), (9, 0), (9, 0)], [], h, 0, 0)
  have k0 := Kp.rf [(7, 2), (7, 3), (7, 4), (10, 0), (11, 0), (12, 0), (13, 0), (14, 0), (15, 0), (16, 0), (17, 0)] h
  refine ev_aload_n rfl ?_
  refine ev_in (d := 2) (a := 0) (b := 0) (cd' := c68_0) (m := 1) (L0 := [(2, 7)]) (jcall_v (A := []) (S' := []) (r := 7) rfl (g.lt ad7) (g.tg ad7) (Nat.le_of_ble_eq_true rfl)) (by decide) ml68 pp68 (Nat.le_of_ble_eq_true rfl) rfl (by decide) (by decide) ?_
  refine ev_aload_n rfl ?_
  refine g_getv (r := 7) (v := w1) g ad7 (by decide) ft5_2 (ew1) ?_
  refine ev_aload_n rfl ?_
  refine g_getv (r := 7) (v := w0) g ad7 (by decide) ft5_0 (ew0) ?_
  refine ev_icmpge f68_27 (fun c75651 => ?_) (fun c75651 => ?_)
  · refine ev_iconst ?_
    refine ev_ret rfl (by decide) (by decide) ?_
    show jEv _ _ _ _ _ _ _ (_, [(2, 7), (9, 0), (9, 0), (9, 0)], [(0, (-1))], _, _, _)
    refine ev_bipush ?_
    refine ev_icmpne f75_13 (fun c75652 => ?_) (fun c75652 => absurd c75652 (by omega))
    refine ev_iconst ?_
    refine ev_istore_n (L' := [(2, 7), (0, 0), (9, 0), (9, 0)]) (Nat.le_of_ble_eq_true rfl) rfl ?_
    refine ev_iload_n rfl ?_
    refine ev_ifeq f75_29 (fun c75653 => ?_) (fun c75653 => absurd c75653 (by omega))
    refine ev_aload_n rfl ?_
    refine ev_iconst ?_
    refine ev_call (jcall_v (A := [(0, 3)]) (S' := []) (r := 7) rfl (g.lt ad7) (g.tg ad7) (Nat.le_of_ble_eq_true rfl)) (jOk_le (by decide) (t76_3 g (ew0) (by omega) (by omega) (ew1) (by omega) (by omega) (ew2))) (by decide) (by decide) (fun w75654 h75654 q75654 => ?_)
    obtain ⟨v75655, rfl, g75654, kk75654, lv75655, uv75655, X75654⟩ := q75654
    have k75654 := k0.tr kk75654 (by decide)
    show jEv _ _ _ _ _ _ _ (_, [(2, 7), (0, 0), (9, 0), (9, 0)], [(0, v75655)], _, _, _)
    have N75656 := X75654
    rw [bC_kp k0 (fun _ => rfl) rfl] at N75656
    rcases N75656 with ⟨F75656, A75656⟩ | ⟨F75656, A75656⟩
    · obtain ⟨v75657, ev75657⟩ : ∃ q : Int, nm3 (bC h) w1 = q := ⟨_, rfl⟩
      rw [ev75657] at A75656
      have bv75657 := g75654.rg ad7 (i := 2) (by decide) rf7_2
      rw [A75656] at bv75657
      have nv75657 := nm3_f (bC h) w1 (by omega) (by omega)
      rw [ev75657] at nv75657
      refine ev_istore_n (L' := [(2, 7), (0, 0), (0, v75655), (9, 0)]) (Nat.le_of_ble_eq_true rfl) rfl ?_
      refine ev_aload_n rfl ?_
      refine ev_iconst ?_
      refine ev_in (d := 2) (a := 0) (b := 0) (cd' := c73_0) (m := 2) (L0 := [(2, 7), (0, 0)]) (jcall_v (A := [(0, 0)]) (S' := []) (r := 7) rfl (g75654.lt ad7) (g75654.tg ad7) (Nat.le_of_ble_eq_true rfl)) (by decide) ml73 pp73 (Nat.le_of_ble_eq_true rfl) rfl (by decide) (by decide) ?_
      refine ev_aload_n rfl ?_
      refine g_getv (r := 7) (v := w3) g75654 ad7 (by decide) ft5_3 (((kk75654.v (by decide)).trans ew3)) ?_
      refine ev_sipush ?_
      refine ev_icmplt f73_16 (fun c75658 => ?_) (fun c75658 => absurd c75658 (by omega))
      refine ev_aload_n rfl ?_
      refine g_getp (r := 7) (c := 10) g75654 ad7 (by decide) (by decide) rf7_7 ft5_7 ?_
      refine ev_aload_n rfl ?_
      refine g_getv (r := 7) (v := w3) g75654 ad7 (by decide) ft5_3 (((kk75654.v (by decide)).trans ew3)) ?_
      refine ev_iload_n rfl ?_
      refine g_iast g75654 ad10 rt10 (fun _ => rfl) (by omega) (by omega) (by omega) (by omega) (fun h75659 e75659 g75659 => ?_)
      have k75659 := k75654.wr e75659 rfl
      refine ev_aload_n rfl ?_
      refine g_getp (r := 7) (c := 11) g75659 ad7 (by decide) (by decide) rf7_8 ft5_8 ?_
      refine ev_aload_n rfl ?_
      refine g_getv (r := 7) (v := w3) g75659 ad7 (by decide) ft5_3 (((jw_ne e75659 (Or.inl (by decide))).trans ((kk75654.v (by decide)).trans ew3))) ?_
      refine ev_iconst ?_
      refine g_iast g75659 ad11 rt11 (fun _ => rfl) (by omega) (by omega) (by omega) (by omega) (fun h75660 e75660 g75660 => ?_)
      have k75660 := k75659.wr e75660 rfl
      refine ev_aload_n rfl ?_
      refine g_getp (r := 7) (c := 12) g75660 ad7 (by decide) (by decide) rf7_9 ft5_9 ?_
      refine ev_aload_n rfl ?_
      refine g_getv (r := 7) (v := w3) g75660 ad7 (by decide) ft5_3 (((jw_ne e75660 (Or.inl (by decide))).trans ((jw_ne e75659 (Or.inl (by decide))).trans ((kk75654.v (by decide)).trans ew3)))) ?_
      refine ev_iconst ?_
      refine g_iast g75660 ad12 rt12 (fun _ => rfl) (by omega) (by omega) (by omega) (by omega) (fun h75661 e75661 g75661 => ?_)
      have k75661 := k75660.wr e75661 rfl
      refine ev_aload_n rfl ?_
      refine g_getp (r := 7) (c := 15) g75661 ad7 (by decide) (by decide) rf7_12 ft5_12 ?_
      refine ev_aload_n rfl ?_
      refine g_getv (r := 7) (v := w3) g75661 ad7 (by decide) ft5_3 (((jw_ne e75661 (Or.inl (by decide))).trans ((jw_ne e75660 (Or.inl (by decide))).trans ((jw_ne e75659 (Or.inl (by decide))).trans ((kk75654.v (by decide)).trans ew3))))) ?_
      refine ev_iconst ?_
      refine g_iast g75661 ad15 rt15 (fun _ => rfl) (by omega) (by omega) (by omega) (by omega) (fun h75662 e75662 g75662 => ?_)
      have k75662 := k75661.wr e75662 rfl
      refine ev_aload_n rfl ?_
      refine g_getp (r := 7) (c := 16) g75662 ad7 (by decide) (by decide) rf7_13 ft5_13 ?_
      refine ev_aload_n rfl ?_
      refine g_getv (r := 7) (v := w3) g75662 ad7 (by decide) ft5_3 (((jw_ne e75662 (Or.inl (by decide))).trans ((jw_ne e75661 (Or.inl (by decide))).trans ((jw_ne e75660 (Or.inl (by decide))).trans ((jw_ne e75659 (Or.inl (by decide))).trans ((kk75654.v (by decide)).trans ew3)))))) ?_
      refine ev_iconst ?_
      refine g_iast g75662 ad16 rt16 (fun _ => rfl) (by omega) (by omega) (by omega) (by omega) (fun h75663 e75663 g75663 => ?_)
      have k75663 := k75662.wr e75663 rfl
      refine ev_aload_n rfl ?_
      refine g_getp (r := 7) (c := 17) g75663 ad7 (by decide) (by decide) rf7_14 ft5_14 ?_
      refine ev_aload_n rfl ?_
      refine g_getv (r := 7) (v := w3) g75663 ad7 (by decide) ft5_3 (((jw_ne e75663 (Or.inl (by decide))).trans ((jw_ne e75662 (Or.inl (by decide))).trans ((jw_ne e75661 (Or.inl (by decide))).trans ((jw_ne e75660 (Or.inl (by decide))).trans ((jw_ne e75659 (Or.inl (by decide))).trans ((kk75654.v (by decide)).trans ew3))))))) ?_
      refine ev_iconst ?_
      refine g_iast g75663 ad17 rt17 (fun _ => rfl) (by omega) (by omega) (by omega) (by omega) (fun h75664 e75664 g75664 => ?_)
      have k75664 := k75663.wr e75664 rfl
      refine ev_aload_n rfl ?_
      refine ev_dup (by decide) ?_
      refine g_getv (r := 7) (v := w3) g75664 ad7 (by decide) ft5_3 (((jw_ne e75664 (Or.inl (by decide))).trans ((jw_ne e75663 (Or.inl (by decide))).trans ((jw_ne e75662 (Or.inl (by decide))).trans ((jw_ne e75661 (Or.inl (by decide))).trans ((jw_ne e75660 (Or.inl (by decide))).trans ((jw_ne e75659 (Or.inl (by decide))).trans ((kk75654.v (by decide)).trans ew3)))))))) ?_
      refine ev_iconst ?_
      refine ev_iadd (r := (w3 + 1)) (by unfold w32; omega) ?_
      refine g_putf (r := 7) g75664 ad7 (by decide) ft5_3 (by decide) (fun e => absurd e nz5_3) rf7_3 (by decide) (by omega) (by omega) (fun h75665 e75665 g75665 => ?_)
      have k75665 := k75664.wr e75665 rfl
      refine ev_aload_n rfl ?_
      refine g_getv (r := 7) (v := (w3 + 1)) g75665 ad7 (by decide) ft5_3 ((jw_eq e75665)) ?_
      refine ev_iconst ?_
      refine ev_isub (r := w3) (by unfold w32; omega) ?_
      refine ev_ret rfl (by decide) (by decide) ?_
      show jEv _ _ _ _ _ _ _ (_, [(2, 7), (0, 0), (0, v75655), (9, 0)], [(0, w3)], _, _, _)
      refine ev_istore_n (L' := [(2, 7), (0, 0), (0, v75655), (0, w3)]) (Nat.le_of_ble_eq_true rfl) rfl ?_
      refine ev_aload_n rfl ?_
      refine g_getv (r := 7) (v := (-1)) g75665 ad7 (by decide) ft5_1 (((jw_ne e75665 (Or.inr (by decide))).trans ((jw_ne e75664 (Or.inl (by decide))).trans ((jw_ne e75663 (Or.inl (by decide))).trans ((jw_ne e75662 (Or.inl (by decide))).trans ((jw_ne e75661 (Or.inl (by decide))).trans ((jw_ne e75660 (Or.inl (by decide))).trans ((jw_ne e75659 (Or.inl (by decide))).trans F75656)))))))) ?_
      refine ev_ifge f75_52 (fun c75666 => absurd c75666 (by omega)) (fun c75666 => ?_)
      refine ev_iload_n rfl ?_
      refine ev_ifge f75_54 (fun c75667 => ?_) (fun c75667 => absurd c75667 (by omega))
      refine ev_aload_n rfl ?_
      refine g_getp (r := 7) (c := 11) g75665 ad7 (by decide) (by decide) rf7_8 ft5_8 ?_
      refine ev_iload_n rfl ?_
      refine ev_iload_n rfl ?_
      refine ev_ifeq f75_68 (fun c75668 => ?_) (fun c75668 => absurd c75668 (by omega))
      refine ev_iload_n rfl ?_
      refine g_iast g75665 ad11 rt11 (fun _ => rfl) (by omega) (by omega) (by omega) (by omega) (fun h75669 e75669 g75669 => ?_)
      have k75669 := k75665.wr e75669 rfl
      refine ev_iload_n rfl ?_
      exact ev_ret rfl (by decide) (by decide) ⟨_, rfl, g75669, k75669, by omega, by omega, Rp.good (((FrN.wr (i := w3) (FrN.wr (i := w3) (FrN.wr (i := w3) (((((FrN.rf _ _).kp kk75654 (fun _ => rfl) (fun _ => rfl) (fun _ => rfl)).wn e75659 (by decide)).wn e75660 (by decide)).wn e75661 (by decide)) e75662 (Or.inr (by omega))) e75663 (Or.inr (by omega))) e75664 (Or.inr (by omega))).wn e75665 (by decide)).wn e75669 (by decide)) (((jw_ne e75669 (Or.inl (by decide))).trans (jw_eq e75665))) (by omega) (by rw [if_neg (fun z => absurd ((bC_end (p := w1) ew0 (by omega)).symm.trans z) (by omega))]; unfold enR; rw [if_neg (by rw [ev75657]; omega), ev75657]) (by omega) (((jw_ne e75669 (Or.inl (by decide))).trans ((jw_ne e75665 (Or.inr (by decide))).trans ((jw_ne e75664 (Or.inl (by decide))).trans ((jw_ne e75663 (Or.inl (by decide))).trans ((jw_ne e75662 (Or.inl (by decide))).trans ((jw_ne e75661 (Or.inl (by decide))).trans ((jw_ne e75660 (Or.inl (by decide))).trans ((jw_ne e75659 (Or.inl (by decide))).trans F75656))))))))) (((jw_ne e75669 (Or.inl (by decide))).trans ((jw_ne e75665 (Or.inr (by decide))).trans ((jw_ne e75664 (Or.inl (by decide))).trans ((jw_ne e75663 (Or.inl (by decide))).trans ((jw_ne e75662 (Or.inl (by decide))).trans ((jw_ne e75661 (Or.inl (by decide))).trans ((jw_ne e75660 (Or.inl (by decide))).trans ((jw_ne e75659 (Or.inl (by decide))).trans A75656))))))))) (by omega) (by omega) (by omega) (by omega) (((jw_ne e75669 (Or.inl (by decide))).trans ((jw_ne e75665 (Or.inl (by decide))).trans ((jw_ne e75664 (Or.inl (by decide))).trans ((jw_ne e75663 (Or.inl (by decide))).trans (jw_eq e75662)))))) rfl (((jw_ne e75669 (Or.inl (by decide))).trans ((jw_ne e75665 (Or.inl (by decide))).trans ((jw_ne e75664 (Or.inl (by decide))).trans (jw_eq e75663))))) rfl (((jw_ne e75669 (Or.inl (by decide))).trans ((jw_ne e75665 (Or.inl (by decide))).trans (jw_eq e75664)))) rfl⟩
    · refine ev_istore_n (L' := [(2, 7), (0, 0), (0, v75655), (9, 0)]) (Nat.le_of_ble_eq_true rfl) rfl ?_
      refine ev_aload_n rfl ?_
      refine ev_iconst ?_
      refine ev_in (d := 2) (a := 0) (b := 0) (cd' := c73_0) (m := 2) (L0 := [(2, 7), (0, 0)]) (jcall_v (A := [(0, 0)]) (S' := []) (r := 7) rfl (g75654.lt ad7) (g75654.tg ad7) (Nat.le_of_ble_eq_true rfl)) (by decide) ml73 pp73 (Nat.le_of_ble_eq_true rfl) rfl (by decide) (by decide) ?_
      refine ev_aload_n rfl ?_
      refine g_getv (r := 7) (v := w3) g75654 ad7 (by decide) ft5_3 (((kk75654.v (by decide)).trans ew3)) ?_
      refine ev_sipush ?_
      refine ev_icmplt f73_16 (fun c75670 => ?_) (fun c75670 => ?_)
      · refine ev_aload_n rfl ?_
        refine g_getp (r := 7) (c := 10) g75654 ad7 (by decide) (by decide) rf7_7 ft5_7 ?_
        refine ev_aload_n rfl ?_
        refine g_getv (r := 7) (v := w3) g75654 ad7 (by decide) ft5_3 (((kk75654.v (by decide)).trans ew3)) ?_
        refine ev_iload_n rfl ?_
        refine g_iast g75654 ad10 rt10 (fun _ => rfl) (by omega) (by omega) (by omega) (by omega) (fun h75671 e75671 g75671 => ?_)
        have k75671 := k75654.wr e75671 rfl
        refine ev_aload_n rfl ?_
        refine g_getp (r := 7) (c := 11) g75671 ad7 (by decide) (by decide) rf7_8 ft5_8 ?_
        refine ev_aload_n rfl ?_
        refine g_getv (r := 7) (v := w3) g75671 ad7 (by decide) ft5_3 (((jw_ne e75671 (Or.inl (by decide))).trans ((kk75654.v (by decide)).trans ew3))) ?_
        refine ev_iconst ?_
        refine g_iast g75671 ad11 rt11 (fun _ => rfl) (by omega) (by omega) (by omega) (by omega) (fun h75672 e75672 g75672 => ?_)
        have k75672 := k75671.wr e75672 rfl
        refine ev_aload_n rfl ?_
        refine g_getp (r := 7) (c := 12) g75672 ad7 (by decide) (by decide) rf7_9 ft5_9 ?_
        refine ev_aload_n rfl ?_
        refine g_getv (r := 7) (v := w3) g75672 ad7 (by decide) ft5_3 (((jw_ne e75672 (Or.inl (by decide))).trans ((jw_ne e75671 (Or.inl (by decide))).trans ((kk75654.v (by decide)).trans ew3)))) ?_
        refine ev_iconst ?_
        refine g_iast g75672 ad12 rt12 (fun _ => rfl) (by omega) (by omega) (by omega) (by omega) (fun h75673 e75673 g75673 => ?_)
        have k75673 := k75672.wr e75673 rfl
        refine ev_aload_n rfl ?_
        refine g_getp (r := 7) (c := 15) g75673 ad7 (by decide) (by decide) rf7_12 ft5_12 ?_
        refine ev_aload_n rfl ?_
        refine g_getv (r := 7) (v := w3) g75673 ad7 (by decide) ft5_3 (((jw_ne e75673 (Or.inl (by decide))).trans ((jw_ne e75672 (Or.inl (by decide))).trans ((jw_ne e75671 (Or.inl (by decide))).trans ((kk75654.v (by decide)).trans ew3))))) ?_
        refine ev_iconst ?_
        refine g_iast g75673 ad15 rt15 (fun _ => rfl) (by omega) (by omega) (by omega) (by omega) (fun h75674 e75674 g75674 => ?_)
        have k75674 := k75673.wr e75674 rfl
        refine ev_aload_n rfl ?_
        refine g_getp (r := 7) (c := 16) g75674 ad7 (by decide) (by decide) rf7_13 ft5_13 ?_
        refine ev_aload_n rfl ?_
        refine g_getv (r := 7) (v := w3) g75674 ad7 (by decide) ft5_3 (((jw_ne e75674 (Or.inl (by decide))).trans ((jw_ne e75673 (Or.inl (by decide))).trans ((jw_ne e75672 (Or.inl (by decide))).trans ((jw_ne e75671 (Or.inl (by decide))).trans ((kk75654.v (by decide)).trans ew3)))))) ?_
        refine ev_iconst ?_
        refine g_iast g75674 ad16 rt16 (fun _ => rfl) (by omega) (by omega) (by omega) (by omega) (fun h75675 e75675 g75675 => ?_)
        have k75675 := k75674.wr e75675 rfl
        refine ev_aload_n rfl ?_
        refine g_getp (r := 7) (c := 17) g75675 ad7 (by decide) (by decide) rf7_14 ft5_14 ?_
        refine ev_aload_n rfl ?_
        refine g_getv (r := 7) (v := w3) g75675 ad7 (by decide) ft5_3 (((jw_ne e75675 (Or.inl (by decide))).trans ((jw_ne e75674 (Or.inl (by decide))).trans ((jw_ne e75673 (Or.inl (by decide))).trans ((jw_ne e75672 (Or.inl (by decide))).trans ((jw_ne e75671 (Or.inl (by decide))).trans ((kk75654.v (by decide)).trans ew3))))))) ?_
        refine ev_iconst ?_
        refine g_iast g75675 ad17 rt17 (fun _ => rfl) (by omega) (by omega) (by omega) (by omega) (fun h75676 e75676 g75676 => ?_)
        have k75676 := k75675.wr e75676 rfl
        refine ev_aload_n rfl ?_
        refine ev_dup (by decide) ?_
        refine g_getv (r := 7) (v := w3) g75676 ad7 (by decide) ft5_3 (((jw_ne e75676 (Or.inl (by decide))).trans ((jw_ne e75675 (Or.inl (by decide))).trans ((jw_ne e75674 (Or.inl (by decide))).trans ((jw_ne e75673 (Or.inl (by decide))).trans ((jw_ne e75672 (Or.inl (by decide))).trans ((jw_ne e75671 (Or.inl (by decide))).trans ((kk75654.v (by decide)).trans ew3)))))))) ?_
        refine ev_iconst ?_
        refine ev_iadd (r := (w3 + 1)) (by unfold w32; omega) ?_
        refine g_putf (r := 7) g75676 ad7 (by decide) ft5_3 (by decide) (fun e => absurd e nz5_3) rf7_3 (by decide) (by omega) (by omega) (fun h75677 e75677 g75677 => ?_)
        have k75677 := k75676.wr e75677 rfl
        refine ev_aload_n rfl ?_
        refine g_getv (r := 7) (v := (w3 + 1)) g75677 ad7 (by decide) ft5_3 ((jw_eq e75677)) ?_
        refine ev_iconst ?_
        refine ev_isub (r := w3) (by unfold w32; omega) ?_
        refine ev_ret rfl (by decide) (by decide) ?_
        show jEv _ _ _ _ _ _ _ (_, [(2, 7), (0, 0), (0, v75655), (9, 0)], [(0, w3)], _, _, _)
        refine ev_istore_n (L' := [(2, 7), (0, 0), (0, v75655), (0, w3)]) (Nat.le_of_ble_eq_true rfl) rfl ?_
        refine ev_aload_n rfl ?_
        refine g_getv (r := 7) (v := w1) g75677 ad7 (by decide) ft5_1 (((jw_ne e75677 (Or.inr (by decide))).trans ((jw_ne e75676 (Or.inl (by decide))).trans ((jw_ne e75675 (Or.inl (by decide))).trans ((jw_ne e75674 (Or.inl (by decide))).trans ((jw_ne e75673 (Or.inl (by decide))).trans ((jw_ne e75672 (Or.inl (by decide))).trans ((jw_ne e75671 (Or.inl (by decide))).trans A75656)))))))) ?_
        refine ev_ifge f75_52 (fun c75678 => ?_) (fun c75678 => absurd c75678 (by omega))
        refine ev_iconst ?_
        exact ev_ret rfl (by decide) (by decide) ⟨_, rfl, g75677, k75677, by omega, by omega, Rp.bad ((FrN.wr (i := w3) (FrN.wr (i := w3) (FrN.wr (i := w3) (((((FrN.rf _ _).kp kk75654 (fun _ => rfl) (fun _ => rfl) (fun _ => rfl)).wn e75671 (by decide)).wn e75672 (by decide)).wn e75673 (by decide)) e75674 (Or.inr (by omega))) e75675 (Or.inr (by omega))) e75676 (Or.inr (by omega))).wn e75677 (by decide)) ((jw_eq e75677)) (by omega) (by rw [if_neg (fun z => absurd ((bC_end (p := w1) ew0 (by omega)).symm.trans z) (by omega))]; unfold enR; rw [if_pos (by rw [F75656]; omega)]) (by omega) (((jw_ne e75677 (Or.inr (by decide))).trans ((jw_ne e75676 (Or.inl (by decide))).trans ((jw_ne e75675 (Or.inl (by decide))).trans ((jw_ne e75674 (Or.inl (by decide))).trans ((jw_ne e75673 (Or.inl (by decide))).trans ((jw_ne e75672 (Or.inl (by decide))).trans ((jw_ne e75671 (Or.inl (by decide))).trans A75656)))))))) (by omega)⟩
      · refine ev_aload_n rfl ?_
        refine ev_in (d := 1) (a := 0) (b := 0) (cd' := c70_0) (m := 1) (L0 := [(2, 7)]) (jcall_v (A := []) (S' := []) (r := 7) rfl (g75654.lt ad7) (g75654.tg ad7) (Nat.le_of_ble_eq_true rfl)) (by decide) ml70 pp70 (Nat.le_of_ble_eq_true rfl) rfl (by decide) (by decide) ?_
        refine ev_aload_n rfl ?_
        refine g_getv (r := 7) (v := w1) g75654 ad7 (by decide) ft5_1 (A75656) ?_
        refine ev_ifge f70_15 (fun c75679 => ?_) (fun c75679 => absurd c75679 (by omega))
        refine ev_ret rfl (by decide) (by decide) ?_
        show jEv _ _ _ _ _ _ _ (_, [(2, 7), (0, 0)], [], _, _, _)
        refine ev_iconst ?_
        refine ev_ret rfl (by decide) (by decide) ?_
        show jEv _ _ _ _ _ _ _ (_, [(2, 7), (0, 0), (0, v75655), (9, 0)], [(0, (-1))], _, _, _)
        refine ev_istore_n (L' := [(2, 7), (0, 0), (0, v75655), (0, (-1))]) (Nat.le_of_ble_eq_true rfl) rfl ?_
        refine ev_aload_n rfl ?_
        refine g_getv (r := 7) (v := w1) g75654 ad7 (by decide) ft5_1 (A75656) ?_
        refine ev_ifge f75_52 (fun c75680 => ?_) (fun c75680 => absurd c75680 (by omega))
        refine ev_iconst ?_
        exact ev_ret rfl (by decide) (by decide) ⟨_, rfl, g75654, k75654, by omega, by omega, Rp.bad ((FrN.rf _ _).kp kk75654 (fun _ => rfl) (fun _ => rfl) (fun _ => rfl)) (((kk75654.v (by decide)).trans ew3)) (by omega) (by rw [if_neg (fun z => absurd ((bC_end (p := w1) ew0 (by omega)).symm.trans z) (by omega))]; unfold enR; rw [if_pos (by rw [F75656]; omega)]) (by omega) (A75656) (by omega)⟩
  · refine ev_aload_n rfl ?_
    refine g_getp (r := 7) (c := 8) g ad7 (by decide) (by decide) rf7_5 ft5_5 ?_
    refine ev_aload_n rfl ?_
    refine g_getv (r := 7) (v := w1) g ad7 (by decide) ft5_2 (ew1) ?_
    refine g_bald g ad8 rt8 (by omega) (by omega) (fun v75681 ev75681 lv75681 uv75681 => ?_)
    refine ev_sipush ?_
    refine g_iandB (b := 255) (by omega) (by omega) (by decide) (fun v75682 ev75682 lv75682 uv75682 => ?_)
    have zv75682 := sgn ev75682 (by omega) (by omega)
    refine ev_goto f68_28 ?_
    refine ev_ret rfl (by decide) (by decide) ?_
    show jEv _ _ _ _ _ _ _ (_, [(2, 7), (9, 0), (9, 0), (9, 0)], [(0, v75682)], _, _, _)
    refine ev_bipush ?_
    refine ev_icmpne f75_13 (fun c75683 => ?_) (fun c75683 => ?_)
    · refine ev_iconst ?_
      refine ev_istore_n (L' := [(2, 7), (0, 0), (9, 0), (9, 0)]) (Nat.le_of_ble_eq_true rfl) rfl ?_
      refine ev_iload_n rfl ?_
      refine ev_ifeq f75_29 (fun c75684 => ?_) (fun c75684 => absurd c75684 (by omega))
      refine ev_aload_n rfl ?_
      refine ev_iconst ?_
      refine ev_call (jcall_v (A := [(0, 3)]) (S' := []) (r := 7) rfl (g.lt ad7) (g.tg ad7) (Nat.le_of_ble_eq_true rfl)) (jOk_le (by decide) (t76_3 g (ew0) (by omega) (by omega) (ew1) (by omega) (by omega) (ew2))) (by decide) (by decide) (fun w75685 h75685 q75685 => ?_)
      obtain ⟨v75686, rfl, g75685, kk75685, lv75686, uv75686, X75685⟩ := q75685
      have k75685 := k0.tr kk75685 (by decide)
      show jEv _ _ _ _ _ _ _ (_, [(2, 7), (0, 0), (9, 0), (9, 0)], [(0, v75686)], _, _, _)
      have N75687 := X75685
      rw [bC_kp k0 (fun _ => rfl) rfl] at N75687
      rcases N75687 with ⟨F75687, A75687⟩ | ⟨F75687, A75687⟩
      · obtain ⟨v75688, ev75688⟩ : ∃ q : Int, nm3 (bC h) w1 = q := ⟨_, rfl⟩
        rw [ev75688] at A75687
        have bv75688 := g75685.rg ad7 (i := 2) (by decide) rf7_2
        rw [A75687] at bv75688
        have nv75688 := nm3_f (bC h) w1 (by omega) (by omega)
        rw [ev75688] at nv75688
        refine ev_istore_n (L' := [(2, 7), (0, 0), (0, v75686), (9, 0)]) (Nat.le_of_ble_eq_true rfl) rfl ?_
        refine ev_aload_n rfl ?_
        refine ev_iconst ?_
        refine ev_in (d := 2) (a := 0) (b := 0) (cd' := c73_0) (m := 2) (L0 := [(2, 7), (0, 0)]) (jcall_v (A := [(0, 0)]) (S' := []) (r := 7) rfl (g75685.lt ad7) (g75685.tg ad7) (Nat.le_of_ble_eq_true rfl)) (by decide) ml73 pp73 (Nat.le_of_ble_eq_true rfl) rfl (by decide) (by decide) ?_
        refine ev_aload_n rfl ?_
        refine g_getv (r := 7) (v := w3) g75685 ad7 (by decide) ft5_3 (((kk75685.v (by decide)).trans ew3)) ?_
        refine ev_sipush ?_
        refine ev_icmplt f73_16 (fun c75689 => ?_) (fun c75689 => absurd c75689 (by omega))
        refine ev_aload_n rfl ?_
        refine g_getp (r := 7) (c := 10) g75685 ad7 (by decide) (by decide) rf7_7 ft5_7 ?_
        refine ev_aload_n rfl ?_
        refine g_getv (r := 7) (v := w3) g75685 ad7 (by decide) ft5_3 (((kk75685.v (by decide)).trans ew3)) ?_
        refine ev_iload_n rfl ?_
        refine g_iast g75685 ad10 rt10 (fun _ => rfl) (by omega) (by omega) (by omega) (by omega) (fun h75690 e75690 g75690 => ?_)
        have k75690 := k75685.wr e75690 rfl
        refine ev_aload_n rfl ?_
        refine g_getp (r := 7) (c := 11) g75690 ad7 (by decide) (by decide) rf7_8 ft5_8 ?_
        refine ev_aload_n rfl ?_
        refine g_getv (r := 7) (v := w3) g75690 ad7 (by decide) ft5_3 (((jw_ne e75690 (Or.inl (by decide))).trans ((kk75685.v (by decide)).trans ew3))) ?_
        refine ev_iconst ?_
        refine g_iast g75690 ad11 rt11 (fun _ => rfl) (by omega) (by omega) (by omega) (by omega) (fun h75691 e75691 g75691 => ?_)
        have k75691 := k75690.wr e75691 rfl
        refine ev_aload_n rfl ?_
        refine g_getp (r := 7) (c := 12) g75691 ad7 (by decide) (by decide) rf7_9 ft5_9 ?_
        refine ev_aload_n rfl ?_
        refine g_getv (r := 7) (v := w3) g75691 ad7 (by decide) ft5_3 (((jw_ne e75691 (Or.inl (by decide))).trans ((jw_ne e75690 (Or.inl (by decide))).trans ((kk75685.v (by decide)).trans ew3)))) ?_
        refine ev_iconst ?_
        refine g_iast g75691 ad12 rt12 (fun _ => rfl) (by omega) (by omega) (by omega) (by omega) (fun h75692 e75692 g75692 => ?_)
        have k75692 := k75691.wr e75692 rfl
        refine ev_aload_n rfl ?_
        refine g_getp (r := 7) (c := 15) g75692 ad7 (by decide) (by decide) rf7_12 ft5_12 ?_
        refine ev_aload_n rfl ?_
        refine g_getv (r := 7) (v := w3) g75692 ad7 (by decide) ft5_3 (((jw_ne e75692 (Or.inl (by decide))).trans ((jw_ne e75691 (Or.inl (by decide))).trans ((jw_ne e75690 (Or.inl (by decide))).trans ((kk75685.v (by decide)).trans ew3))))) ?_
        refine ev_iconst ?_
        refine g_iast g75692 ad15 rt15 (fun _ => rfl) (by omega) (by omega) (by omega) (by omega) (fun h75693 e75693 g75693 => ?_)
        have k75693 := k75692.wr e75693 rfl
        refine ev_aload_n rfl ?_
        refine g_getp (r := 7) (c := 16) g75693 ad7 (by decide) (by decide) rf7_13 ft5_13 ?_
        refine ev_aload_n rfl ?_
        refine g_getv (r := 7) (v := w3) g75693 ad7 (by decide) ft5_3 (((jw_ne e75693 (Or.inl (by decide))).trans ((jw_ne e75692 (Or.inl (by decide))).trans ((jw_ne e75691 (Or.inl (by decide))).trans ((jw_ne e75690 (Or.inl (by decide))).trans ((kk75685.v (by decide)).trans ew3)))))) ?_
        refine ev_iconst ?_
        refine g_iast g75693 ad16 rt16 (fun _ => rfl) (by omega) (by omega) (by omega) (by omega) (fun h75694 e75694 g75694 => ?_)
        have k75694 := k75693.wr e75694 rfl
        refine ev_aload_n rfl ?_
        refine g_getp (r := 7) (c := 17) g75694 ad7 (by decide) (by decide) rf7_14 ft5_14 ?_
        refine ev_aload_n rfl ?_
        refine g_getv (r := 7) (v := w3) g75694 ad7 (by decide) ft5_3 (((jw_ne e75694 (Or.inl (by decide))).trans ((jw_ne e75693 (Or.inl (by decide))).trans ((jw_ne e75692 (Or.inl (by decide))).trans ((jw_ne e75691 (Or.inl (by decide))).trans ((jw_ne e75690 (Or.inl (by decide))).trans ((kk75685.v (by decide)).trans ew3))))))) ?_
        refine ev_iconst ?_
        refine g_iast g75694 ad17 rt17 (fun _ => rfl) (by omega) (by omega) (by omega) (by omega) (fun h75695 e75695 g75695 => ?_)
        have k75695 := k75694.wr e75695 rfl
        refine ev_aload_n rfl ?_
        refine ev_dup (by decide) ?_
        refine g_getv (r := 7) (v := w3) g75695 ad7 (by decide) ft5_3 (((jw_ne e75695 (Or.inl (by decide))).trans ((jw_ne e75694 (Or.inl (by decide))).trans ((jw_ne e75693 (Or.inl (by decide))).trans ((jw_ne e75692 (Or.inl (by decide))).trans ((jw_ne e75691 (Or.inl (by decide))).trans ((jw_ne e75690 (Or.inl (by decide))).trans ((kk75685.v (by decide)).trans ew3)))))))) ?_
        refine ev_iconst ?_
        refine ev_iadd (r := (w3 + 1)) (by unfold w32; omega) ?_
        refine g_putf (r := 7) g75695 ad7 (by decide) ft5_3 (by decide) (fun e => absurd e nz5_3) rf7_3 (by decide) (by omega) (by omega) (fun h75696 e75696 g75696 => ?_)
        have k75696 := k75695.wr e75696 rfl
        refine ev_aload_n rfl ?_
        refine g_getv (r := 7) (v := (w3 + 1)) g75696 ad7 (by decide) ft5_3 ((jw_eq e75696)) ?_
        refine ev_iconst ?_
        refine ev_isub (r := w3) (by unfold w32; omega) ?_
        refine ev_ret rfl (by decide) (by decide) ?_
        show jEv _ _ _ _ _ _ _ (_, [(2, 7), (0, 0), (0, v75686), (9, 0)], [(0, w3)], _, _, _)
        refine ev_istore_n (L' := [(2, 7), (0, 0), (0, v75686), (0, w3)]) (Nat.le_of_ble_eq_true rfl) rfl ?_
        refine ev_aload_n rfl ?_
        refine g_getv (r := 7) (v := (-1)) g75696 ad7 (by decide) ft5_1 (((jw_ne e75696 (Or.inr (by decide))).trans ((jw_ne e75695 (Or.inl (by decide))).trans ((jw_ne e75694 (Or.inl (by decide))).trans ((jw_ne e75693 (Or.inl (by decide))).trans ((jw_ne e75692 (Or.inl (by decide))).trans ((jw_ne e75691 (Or.inl (by decide))).trans ((jw_ne e75690 (Or.inl (by decide))).trans F75687)))))))) ?_
        refine ev_ifge f75_52 (fun c75697 => absurd c75697 (by omega)) (fun c75697 => ?_)
        refine ev_iload_n rfl ?_
        refine ev_ifge f75_54 (fun c75698 => ?_) (fun c75698 => absurd c75698 (by omega))
        refine ev_aload_n rfl ?_
        refine g_getp (r := 7) (c := 11) g75696 ad7 (by decide) (by decide) rf7_8 ft5_8 ?_
        refine ev_iload_n rfl ?_
        refine ev_iload_n rfl ?_
        refine ev_ifeq f75_68 (fun c75699 => ?_) (fun c75699 => absurd c75699 (by omega))
        refine ev_iload_n rfl ?_
        refine g_iast g75696 ad11 rt11 (fun _ => rfl) (by omega) (by omega) (by omega) (by omega) (fun h75700 e75700 g75700 => ?_)
        have k75700 := k75696.wr e75700 rfl
        refine ev_iload_n rfl ?_
        exact ev_ret rfl (by decide) (by decide) ⟨_, rfl, g75700, k75700, by omega, by omega, Rp.good (((FrN.wr (i := w3) (FrN.wr (i := w3) (FrN.wr (i := w3) (((((FrN.rf _ _).kp kk75685 (fun _ => rfl) (fun _ => rfl) (fun _ => rfl)).wn e75690 (by decide)).wn e75691 (by decide)).wn e75692 (by decide)) e75693 (Or.inr (by omega))) e75694 (Or.inr (by omega))) e75695 (Or.inr (by omega))).wn e75696 (by decide)).wn e75700 (by decide)) (((jw_ne e75700 (Or.inl (by decide))).trans (jw_eq e75696))) (by omega) (by rw [if_neg (fun z => absurd ((bC_at (p := w1) k75700 (fun _ => rfl) ew0 (((jw_ne e75700 (Or.inl (by decide))).trans ((jw_ne e75696 (Or.inl (by decide))).trans ((jw_ne e75695 (Or.inl (by decide))).trans ((jw_ne e75694 (Or.inl (by decide))).trans ((jw_ne e75693 (Or.inl (by decide))).trans ((jw_ne e75692 (Or.inl (by decide))).trans ((jw_ne e75691 (Or.inl (by decide))).trans ((jw_ne e75690 (Or.inl (by decide))).trans ((kk75685.v rfl).trans ev75681)))))))))) (by omega) (by omega)).symm.trans z) (by omega))]; unfold enR; rw [if_neg (by rw [ev75688]; omega), ev75688]) (by omega) (((jw_ne e75700 (Or.inl (by decide))).trans ((jw_ne e75696 (Or.inr (by decide))).trans ((jw_ne e75695 (Or.inl (by decide))).trans ((jw_ne e75694 (Or.inl (by decide))).trans ((jw_ne e75693 (Or.inl (by decide))).trans ((jw_ne e75692 (Or.inl (by decide))).trans ((jw_ne e75691 (Or.inl (by decide))).trans ((jw_ne e75690 (Or.inl (by decide))).trans F75687))))))))) (((jw_ne e75700 (Or.inl (by decide))).trans ((jw_ne e75696 (Or.inr (by decide))).trans ((jw_ne e75695 (Or.inl (by decide))).trans ((jw_ne e75694 (Or.inl (by decide))).trans ((jw_ne e75693 (Or.inl (by decide))).trans ((jw_ne e75692 (Or.inl (by decide))).trans ((jw_ne e75691 (Or.inl (by decide))).trans ((jw_ne e75690 (Or.inl (by decide))).trans A75687))))))))) (by omega) (by omega) (by omega) (by omega) (((jw_ne e75700 (Or.inl (by decide))).trans ((jw_ne e75696 (Or.inl (by decide))).trans ((jw_ne e75695 (Or.inl (by decide))).trans ((jw_ne e75694 (Or.inl (by decide))).trans (jw_eq e75693)))))) rfl (((jw_ne e75700 (Or.inl (by decide))).trans ((jw_ne e75696 (Or.inl (by decide))).trans ((jw_ne e75695 (Or.inl (by decide))).trans (jw_eq e75694))))) rfl (((jw_ne e75700 (Or.inl (by decide))).trans ((jw_ne e75696 (Or.inl (by decide))).trans (jw_eq e75695)))) rfl⟩
      · refine ev_istore_n (L' := [(2, 7), (0, 0), (0, v75686), (9, 0)]) (Nat.le_of_ble_eq_true rfl) rfl ?_
        refine ev_aload_n rfl ?_
        refine ev_iconst ?_
        refine ev_in (d := 2) (a := 0) (b := 0) (cd' := c73_0) (m := 2) (L0 := [(2, 7), (0, 0)]) (jcall_v (A := [(0, 0)]) (S' := []) (r := 7) rfl (g75685.lt ad7) (g75685.tg ad7) (Nat.le_of_ble_eq_true rfl)) (by decide) ml73 pp73 (Nat.le_of_ble_eq_true rfl) rfl (by decide) (by decide) ?_
        refine ev_aload_n rfl ?_
        refine g_getv (r := 7) (v := w3) g75685 ad7 (by decide) ft5_3 (((kk75685.v (by decide)).trans ew3)) ?_
        refine ev_sipush ?_
        refine ev_icmplt f73_16 (fun c75701 => ?_) (fun c75701 => absurd c75701 (by omega))
        refine ev_aload_n rfl ?_
        refine g_getp (r := 7) (c := 10) g75685 ad7 (by decide) (by decide) rf7_7 ft5_7 ?_
        refine ev_aload_n rfl ?_
        refine g_getv (r := 7) (v := w3) g75685 ad7 (by decide) ft5_3 (((kk75685.v (by decide)).trans ew3)) ?_
        refine ev_iload_n rfl ?_
        refine g_iast g75685 ad10 rt10 (fun _ => rfl) (by omega) (by omega) (by omega) (by omega) (fun h75702 e75702 g75702 => ?_)
        have k75702 := k75685.wr e75702 rfl
        refine ev_aload_n rfl ?_
        refine g_getp (r := 7) (c := 11) g75702 ad7 (by decide) (by decide) rf7_8 ft5_8 ?_
        refine ev_aload_n rfl ?_
        refine g_getv (r := 7) (v := w3) g75702 ad7 (by decide) ft5_3 (((jw_ne e75702 (Or.inl (by decide))).trans ((kk75685.v (by decide)).trans ew3))) ?_
        refine ev_iconst ?_
        refine g_iast g75702 ad11 rt11 (fun _ => rfl) (by omega) (by omega) (by omega) (by omega) (fun h75703 e75703 g75703 => ?_)
        have k75703 := k75702.wr e75703 rfl
        refine ev_aload_n rfl ?_
        refine g_getp (r := 7) (c := 12) g75703 ad7 (by decide) (by decide) rf7_9 ft5_9 ?_
        refine ev_aload_n rfl ?_
        refine g_getv (r := 7) (v := w3) g75703 ad7 (by decide) ft5_3 (((jw_ne e75703 (Or.inl (by decide))).trans ((jw_ne e75702 (Or.inl (by decide))).trans ((kk75685.v (by decide)).trans ew3)))) ?_
        refine ev_iconst ?_
        refine g_iast g75703 ad12 rt12 (fun _ => rfl) (by omega) (by omega) (by omega) (by omega) (fun h75704 e75704 g75704 => ?_)
        have k75704 := k75703.wr e75704 rfl
        refine ev_aload_n rfl ?_
        refine g_getp (r := 7) (c := 15) g75704 ad7 (by decide) (by decide) rf7_12 ft5_12 ?_
        refine ev_aload_n rfl ?_
        refine g_getv (r := 7) (v := w3) g75704 ad7 (by decide) ft5_3 (((jw_ne e75704 (Or.inl (by decide))).trans ((jw_ne e75703 (Or.inl (by decide))).trans ((jw_ne e75702 (Or.inl (by decide))).trans ((kk75685.v (by decide)).trans ew3))))) ?_
        refine ev_iconst ?_
        refine g_iast g75704 ad15 rt15 (fun _ => rfl) (by omega) (by omega) (by omega) (by omega) (fun h75705 e75705 g75705 => ?_)
        have k75705 := k75704.wr e75705 rfl
        refine ev_aload_n rfl ?_
        refine g_getp (r := 7) (c := 16) g75705 ad7 (by decide) (by decide) rf7_13 ft5_13 ?_
        refine ev_aload_n rfl ?_
        refine g_getv (r := 7) (v := w3) g75705 ad7 (by decide) ft5_3 (((jw_ne e75705 (Or.inl (by decide))).trans ((jw_ne e75704 (Or.inl (by decide))).trans ((jw_ne e75703 (Or.inl (by decide))).trans ((jw_ne e75702 (Or.inl (by decide))).trans ((kk75685.v (by decide)).trans ew3)))))) ?_
        refine ev_iconst ?_
        refine g_iast g75705 ad16 rt16 (fun _ => rfl) (by omega) (by omega) (by omega) (by omega) (fun h75706 e75706 g75706 => ?_)
        have k75706 := k75705.wr e75706 rfl
        refine ev_aload_n rfl ?_
        refine g_getp (r := 7) (c := 17) g75706 ad7 (by decide) (by decide) rf7_14 ft5_14 ?_
        refine ev_aload_n rfl ?_
        refine g_getv (r := 7) (v := w3) g75706 ad7 (by decide) ft5_3 (((jw_ne e75706 (Or.inl (by decide))).trans ((jw_ne e75705 (Or.inl (by decide))).trans ((jw_ne e75704 (Or.inl (by decide))).trans ((jw_ne e75703 (Or.inl (by decide))).trans ((jw_ne e75702 (Or.inl (by decide))).trans ((kk75685.v (by decide)).trans ew3))))))) ?_
        refine ev_iconst ?_
        refine g_iast g75706 ad17 rt17 (fun _ => rfl) (by omega) (by omega) (by omega) (by omega) (fun h75707 e75707 g75707 => ?_)
        have k75707 := k75706.wr e75707 rfl
        refine ev_aload_n rfl ?_
        refine ev_dup (by decide) ?_
        refine g_getv (r := 7) (v := w3) g75707 ad7 (by decide) ft5_3 (((jw_ne e75707 (Or.inl (by decide))).trans ((jw_ne e75706 (Or.inl (by decide))).trans ((jw_ne e75705 (Or.inl (by decide))).trans ((jw_ne e75704 (Or.inl (by decide))).trans ((jw_ne e75703 (Or.inl (by decide))).trans ((jw_ne e75702 (Or.inl (by decide))).trans ((kk75685.v (by decide)).trans ew3)))))))) ?_
        refine ev_iconst ?_
        refine ev_iadd (r := (w3 + 1)) (by unfold w32; omega) ?_
        refine g_putf (r := 7) g75707 ad7 (by decide) ft5_3 (by decide) (fun e => absurd e nz5_3) rf7_3 (by decide) (by omega) (by omega) (fun h75708 e75708 g75708 => ?_)
        have k75708 := k75707.wr e75708 rfl
        refine ev_aload_n rfl ?_
        refine g_getv (r := 7) (v := (w3 + 1)) g75708 ad7 (by decide) ft5_3 ((jw_eq e75708)) ?_
        refine ev_iconst ?_
        refine ev_isub (r := w3) (by unfold w32; omega) ?_
        refine ev_ret rfl (by decide) (by decide) ?_
        show jEv _ _ _ _ _ _ _ (_, [(2, 7), (0, 0), (0, v75686), (9, 0)], [(0, w3)], _, _, _)
        refine ev_istore_n (L' := [(2, 7), (0, 0), (0, v75686), (0, w3)]) (Nat.le_of_ble_eq_true rfl) rfl ?_
        refine ev_aload_n rfl ?_
        refine g_getv (r := 7) (v := w1) g75708 ad7 (by decide) ft5_1 (((jw_ne e75708 (Or.inr (by decide))).trans ((jw_ne e75707 (Or.inl (by decide))).trans ((jw_ne e75706 (Or.inl (by decide))).trans ((jw_ne e75705 (Or.inl (by decide))).trans ((jw_ne e75704 (Or.inl (by decide))).trans ((jw_ne e75703 (Or.inl (by decide))).trans ((jw_ne e75702 (Or.inl (by decide))).trans A75687)))))))) ?_
        refine ev_ifge f75_52 (fun c75709 => ?_) (fun c75709 => absurd c75709 (by omega))
        refine ev_iconst ?_
        exact ev_ret rfl (by decide) (by decide) ⟨_, rfl, g75708, k75708, by omega, by omega, Rp.bad ((FrN.wr (i := w3) (FrN.wr (i := w3) (FrN.wr (i := w3) (((((FrN.rf _ _).kp kk75685 (fun _ => rfl) (fun _ => rfl) (fun _ => rfl)).wn e75702 (by decide)).wn e75703 (by decide)).wn e75704 (by decide)) e75705 (Or.inr (by omega))) e75706 (Or.inr (by omega))) e75707 (Or.inr (by omega))).wn e75708 (by decide)) ((jw_eq e75708)) (by omega) (by rw [if_neg (fun z => absurd ((bC_at (p := w1) k75708 (fun _ => rfl) ew0 (((jw_ne e75708 (Or.inl (by decide))).trans ((jw_ne e75707 (Or.inl (by decide))).trans ((jw_ne e75706 (Or.inl (by decide))).trans ((jw_ne e75705 (Or.inl (by decide))).trans ((jw_ne e75704 (Or.inl (by decide))).trans ((jw_ne e75703 (Or.inl (by decide))).trans ((jw_ne e75702 (Or.inl (by decide))).trans ((kk75685.v rfl).trans ev75681))))))))) (by omega) (by omega)).symm.trans z) (by omega))]; unfold enR; rw [if_pos (by rw [F75687]; omega)]) (by omega) (((jw_ne e75708 (Or.inr (by decide))).trans ((jw_ne e75707 (Or.inl (by decide))).trans ((jw_ne e75706 (Or.inl (by decide))).trans ((jw_ne e75705 (Or.inl (by decide))).trans ((jw_ne e75704 (Or.inl (by decide))).trans ((jw_ne e75703 (Or.inl (by decide))).trans ((jw_ne e75702 (Or.inl (by decide))).trans A75687)))))))) (by omega)⟩
    · refine ev_iconst ?_
      refine ev_goto f75_14 ?_
      refine ev_istore_n (L' := [(2, 7), (0, 1), (9, 0), (9, 0)]) (Nat.le_of_ble_eq_true rfl) rfl ?_
      refine ev_iload_n rfl ?_
      refine ev_ifeq f75_29 (fun c75710 => absurd c75710 (by omega)) (fun c75710 => ?_)
      refine ev_aload_n rfl ?_
      refine ev_dup (by decide) ?_
      refine g_getv (r := 7) (v := w1) g ad7 (by decide) ft5_2 (ew1) ?_
      refine ev_iconst ?_
      refine ev_iadd (r := (w1 + 1)) (by unfold w32; omega) ?_
      refine g_putf (r := 7) g ad7 (by decide) ft5_2 (by decide) (fun e => absurd e nz5_2) rf7_2 (by decide) (by omega) (by omega) (fun h75711 e75711 g75711 => ?_)
      have k75711 := k0.wr e75711 rfl
      refine ev_aload_n rfl ?_
      refine ev_iconst ?_
      refine ev_call (jcall_v (A := [(0, 3)]) (S' := []) (r := 7) rfl (g75711.lt ad7) (g75711.tg ad7) (Nat.le_of_ble_eq_true rfl)) (jOk_le (by decide) (t76_3 g75711 (((jw_ne e75711 (Or.inr (by decide))).trans ew0)) (by omega) (by omega) ((jw_eq e75711)) (by omega) (by omega) (((jw_ne e75711 (Or.inr (by decide))).trans ew2)))) (by decide) (by decide) (fun w75712 h75712 q75712 => ?_)
      obtain ⟨v75713, rfl, g75712, kk75712, lv75713, uv75713, X75712⟩ := q75712
      have k75712 := k75711.tr kk75712 (by decide)
      show jEv _ _ _ _ _ _ _ (_, [(2, 7), (0, 1), (9, 0), (9, 0)], [(0, v75713)], _, _, _)
      have N75714 := X75712
      rw [bC_kp k75711 (fun _ => rfl) rfl] at N75714
      rcases N75714 with ⟨F75714, A75714⟩ | ⟨F75714, A75714⟩
      · obtain ⟨v75715, ev75715⟩ : ∃ q : Int, nm3 (bC h) (w1 + 1) = q := ⟨_, rfl⟩
        rw [ev75715] at A75714
        have bv75715 := g75712.rg ad7 (i := 2) (by decide) rf7_2
        rw [A75714] at bv75715
        have nv75715 := nm3_f (bC h) (w1 + 1) (by omega) (by omega)
        rw [ev75715] at nv75715
        refine ev_istore_n (L' := [(2, 7), (0, 1), (0, v75713), (9, 0)]) (Nat.le_of_ble_eq_true rfl) rfl ?_
        refine ev_aload_n rfl ?_
        refine ev_iconst ?_
        refine ev_in (d := 2) (a := 0) (b := 0) (cd' := c73_0) (m := 2) (L0 := [(2, 7), (0, 0)]) (jcall_v (A := [(0, 0)]) (S' := []) (r := 7) rfl (g75712.lt ad7) (g75712.tg ad7) (Nat.le_of_ble_eq_true rfl)) (by decide) ml73 pp73 (Nat.le_of_ble_eq_true rfl) rfl (by decide) (by decide) ?_
        refine ev_aload_n rfl ?_
        refine g_getv (r := 7) (v := w3) g75712 ad7 (by decide) ft5_3 (((kk75712.v (by decide)).trans ((jw_ne e75711 (Or.inr (by decide))).trans ew3))) ?_
        refine ev_sipush ?_
        refine ev_icmplt f73_16 (fun c75716 => ?_) (fun c75716 => absurd c75716 (by omega))
        refine ev_aload_n rfl ?_
        refine g_getp (r := 7) (c := 10) g75712 ad7 (by decide) (by decide) rf7_7 ft5_7 ?_
        refine ev_aload_n rfl ?_
        refine g_getv (r := 7) (v := w3) g75712 ad7 (by decide) ft5_3 (((kk75712.v (by decide)).trans ((jw_ne e75711 (Or.inr (by decide))).trans ew3))) ?_
        refine ev_iload_n rfl ?_
        refine g_iast g75712 ad10 rt10 (fun _ => rfl) (by omega) (by omega) (by omega) (by omega) (fun h75717 e75717 g75717 => ?_)
        have k75717 := k75712.wr e75717 rfl
        refine ev_aload_n rfl ?_
        refine g_getp (r := 7) (c := 11) g75717 ad7 (by decide) (by decide) rf7_8 ft5_8 ?_
        refine ev_aload_n rfl ?_
        refine g_getv (r := 7) (v := w3) g75717 ad7 (by decide) ft5_3 (((jw_ne e75717 (Or.inl (by decide))).trans ((kk75712.v (by decide)).trans ((jw_ne e75711 (Or.inr (by decide))).trans ew3)))) ?_
        refine ev_iconst ?_
        refine g_iast g75717 ad11 rt11 (fun _ => rfl) (by omega) (by omega) (by omega) (by omega) (fun h75718 e75718 g75718 => ?_)
        have k75718 := k75717.wr e75718 rfl
        refine ev_aload_n rfl ?_
        refine g_getp (r := 7) (c := 12) g75718 ad7 (by decide) (by decide) rf7_9 ft5_9 ?_
        refine ev_aload_n rfl ?_
        refine g_getv (r := 7) (v := w3) g75718 ad7 (by decide) ft5_3 (((jw_ne e75718 (Or.inl (by decide))).trans ((jw_ne e75717 (Or.inl (by decide))).trans ((kk75712.v (by decide)).trans ((jw_ne e75711 (Or.inr (by decide))).trans ew3))))) ?_
        refine ev_iconst ?_
        refine g_iast g75718 ad12 rt12 (fun _ => rfl) (by omega) (by omega) (by omega) (by omega) (fun h75719 e75719 g75719 => ?_)
        have k75719 := k75718.wr e75719 rfl
        refine ev_aload_n rfl ?_
        refine g_getp (r := 7) (c := 15) g75719 ad7 (by decide) (by decide) rf7_12 ft5_12 ?_
        refine ev_aload_n rfl ?_
        refine g_getv (r := 7) (v := w3) g75719 ad7 (by decide) ft5_3 (((jw_ne e75719 (Or.inl (by decide))).trans ((jw_ne e75718 (Or.inl (by decide))).trans ((jw_ne e75717 (Or.inl (by decide))).trans ((kk75712.v (by decide)).trans ((jw_ne e75711 (Or.inr (by decide))).trans ew3)))))) ?_
        refine ev_iconst ?_
        refine g_iast g75719 ad15 rt15 (fun _ => rfl) (by omega) (by omega) (by omega) (by omega) (fun h75720 e75720 g75720 => ?_)
        have k75720 := k75719.wr e75720 rfl
        refine ev_aload_n rfl ?_
        refine g_getp (r := 7) (c := 16) g75720 ad7 (by decide) (by decide) rf7_13 ft5_13 ?_
        refine ev_aload_n rfl ?_
        refine g_getv (r := 7) (v := w3) g75720 ad7 (by decide) ft5_3 (((jw_ne e75720 (Or.inl (by decide))).trans ((jw_ne e75719 (Or.inl (by decide))).trans ((jw_ne e75718 (Or.inl (by decide))).trans ((jw_ne e75717 (Or.inl (by decide))).trans ((kk75712.v (by decide)).trans ((jw_ne e75711 (Or.inr (by decide))).trans ew3))))))) ?_
        refine ev_iconst ?_
        refine g_iast g75720 ad16 rt16 (fun _ => rfl) (by omega) (by omega) (by omega) (by omega) (fun h75721 e75721 g75721 => ?_)
        have k75721 := k75720.wr e75721 rfl
        refine ev_aload_n rfl ?_
        refine g_getp (r := 7) (c := 17) g75721 ad7 (by decide) (by decide) rf7_14 ft5_14 ?_
        refine ev_aload_n rfl ?_
        refine g_getv (r := 7) (v := w3) g75721 ad7 (by decide) ft5_3 (((jw_ne e75721 (Or.inl (by decide))).trans ((jw_ne e75720 (Or.inl (by decide))).trans ((jw_ne e75719 (Or.inl (by decide))).trans ((jw_ne e75718 (Or.inl (by decide))).trans ((jw_ne e75717 (Or.inl (by decide))).trans ((kk75712.v (by decide)).trans ((jw_ne e75711 (Or.inr (by decide))).trans ew3)))))))) ?_
        refine ev_iconst ?_
        refine g_iast g75721 ad17 rt17 (fun _ => rfl) (by omega) (by omega) (by omega) (by omega) (fun h75722 e75722 g75722 => ?_)
        have k75722 := k75721.wr e75722 rfl
        refine ev_aload_n rfl ?_
        refine ev_dup (by decide) ?_
        refine g_getv (r := 7) (v := w3) g75722 ad7 (by decide) ft5_3 (((jw_ne e75722 (Or.inl (by decide))).trans ((jw_ne e75721 (Or.inl (by decide))).trans ((jw_ne e75720 (Or.inl (by decide))).trans ((jw_ne e75719 (Or.inl (by decide))).trans ((jw_ne e75718 (Or.inl (by decide))).trans ((jw_ne e75717 (Or.inl (by decide))).trans ((kk75712.v (by decide)).trans ((jw_ne e75711 (Or.inr (by decide))).trans ew3))))))))) ?_
        refine ev_iconst ?_
        refine ev_iadd (r := (w3 + 1)) (by unfold w32; omega) ?_
        refine g_putf (r := 7) g75722 ad7 (by decide) ft5_3 (by decide) (fun e => absurd e nz5_3) rf7_3 (by decide) (by omega) (by omega) (fun h75723 e75723 g75723 => ?_)
        have k75723 := k75722.wr e75723 rfl
        refine ev_aload_n rfl ?_
        refine g_getv (r := 7) (v := (w3 + 1)) g75723 ad7 (by decide) ft5_3 ((jw_eq e75723)) ?_
        refine ev_iconst ?_
        refine ev_isub (r := w3) (by unfold w32; omega) ?_
        refine ev_ret rfl (by decide) (by decide) ?_
        show jEv _ _ _ _ _ _ _ (_, [(2, 7), (0, 1), (0, v75713), (9, 0)], [(0, w3)], _, _, _)
        refine ev_istore_n (L' := [(2, 7), (0, 1), (0, v75713), (0, w3)]) (Nat.le_of_ble_eq_true rfl) rfl ?_
        refine ev_aload_n rfl ?_
        refine g_getv (r := 7) (v := (-1)) g75723 ad7 (by decide) ft5_1 (((jw_ne e75723 (Or.inr (by decide))).trans ((jw_ne e75722 (Or.inl (by decide))).trans ((jw_ne e75721 (Or.inl (by decide))).trans ((jw_ne e75720 (Or.inl (by decide))).trans ((jw_ne e75719 (Or.inl (by decide))).trans ((jw_ne e75718 (Or.inl (by decide))).trans ((jw_ne e75717 (Or.inl (by decide))).trans F75714)))))))) ?_
        refine ev_ifge f75_52 (fun c75724 => absurd c75724 (by omega)) (fun c75724 => ?_)
        refine ev_iload_n rfl ?_
        refine ev_ifge f75_54 (fun c75725 => ?_) (fun c75725 => absurd c75725 (by omega))
        refine ev_aload_n rfl ?_
        refine g_getp (r := 7) (c := 11) g75723 ad7 (by decide) (by decide) rf7_8 ft5_8 ?_
        refine ev_iload_n rfl ?_
        refine ev_iload_n rfl ?_
        refine ev_ifeq f75_68 (fun c75726 => absurd c75726 (by omega)) (fun c75726 => ?_)
        refine ev_iload_n rfl ?_
        refine g_inegG (fun v75727 ev75727 lv75727 uv75727 => ?_)
        refine ev_goto f75_69 ?_
        refine g_iast g75723 ad11 rt11 (fun _ => rfl) (by omega) (by omega) (by omega) (by omega) (fun h75728 e75728 g75728 => ?_)
        have k75728 := k75723.wr e75728 rfl
        refine ev_iload_n rfl ?_
        exact ev_ret rfl (by decide) (by decide) ⟨_, rfl, g75728, k75728, by omega, by omega, Rp.good (((FrN.wr (i := w3) (FrN.wr (i := w3) (FrN.wr (i := w3) ((((((FrN.rf _ _).wn e75711 (by decide)).kp kk75712 (fun _ => rfl) (fun _ => rfl) (fun _ => rfl)).wn e75717 (by decide)).wn e75718 (by decide)).wn e75719 (by decide)) e75720 (Or.inr (by omega))) e75721 (Or.inr (by omega))) e75722 (Or.inr (by omega))).wn e75723 (by decide)).wn e75728 (by decide)) (((jw_ne e75728 (Or.inl (by decide))).trans (jw_eq e75723))) (by omega) (by rw [if_pos ((bC_at (p := w1) k75728 (fun _ => rfl) ew0 (((jw_ne e75728 (Or.inl (by decide))).trans ((jw_ne e75723 (Or.inl (by decide))).trans ((jw_ne e75722 (Or.inl (by decide))).trans ((jw_ne e75721 (Or.inl (by decide))).trans ((jw_ne e75720 (Or.inl (by decide))).trans ((jw_ne e75719 (Or.inl (by decide))).trans ((jw_ne e75718 (Or.inl (by decide))).trans ((jw_ne e75717 (Or.inl (by decide))).trans ((kk75712.v rfl).trans ((jw_ne e75711 (Or.inl (by decide))).trans ev75681))))))))))) (by omega) (by omega)).trans (by omega))]; unfold enR; rw [if_neg (by rw [ev75715]; omega), ev75715]) (by omega) (((jw_ne e75728 (Or.inl (by decide))).trans ((jw_ne e75723 (Or.inr (by decide))).trans ((jw_ne e75722 (Or.inl (by decide))).trans ((jw_ne e75721 (Or.inl (by decide))).trans ((jw_ne e75720 (Or.inl (by decide))).trans ((jw_ne e75719 (Or.inl (by decide))).trans ((jw_ne e75718 (Or.inl (by decide))).trans ((jw_ne e75717 (Or.inl (by decide))).trans F75714))))))))) (((jw_ne e75728 (Or.inl (by decide))).trans ((jw_ne e75723 (Or.inr (by decide))).trans ((jw_ne e75722 (Or.inl (by decide))).trans ((jw_ne e75721 (Or.inl (by decide))).trans ((jw_ne e75720 (Or.inl (by decide))).trans ((jw_ne e75719 (Or.inl (by decide))).trans ((jw_ne e75718 (Or.inl (by decide))).trans ((jw_ne e75717 (Or.inl (by decide))).trans A75714))))))))) (by omega) (by omega) (by omega) (by omega) (((jw_ne e75728 (Or.inl (by decide))).trans ((jw_ne e75723 (Or.inl (by decide))).trans ((jw_ne e75722 (Or.inl (by decide))).trans ((jw_ne e75721 (Or.inl (by decide))).trans (jw_eq e75720)))))) rfl (((jw_ne e75728 (Or.inl (by decide))).trans ((jw_ne e75723 (Or.inl (by decide))).trans ((jw_ne e75722 (Or.inl (by decide))).trans (jw_eq e75721))))) rfl (((jw_ne e75728 (Or.inl (by decide))).trans ((jw_ne e75723 (Or.inl (by decide))).trans (jw_eq e75722)))) rfl⟩
      · refine ev_istore_n (L' := [(2, 7), (0, 1), (0, v75713), (9, 0)]) (Nat.le_of_ble_eq_true rfl) rfl ?_
        refine ev_aload_n rfl ?_
        refine ev_iconst ?_
        refine ev_in (d := 2) (a := 0) (b := 0) (cd' := c73_0) (m := 2) (L0 := [(2, 7), (0, 0)]) (jcall_v (A := [(0, 0)]) (S' := []) (r := 7) rfl (g75712.lt ad7) (g75712.tg ad7) (Nat.le_of_ble_eq_true rfl)) (by decide) ml73 pp73 (Nat.le_of_ble_eq_true rfl) rfl (by decide) (by decide) ?_
        refine ev_aload_n rfl ?_
        refine g_getv (r := 7) (v := w3) g75712 ad7 (by decide) ft5_3 (((kk75712.v (by decide)).trans ((jw_ne e75711 (Or.inr (by decide))).trans ew3))) ?_
        refine ev_sipush ?_
        refine ev_icmplt f73_16 (fun c75729 => ?_) (fun c75729 => absurd c75729 (by omega))
        refine ev_aload_n rfl ?_
        refine g_getp (r := 7) (c := 10) g75712 ad7 (by decide) (by decide) rf7_7 ft5_7 ?_
        refine ev_aload_n rfl ?_
        refine g_getv (r := 7) (v := w3) g75712 ad7 (by decide) ft5_3 (((kk75712.v (by decide)).trans ((jw_ne e75711 (Or.inr (by decide))).trans ew3))) ?_
        refine ev_iload_n rfl ?_
        refine g_iast g75712 ad10 rt10 (fun _ => rfl) (by omega) (by omega) (by omega) (by omega) (fun h75730 e75730 g75730 => ?_)
        have k75730 := k75712.wr e75730 rfl
        refine ev_aload_n rfl ?_
        refine g_getp (r := 7) (c := 11) g75730 ad7 (by decide) (by decide) rf7_8 ft5_8 ?_
        refine ev_aload_n rfl ?_
        refine g_getv (r := 7) (v := w3) g75730 ad7 (by decide) ft5_3 (((jw_ne e75730 (Or.inl (by decide))).trans ((kk75712.v (by decide)).trans ((jw_ne e75711 (Or.inr (by decide))).trans ew3)))) ?_
        refine ev_iconst ?_
        refine g_iast g75730 ad11 rt11 (fun _ => rfl) (by omega) (by omega) (by omega) (by omega) (fun h75731 e75731 g75731 => ?_)
        have k75731 := k75730.wr e75731 rfl
        refine ev_aload_n rfl ?_
        refine g_getp (r := 7) (c := 12) g75731 ad7 (by decide) (by decide) rf7_9 ft5_9 ?_
        refine ev_aload_n rfl ?_
        refine g_getv (r := 7) (v := w3) g75731 ad7 (by decide) ft5_3 (((jw_ne e75731 (Or.inl (by decide))).trans ((jw_ne e75730 (Or.inl (by decide))).trans ((kk75712.v (by decide)).trans ((jw_ne e75711 (Or.inr (by decide))).trans ew3))))) ?_
        refine ev_iconst ?_
        refine g_iast g75731 ad12 rt12 (fun _ => rfl) (by omega) (by omega) (by omega) (by omega) (fun h75732 e75732 g75732 => ?_)
        have k75732 := k75731.wr e75732 rfl
        refine ev_aload_n rfl ?_
        refine g_getp (r := 7) (c := 15) g75732 ad7 (by decide) (by decide) rf7_12 ft5_12 ?_
        refine ev_aload_n rfl ?_
        refine g_getv (r := 7) (v := w3) g75732 ad7 (by decide) ft5_3 (((jw_ne e75732 (Or.inl (by decide))).trans ((jw_ne e75731 (Or.inl (by decide))).trans ((jw_ne e75730 (Or.inl (by decide))).trans ((kk75712.v (by decide)).trans ((jw_ne e75711 (Or.inr (by decide))).trans ew3)))))) ?_
        refine ev_iconst ?_
        refine g_iast g75732 ad15 rt15 (fun _ => rfl) (by omega) (by omega) (by omega) (by omega) (fun h75733 e75733 g75733 => ?_)
        have k75733 := k75732.wr e75733 rfl
        refine ev_aload_n rfl ?_
        refine g_getp (r := 7) (c := 16) g75733 ad7 (by decide) (by decide) rf7_13 ft5_13 ?_
        refine ev_aload_n rfl ?_
        refine g_getv (r := 7) (v := w3) g75733 ad7 (by decide) ft5_3 (((jw_ne e75733 (Or.inl (by decide))).trans ((jw_ne e75732 (Or.inl (by decide))).trans ((jw_ne e75731 (Or.inl (by decide))).trans ((jw_ne e75730 (Or.inl (by decide))).trans ((kk75712.v (by decide)).trans ((jw_ne e75711 (Or.inr (by decide))).trans ew3))))))) ?_
        refine ev_iconst ?_
        refine g_iast g75733 ad16 rt16 (fun _ => rfl) (by omega) (by omega) (by omega) (by omega) (fun h75734 e75734 g75734 => ?_)
        have k75734 := k75733.wr e75734 rfl
        refine ev_aload_n rfl ?_
        refine g_getp (r := 7) (c := 17) g75734 ad7 (by decide) (by decide) rf7_14 ft5_14 ?_
        refine ev_aload_n rfl ?_
        refine g_getv (r := 7) (v := w3) g75734 ad7 (by decide) ft5_3 (((jw_ne e75734 (Or.inl (by decide))).trans ((jw_ne e75733 (Or.inl (by decide))).trans ((jw_ne e75732 (Or.inl (by decide))).trans ((jw_ne e75731 (Or.inl (by decide))).trans ((jw_ne e75730 (Or.inl (by decide))).trans ((kk75712.v (by decide)).trans ((jw_ne e75711 (Or.inr (by decide))).trans ew3)))))))) ?_
        refine ev_iconst ?_
        refine g_iast g75734 ad17 rt17 (fun _ => rfl) (by omega) (by omega) (by omega) (by omega) (fun h75735 e75735 g75735 => ?_)
        have k75735 := k75734.wr e75735 rfl
        refine ev_aload_n rfl ?_
        refine ev_dup (by decide) ?_
        refine g_getv (r := 7) (v := w3) g75735 ad7 (by decide) ft5_3 (((jw_ne e75735 (Or.inl (by decide))).trans ((jw_ne e75734 (Or.inl (by decide))).trans ((jw_ne e75733 (Or.inl (by decide))).trans ((jw_ne e75732 (Or.inl (by decide))).trans ((jw_ne e75731 (Or.inl (by decide))).trans ((jw_ne e75730 (Or.inl (by decide))).trans ((kk75712.v (by decide)).trans ((jw_ne e75711 (Or.inr (by decide))).trans ew3))))))))) ?_
        refine ev_iconst ?_
        refine ev_iadd (r := (w3 + 1)) (by unfold w32; omega) ?_
        refine g_putf (r := 7) g75735 ad7 (by decide) ft5_3 (by decide) (fun e => absurd e nz5_3) rf7_3 (by decide) (by omega) (by omega) (fun h75736 e75736 g75736 => ?_)
        have k75736 := k75735.wr e75736 rfl
        refine ev_aload_n rfl ?_
        refine g_getv (r := 7) (v := (w3 + 1)) g75736 ad7 (by decide) ft5_3 ((jw_eq e75736)) ?_
        refine ev_iconst ?_
        refine ev_isub (r := w3) (by unfold w32; omega) ?_
        refine ev_ret rfl (by decide) (by decide) ?_
        show jEv _ _ _ _ _ _ _ (_, [(2, 7), (0, 1), (0, v75713), (9, 0)], [(0, w3)], _, _, _)
        refine ev_istore_n (L' := [(2, 7), (0, 1), (0, v75713), (0, w3)]) (Nat.le_of_ble_eq_true rfl) rfl ?_
        refine ev_aload_n rfl ?_
        refine g_getv (r := 7) (v := (w1 + 1)) g75736 ad7 (by decide) ft5_1 (((jw_ne e75736 (Or.inr (by decide))).trans ((jw_ne e75735 (Or.inl (by decide))).trans ((jw_ne e75734 (Or.inl (by decide))).trans ((jw_ne e75733 (Or.inl (by decide))).trans ((jw_ne e75732 (Or.inl (by decide))).trans ((jw_ne e75731 (Or.inl (by decide))).trans ((jw_ne e75730 (Or.inl (by decide))).trans A75714)))))))) ?_
        refine ev_ifge f75_52 (fun c75737 => ?_) (fun c75737 => absurd c75737 (by omega))
        refine ev_iconst ?_
        exact ev_ret rfl (by decide) (by decide) ⟨_, rfl, g75736, k75736, by omega, by omega, Rp.bad ((FrN.wr (i := w3) (FrN.wr (i := w3) (FrN.wr (i := w3) ((((((FrN.rf _ _).wn e75711 (by decide)).kp kk75712 (fun _ => rfl) (fun _ => rfl) (fun _ => rfl)).wn e75730 (by decide)).wn e75731 (by decide)).wn e75732 (by decide)) e75733 (Or.inr (by omega))) e75734 (Or.inr (by omega))) e75735 (Or.inr (by omega))).wn e75736 (by decide)) ((jw_eq e75736)) (by omega) (by rw [if_pos ((bC_at (p := w1) k75736 (fun _ => rfl) ew0 (((jw_ne e75736 (Or.inl (by decide))).trans ((jw_ne e75735 (Or.inl (by decide))).trans ((jw_ne e75734 (Or.inl (by decide))).trans ((jw_ne e75733 (Or.inl (by decide))).trans ((jw_ne e75732 (Or.inl (by decide))).trans ((jw_ne e75731 (Or.inl (by decide))).trans ((jw_ne e75730 (Or.inl (by decide))).trans ((kk75712.v rfl).trans ((jw_ne e75711 (Or.inl (by decide))).trans ev75681)))))))))) (by omega) (by omega)).trans (by omega))]; unfold enR; rw [if_pos (by rw [F75714]; omega)]) (by omega) (((jw_ne e75736 (Or.inr (by decide))).trans ((jw_ne e75735 (Or.inl (by decide))).trans ((jw_ne e75734 (Or.inl (by decide))).trans ((jw_ne e75733 (Or.inl (by decide))).trans ((jw_ne e75732 (Or.inl (by decide))).trans ((jw_ne e75731 (Or.inl (by decide))).trans ((jw_ne e75730 (Or.inl (by decide))).trans A75714)))))))) (by omega)⟩
set_option maxHeartbeats 4000000 in
theorem t77 {G : GH} {h : JH} (g : Gd G h) {a1 : Int} (la1 : 0 ≤ a1) (ua1 : a1 ≤ 12) {a2 : Int} (la2 : 0 ≤ a2) (ua2 : a2 ≤ 15) {w0 : Int} (ew0 : h.2.2 7 0 = w0) (lw0 : 0 ≤ w0) (uw0 : w0 ≤ 200) {w1 : Int} (ew1 : h.2.2 7 2 = w1) (lw1 : 0 ≤ w1) (uw1 : w1 ≤ 200) (ew2 : h.2.2 7 1 = (-1)) {w3 : Int} (ew3 : h.2.2 7 3 = w3) (lw3 : 0 ≤ w3) (uw3 : w3 ≤ 200) {w4 : Int} (ew4 : h.2.2 7 4 = w4) (lw4 : 0 ≤ w4) (uw4 : w4 ≤ 6) (F0 : ((-w1) + w3) ≤ 0) {K : Int → Int × Int × Int} (hK : KoC h w4 K) (hc : 65 ≤ bC h w1) : jOk 2 0 0 77 [(2, 7), (0, a1), (0, a2)] h (fun v h' => ∃ r : Int, v = some (0, r) ∧ Gd G h' ∧ Kp [(7, 2), (7, 3), (7, 4), (10, 0), (11, 0), (12, 0), (13, 0), (14, 0), (15, 0), (16, 0), (17, 0)] h h' ∧ (-1) ≤ r ∧ r ≤ 199 ∧ Rp h h' w3 (cpR w4 K a2 a1 w1 (bC h w1 - 65)) r) := by
  refine ⟨by decide, by rw [ml77]; exact Nat.le_of_ble_eq_true rfl, ?_⟩
  rw [ml77, pp77]
  show jEv _ none _ c77_0 0 0 _ (c77_0, [(2, 7), (0, a1), (0, a2), (9, 0), (9, 0)], [], h, 0, 0)
  have k0 := Kp.rf [(7, 2), (7, 3), (7, 4), (10, 0), (11, 0), (12, 0), (13, 0), (14, 0), (15, 0), (16, 0), (17, 0)] h
  refine ev_aload_n rfl ?_
  refine ev_in (d := 0) (a := 0) (b := 0) (cd' := c68_0) (m := 1) (L0 := [(2, 7)]) (jcall_v (A := []) (S' := []) (r := 7) rfl (g.lt ad7) (g.tg ad7) (Nat.le_of_ble_eq_true rfl)) (by decide) ml68 pp68 (Nat.le_of_ble_eq_true rfl) rfl (by decide) (by decide) ?_
  refine ev_aload_n rfl ?_
  refine g_getv (r := 7) (v := w1) g ad7 (by decide) ft5_2 (ew1) ?_
  refine ev_aload_n rfl ?_
  refine g_getv (r := 7) (v := w0) g ad7 (by decide) ft5_0 (ew0) ?_
  refine ev_icmpge f68_27 (fun c75788 => ?_) (fun c75788 => ?_)
  · refine ev_iconst ?_
    refine ev_ret rfl (by decide) (by decide) ?_
    show jEv _ _ _ _ _ _ _ (_, [(2, 7), (0, a1), (0, a2), (9, 0), (9, 0)], [(0, (-1))], _, _, _)
    refine ev_bipush ?_
    refine ev_isub (r := (-66)) (by decide) ?_
    refine ev_istore_n (L' := [(2, 7), (0, a1), (0, a2), (0, (-66)), (9, 0)]) (Nat.le_of_ble_eq_true rfl) rfl ?_
    refine ev_iload_n rfl ?_
    refine ev_iflt f77_20 (fun c75789 => ?_) (fun c75789 => absurd c75789 (by omega))
    refine ev_aload_n rfl ?_
    refine ev_in (d := 0) (a := 0) (b := 0) (cd' := c70_0) (m := 1) (L0 := [(2, 7)]) (jcall_v (A := []) (S' := []) (r := 7) rfl (g.lt ad7) (g.tg ad7) (Nat.le_of_ble_eq_true rfl)) (by decide) ml70 pp70 (Nat.le_of_ble_eq_true rfl) rfl (by decide) (by decide) ?_
    refine ev_aload_n rfl ?_
    refine g_getv (r := 7) (v := (-1)) g ad7 (by decide) ft5_1 (ew2) ?_
    refine ev_ifge f70_15 (fun c75790 => absurd c75790 (by omega)) (fun c75790 => ?_)
    refine ev_aload_n rfl ?_
    refine ev_aload_n rfl ?_
    refine g_getv (r := 7) (v := w1) g ad7 (by decide) ft5_2 (ew1) ?_
    refine g_putf (r := 7) g ad7 (by decide) ft5_1 (by decide) (fun e => absurd e nz5_1) rf7_1 (by decide) (by omega) (by omega) (fun h75791 e75791 g75791 => ?_)
    have k75791 := k0.wr e75791 rfl
    refine ev_ret rfl (by decide) (by decide) ?_
    show jEv _ _ _ _ _ _ _ (_, [(2, 7), (0, a1), (0, a2), (0, (-66)), (9, 0)], [], _, _, _)
    refine ev_iconst ?_
    exact ev_ret rfl (by decide) (by decide) ⟨_, rfl, g75791, k75791, by omega, by omega, Rp.bad ((FrN.rf _ _).wn e75791 (by decide)) (((jw_ne e75791 (Or.inr (by decide))).trans ew3)) (by omega) (by rw [(bC_end (p := w1) ew0 (by omega))]; unfold cpR; rw [if_neg (fun z => by have y := hc; rw [(bC_end (p := w1) ew0 (by omega))] at y; omega)]) (by omega) ((jw_eq e75791)) (by omega)⟩
  · refine ev_aload_n rfl ?_
    refine g_getp (r := 7) (c := 8) g ad7 (by decide) (by decide) rf7_5 ft5_5 ?_
    refine ev_aload_n rfl ?_
    refine g_getv (r := 7) (v := w1) g ad7 (by decide) ft5_2 (ew1) ?_
    refine g_bald g ad8 rt8 (by omega) (by omega) (fun v75792 ev75792 lv75792 uv75792 => ?_)
    refine ev_sipush ?_
    refine g_iandB (b := 255) (by omega) (by omega) (by decide) (fun v75793 ev75793 lv75793 uv75793 => ?_)
    have zv75793 := sgn ev75793 (by omega) (by omega)
    refine ev_goto f68_28 ?_
    refine ev_ret rfl (by decide) (by decide) ?_
    show jEv _ _ _ _ _ _ _ (_, [(2, 7), (0, a1), (0, a2), (9, 0), (9, 0)], [(0, v75793)], _, _, _)
    refine ev_bipush ?_
    refine ev_isub (r := (v75793 - 65)) (by unfold w32; omega) ?_
    refine ev_istore_n (L' := [(2, 7), (0, a1), (0, a2), (0, (v75793 - 65)), (9, 0)]) (Nat.le_of_ble_eq_true rfl) rfl ?_
    refine ev_iload_n rfl ?_
    refine ev_iflt f77_20 (fun c75794 => ?_) (fun c75794 => ?_)
    · refine ev_aload_n rfl ?_
      refine ev_in (d := 0) (a := 0) (b := 0) (cd' := c70_0) (m := 1) (L0 := [(2, 7)]) (jcall_v (A := []) (S' := []) (r := 7) rfl (g.lt ad7) (g.tg ad7) (Nat.le_of_ble_eq_true rfl)) (by decide) ml70 pp70 (Nat.le_of_ble_eq_true rfl) rfl (by decide) (by decide) ?_
      refine ev_aload_n rfl ?_
      refine g_getv (r := 7) (v := (-1)) g ad7 (by decide) ft5_1 (ew2) ?_
      refine ev_ifge f70_15 (fun c75795 => absurd c75795 (by omega)) (fun c75795 => ?_)
      refine ev_aload_n rfl ?_
      refine ev_aload_n rfl ?_
      refine g_getv (r := 7) (v := w1) g ad7 (by decide) ft5_2 (ew1) ?_
      refine g_putf (r := 7) g ad7 (by decide) ft5_1 (by decide) (fun e => absurd e nz5_1) rf7_1 (by decide) (by omega) (by omega) (fun h75796 e75796 g75796 => ?_)
      have k75796 := k0.wr e75796 rfl
      refine ev_ret rfl (by decide) (by decide) ?_
      show jEv _ _ _ _ _ _ _ (_, [(2, 7), (0, a1), (0, a2), (0, (v75793 - 65)), (9, 0)], [], _, _, _)
      refine ev_iconst ?_
      exact ev_ret rfl (by decide) (by decide) ⟨_, rfl, g75796, k75796, by omega, by omega, Rp.bad ((FrN.rf _ _).wn e75796 (by decide)) (((jw_ne e75796 (Or.inr (by decide))).trans ew3)) (by omega) (by rw [(bC_at (p := w1) k75796 (fun _ => rfl) ew0 (((jw_ne e75796 (Or.inl (by decide))).trans ev75792)) (by omega) (by omega))]; unfold cpR; rw [if_neg (fun z => by have y := hc; rw [(bC_at (p := w1) k75796 (fun _ => rfl) ew0 (((jw_ne e75796 (Or.inl (by decide))).trans ev75792)) (by omega) (by omega))] at y; omega)]) (by omega) ((jw_eq e75796)) (by omega)⟩
    · refine ev_iload_n rfl ?_
      refine ev_aload_n rfl ?_
      refine g_getv (r := 7) (v := w4) g ad7 (by decide) ft5_4 (ew4) ?_
      refine ev_icmplt f77_26 (fun c75797 => ?_) (fun c75797 => ?_)
      · refine ev_aload_n rfl ?_
        refine g_getp (r := 7) (c := 9) g ad7 (by decide) (by decide) rf7_6 ft5_6 ?_
        refine ev_iload_n rfl ?_
        refine g_iald g ad9 rt9 (by omega) (by omega) (fun v75798 ev75798 lv75798 uv75798 => ?_)
        obtain ⟨c175799, c275799, c375799, c475799, c575799⟩ := hK.2 ((v75793 - 65)) (by omega) (by omega)
        rw [(ev75798)] at c175799 c275799 c375799 c475799 c575799
        rw [ew3] at c275799
        refine ev_istore (L' := [(2, 7), (0, a1), (0, a2), (0, (v75793 - 65)), (0, v75798)]) (Nat.le_of_ble_eq_true rfl) rfl ?_
        refine ev_aload_n rfl ?_
        refine g_getp (r := 7) (c := 15) g ad7 (by decide) (by decide) rf7_12 ft5_12 ?_
        refine ev_iload rfl ?_
        refine g_iald g ad15 rt15 (by omega) (by omega) (fun v75800 ev75800 lv75800 uv75800 => ?_)
        refine ev_iload_n rfl ?_
        refine g_iandB (b := 15) (by omega) (by omega) (by decide) (fun v75801 ev75801 lv75801 uv75801 => ?_)
        refine ev_ifne f77_60 (fun c75802 => ?_) (fun c75802 => ?_)
        · refine ev_aload_n rfl ?_
          refine ev_in (d := 0) (a := 0) (b := 0) (cd' := c70_0) (m := 1) (L0 := [(2, 7)]) (jcall_v (A := []) (S' := []) (r := 7) rfl (g.lt ad7) (g.tg ad7) (Nat.le_of_ble_eq_true rfl)) (by decide) ml70 pp70 (Nat.le_of_ble_eq_true rfl) rfl (by decide) (by decide) ?_
          refine ev_aload_n rfl ?_
          refine g_getv (r := 7) (v := (-1)) g ad7 (by decide) ft5_1 (ew2) ?_
          refine ev_ifge f70_15 (fun c75803 => absurd c75803 (by omega)) (fun c75803 => ?_)
          refine ev_aload_n rfl ?_
          refine ev_aload_n rfl ?_
          refine g_getv (r := 7) (v := w1) g ad7 (by decide) ft5_2 (ew1) ?_
          refine g_putf (r := 7) g ad7 (by decide) ft5_1 (by decide) (fun e => absurd e nz5_1) rf7_1 (by decide) (by omega) (by omega) (fun h75804 e75804 g75804 => ?_)
          have k75804 := k0.wr e75804 rfl
          refine ev_ret rfl (by decide) (by decide) ?_
          show jEv _ _ _ _ _ _ _ (_, [(2, 7), (0, a1), (0, a2), (0, (v75793 - 65)), (0, v75798)], [], _, _, _)
          refine ev_iconst ?_
          exact ev_ret rfl (by decide) (by decide) ⟨_, rfl, g75804, k75804, by omega, by omega, Rp.bad ((FrN.rf _ _).wn e75804 (by decide)) (((jw_ne e75804 (Or.inr (by decide))).trans ew3)) (by omega) (by rw [(bC_at (p := w1) k75804 (fun _ => rfl) ew0 (((jw_ne e75804 (Or.inl (by decide))).trans ev75792)) (by omega) (by omega)), show v75792 - 65 = (v75793 - 65) by omega]; unfold cpR; rw [if_neg (fun z => by have z2 := z.2.1; rw [(c375799.symm.trans ev75800), ev75801] at z2; omega)]) (by omega) ((jw_eq e75804)) (by omega)⟩
        · refine ev_iload_n rfl ?_
          refine ev_aload_n rfl ?_
          refine g_getp (r := 7) (c := 16) g ad7 (by decide) (by decide) rf7_13 ft5_13 ?_
          refine ev_iload rfl ?_
          refine g_iald g ad16 rt16 (by omega) (by omega) (fun v75805 ev75805 lv75805 uv75805 => ?_)
          have y75806 := (hK.1 ((v75793 - 65)) (by omega) (by omega)).2.2
          rw [← c475799, (ev75805)] at y75806
          refine ev_iadd (r := (a1 + v75805)) (by unfold w32; omega) ?_
          refine ev_bipush ?_
          refine ev_icmple f77_66 (fun c75807 => ?_) (fun c75807 => ?_)
          · refine ev_aload_n rfl ?_
            refine ev_dup (by decide) ?_
            refine g_getv (r := 7) (v := w1) g ad7 (by decide) ft5_2 (ew1) ?_
            refine ev_iconst ?_
            refine ev_iadd (r := (w1 + 1)) (by unfold w32; omega) ?_
            refine g_putf (r := 7) g ad7 (by decide) ft5_2 (by decide) (fun e => absurd e nz5_2) rf7_2 (by decide) (by omega) (by omega) (fun h75808 e75808 g75808 => ?_)
            have k75808 := k0.wr e75808 rfl
            refine ev_iload rfl ?_
            obtain ⟨v75809, ev75809, lv75809, uv75809⟩ := g75808.rd ad17 (show (v75798).toNat < 200 by omega) (rt17 _)
            exact ev_ret rfl (by decide) (by decide) ⟨_, rfl, g75808, k75808, by omega, by omega, Rp.good ((FrN.rf _ _).wn e75808 (by decide)) (((jw_ne e75808 (Or.inr (by decide))).trans ew3)) (by omega) (show (cpR w4 K a2 a1 w1 (bC h w1 - 65)) = (w1 + 1, (K ((v75793 - 65))).1, (K ((v75793 - 65))).2.1, (K ((v75793 - 65))).2.2) by rw [(bC_at (p := w1) k75808 (fun _ => rfl) ew0 (((jw_ne e75808 (Or.inl (by decide))).trans ev75792)) (by omega) (by omega)), show v75792 - 65 = (v75793 - 65) by omega]; unfold cpR; rw [if_pos ⟨by omega, by rw [(c375799.symm.trans ev75800), ev75801]; omega, by rw [(c475799.symm.trans ev75805)]; omega⟩]) (by omega) (((jw_ne e75808 (Or.inr (by decide))).trans ew2)) ((jw_eq e75808)) (by omega) (by omega) (by omega) (by omega) (((jw_ne e75808 (Or.inl (by decide))).trans ev75800)) (c375799.symm.trans ev75800).symm (((jw_ne e75808 (Or.inl (by decide))).trans ev75805)) (c475799.symm.trans ev75805).symm (ev75809) ((ev75809.symm.trans (jw_ne e75808 (Or.inl (by decide)))).trans c575799)⟩
          · refine ev_aload_n rfl ?_
            refine ev_in (d := 0) (a := 0) (b := 0) (cd' := c70_0) (m := 1) (L0 := [(2, 7)]) (jcall_v (A := []) (S' := []) (r := 7) rfl (g.lt ad7) (g.tg ad7) (Nat.le_of_ble_eq_true rfl)) (by decide) ml70 pp70 (Nat.le_of_ble_eq_true rfl) rfl (by decide) (by decide) ?_
            refine ev_aload_n rfl ?_
            refine g_getv (r := 7) (v := (-1)) g ad7 (by decide) ft5_1 (ew2) ?_
            refine ev_ifge f70_15 (fun c75810 => absurd c75810 (by omega)) (fun c75810 => ?_)
            refine ev_aload_n rfl ?_
            refine ev_aload_n rfl ?_
            refine g_getv (r := 7) (v := w1) g ad7 (by decide) ft5_2 (ew1) ?_
            refine g_putf (r := 7) g ad7 (by decide) ft5_1 (by decide) (fun e => absurd e nz5_1) rf7_1 (by decide) (by omega) (by omega) (fun h75811 e75811 g75811 => ?_)
            have k75811 := k0.wr e75811 rfl
            refine ev_ret rfl (by decide) (by decide) ?_
            show jEv _ _ _ _ _ _ _ (_, [(2, 7), (0, a1), (0, a2), (0, (v75793 - 65)), (0, v75798)], [], _, _, _)
            refine ev_iconst ?_
            exact ev_ret rfl (by decide) (by decide) ⟨_, rfl, g75811, k75811, by omega, by omega, Rp.bad ((FrN.rf _ _).wn e75811 (by decide)) (((jw_ne e75811 (Or.inr (by decide))).trans ew3)) (by omega) (by rw [(bC_at (p := w1) k75811 (fun _ => rfl) ew0 (((jw_ne e75811 (Or.inl (by decide))).trans ev75792)) (by omega) (by omega)), show v75792 - 65 = (v75793 - 65) by omega]; unfold cpR; rw [if_neg (fun z => by have z3 := z.2.2; rw [(c475799.symm.trans ev75805)] at z3; omega)]) (by omega) ((jw_eq e75811)) (by omega)⟩
      · refine ev_aload_n rfl ?_
        refine ev_in (d := 0) (a := 0) (b := 0) (cd' := c70_0) (m := 1) (L0 := [(2, 7)]) (jcall_v (A := []) (S' := []) (r := 7) rfl (g.lt ad7) (g.tg ad7) (Nat.le_of_ble_eq_true rfl)) (by decide) ml70 pp70 (Nat.le_of_ble_eq_true rfl) rfl (by decide) (by decide) ?_
        refine ev_aload_n rfl ?_
        refine g_getv (r := 7) (v := (-1)) g ad7 (by decide) ft5_1 (ew2) ?_
        refine ev_ifge f70_15 (fun c75812 => absurd c75812 (by omega)) (fun c75812 => ?_)
        refine ev_aload_n rfl ?_
        refine ev_aload_n rfl ?_
        refine g_getv (r := 7) (v := w1) g ad7 (by decide) ft5_2 (ew1) ?_
        refine g_putf (r := 7) g ad7 (by decide) ft5_1 (by decide) (fun e => absurd e nz5_1) rf7_1 (by decide) (by omega) (by omega) (fun h75813 e75813 g75813 => ?_)
        have k75813 := k0.wr e75813 rfl
        refine ev_ret rfl (by decide) (by decide) ?_
        show jEv _ _ _ _ _ _ _ (_, [(2, 7), (0, a1), (0, a2), (0, (v75793 - 65)), (9, 0)], [], _, _, _)
        refine ev_iconst ?_
        exact ev_ret rfl (by decide) (by decide) ⟨_, rfl, g75813, k75813, by omega, by omega, Rp.bad ((FrN.rf _ _).wn e75813 (by decide)) (((jw_ne e75813 (Or.inr (by decide))).trans ew3)) (by omega) (by rw [(bC_at (p := w1) k75813 (fun _ => rfl) ew0 (((jw_ne e75813 (Or.inl (by decide))).trans ev75792)) (by omega) (by omega))]; unfold cpR; rw [if_neg (fun z => by have y := hc; rw [(bC_at (p := w1) k75813 (fun _ => rfl) ew0 (((jw_ne e75813 (Or.inl (by decide))).trans ev75792)) (by omega) (by omega))] at y; omega)]) (by omega) ((jw_eq e75813)) (by omega)⟩
set_option maxHeartbeats 4000000 in
theorem t74z {G : GH} {h : JH} (g : Gd G h) {a2 : Int} (la2 : 0 ≤ a2) (ua2 : a2 ≤ 13) {a3 : Int} (la3 : (-2147483648) ≤ a3) (ua3 : a3 ≤ 2147483647) {w0 : Int} (ew0 : h.2.2 7 1 = w0) (lw0 : 0 ≤ w0) (uw0 : w0 ≤ 200) : jOk 2 0 0 74 [(2, 7), (2, 1), (0, a2), (0, a3)] h (fun v h' => ∃ r : Int, v = some (0, r) ∧ Gd G h' ∧ Kp [] h h' ∧ (-1) ≤ r ∧ r ≤ (-1) ∧ h' = h) := by
  refine ⟨by decide, by rw [ml74]; exact Nat.le_of_ble_eq_true rfl, ?_⟩
  rw [ml74, pp74]
  show jEv _ none _ c74_0 0 0 _ (c74_0, [(2, 7), (2, 1), (0, a2), (0, a3), (9, 0)], [], h, 0, 0)
  have k0 := Kp.rf [] h
  refine ev_aload_n rfl ?_
  refine g_getv (r := 7) (v := w0) g ad7 (by decide) ft5_1 (ew0) ?_
  refine ev_ifge f74_13 (fun c75818 => ?_) (fun c75818 => absurd c75818 (by omega))
  refine ev_aload_n rfl ?_
  refine ev_in (d := 0) (a := 0) (b := 0) (cd' := c70_0) (m := 1) (L0 := [(2, 7)]) (jcall_v (A := []) (S' := []) (r := 7) rfl (g.lt ad7) (g.tg ad7) (Nat.le_of_ble_eq_true rfl)) (by decide) ml70 pp70 (Nat.le_of_ble_eq_true rfl) rfl (by decide) (by decide) ?_
  refine ev_aload_n rfl ?_
  refine g_getv (r := 7) (v := w0) g ad7 (by decide) ft5_1 (ew0) ?_
  refine ev_ifge f70_15 (fun c75819 => ?_) (fun c75819 => absurd c75819 (by omega))
  refine ev_ret rfl (by decide) (by decide) ?_
  show jEv _ _ _ _ _ _ _ (_, [(2, 7), (2, 1), (0, a2), (0, a3), (9, 0)], [], _, _, _)
  refine ev_iconst ?_
  exact ev_ret rfl (by decide) (by decide) ⟨_, rfl, g, k0, by omega, by omega, rfl⟩
set_option maxHeartbeats 4000000 in
theorem t78_s_l {G : GH} {h : JH} {a2 : Int} (la2 : 0 ≤ a2) (ua2 : a2 ≤ 12) {a3 : Int} (la3 : 0 ≤ a3) (ua3 : a3 ≤ 15) {w0 : Int} (ew0 : h.2.2 7 0 = w0) (lw0 : 0 ≤ w0) (uw0 : w0 ≤ 200) {w1 : Int} (ew1 : h.2.2 7 2 = w1) (lw1 : 0 ≤ w1) (uw1 : w1 ≤ 200) (ew2 : h.2.2 7 1 = (-1)) {w3 : Int} (ew3 : h.2.2 7 3 = w3) (lw3 : 0 ≤ w3) (uw3 : w3 ≤ 200) {w4 : Int} (ew4 : h.2.2 7 4 = w4) (lw4 : 0 ≤ w4) (uw4 : w4 ≤ 6) (F0 : ((-w1) + w3) ≤ 0) (F1 : ((-w0) + w1) ≤ (-1)) {K : Int → Int × Int × Int} {q : Nat} (hK : KoC h w4 K) (hq : 13 - a2 = q) (hb : bC h w1 = 63) {M : Int} (hM : M = a2) {d : Nat} (hd : 3 ≤ d) (rih : ∀ {G : GH} {h : JH} (g : Gd G h) {a2 : Int} (la2 : 0 ≤ a2) (ua2 : a2 ≤ 12) {a3 : Int} (la3 : 0 ≤ a3) (ua3 : a3 ≤ 15) {w0 : Int} (ew0 : h.2.2 7 0 = w0) (lw0 : 0 ≤ w0) (uw0 : w0 ≤ 200) {w1 : Int} (ew1 : h.2.2 7 2 = w1) (lw1 : 0 ≤ w1) (uw1 : w1 ≤ 200) (ew2 : h.2.2 7 1 = (-1)) {w3 : Int} (ew3 : h.2.2 7 3 = w3) (lw3 : 0 ≤ w3) (uw3 : w3 ≤ 200) {w4 : Int} (ew4 : h.2.2 7 4 = w4) (lw4 : 0 ≤ w4) (uw4 : w4 ≤ 6) (F0 : ((-w1) + w3) ≤ 0) {K : Int → Int × Int × Int} {q : Nat} (hK : KoC h w4 K) (hq : 13 - a2 = q) (hm : M + 1 ≤ a2), jOk d 0 0 74 [(2, 7), (2, 1), (0, a2), (0, a3)] h (fun v h' => ∃ r : Int, v = some (0, r) ∧ Gd G h' ∧ Kp [(7, 2), (7, 3), (7, 4), (10, 0), (11, 0), (12, 0), (13, 0), (14, 0), (15, 0), (16, 0), (17, 0)] h h' ∧ (-1) ≤ r ∧ r ≤ 199 ∧ Rp h h' w3 (RC h w4 K q a3 a2 w1) r)) : ∀ N : Nat, (∀ (h1 : JH) (x4 x5 y0 y1 y2 : Int) (j6 : AV), Gd G h1 → Kp [(7, 2), (7, 3), (7, 4), (10, 0), (11, 0), (12, 0), (13, 0), (14, 0), (15, 0), (16, 0), (17, 0)] h h1 → 0 ≤ a2 → a2 ≤ 12 → 0 ≤ a3 → a3 ≤ 15 → 0 ≤ x4 → x4 ≤ 199 → 0 ≤ x5 → x5 ≤ 3 → x5 ≤ 4 → ((-x5)) ≤ 0 → (w3 + (-y2)) ≤ 0 → (a2 + (-y0)) ≤ 12 → h1.2.2 7 1 = y0 → (-1) ≤ y0 → y0 ≤ 200 → h1.2.2 7 2 = y1 → 0 ≤ y1 → y1 ≤ 200 → h1.2.2 7 3 = y2 → 0 ≤ y2 → y2 ≤ 200 → Ci (bC h) (RC h w4 K (q - 1) a3 (a2 + 1)) h1 (if bC h (w1 + 1) ≠ 40 ∨ 12 ≤ a2 then rF (w1 + 1) else chL (bC h) (RC h w4 K (q - 1) a3 (a2 + 1)) 4 (w1 + 2) 0 0 1) w3 x4 x5 y0 y1 y2 → FrN h h1 w3 → ((-x5) + 3) < N → jEv (jOk (d + 3)) none (fun _ => 0) c78_0 0 0 (fun v h' => ∃ r : Int, v = some (0, r) ∧ Gd G h' ∧ Kp [(7, 2), (7, 3), (7, 4), (10, 0), (11, 0), (12, 0), (13, 0), (14, 0), (15, 0), (16, 0), (17, 0)] h h' ∧ (-1) ≤ r ∧ r ≤ 199 ∧ Rp h h' w3 (if bC h (w1 + 1) ≠ 40 ∨ 12 ≤ a2 then rF (w1 + 1) else chL (bC h) (RC h w4 K (q - 1) a3 (a2 + 1)) 4 (w1 + 2) 0 0 1) r) (c78_25, [(2, 7), (2, 1), (0, a2), (0, a3), (0, x4), (0, x5), j6], [], h1, 0, 0)) := by
  intro N
  induction N with
  | zero => exact fun h1 x4 x5 y0 y1 y2 j6 g1 k1 b0 b1 b2 b3 b4 b5 b6 b7 b8 b9 b10 b11 b12 b13 b14 b15 b16 b17 b18 b19 b20 b21 b22 hm => absurd hm (by omega)
  | succ N ih =>
    show _
    intro h1 x4 x5 y0 y1 y2 j6 g1 k1 b0 b1 b2 b3 b4 b5 b6 b7 b8 b9 b10 b11 ey0 ly0 uy0 ey1 ly1 uy1 ey2 ly2 uy2 H0 H1 hm
    refine ev_iload rfl ?_
    refine ev_iconst ?_
    refine ev_icmpge f78_100 (fun c76999 => absurd c76999 (by omega)) (fun c76999 => ?_)
    refine ev_aload_n rfl ?_
    refine g_getv (r := 7) (v := y0) g1 ad7 (by decide) ft5_1 (ey0) ?_
    refine ev_ifge f78_100 (fun c77000 => ?_) (fun c77000 => ?_)
    · refine ev_aload_n rfl ?_
      refine ev_bipush ?_
      refine ev_in (d := (d + 2)) (a := 0) (b := 0) (cd' := c71_0) (m := 2) (L0 := [(2, 7), (0, 41)]) (jcall_v (A := [(0, 41)]) (S' := []) (r := 7) rfl (g1.lt ad7) (g1.tg ad7) (Nat.le_of_ble_eq_true rfl)) (by decide) ml71 pp71 (Nat.le_of_ble_eq_true rfl) rfl (by decide) (by decide) ?_
      refine ev_aload_n rfl ?_
      refine g_getv (r := 7) (v := y0) g1 ad7 (by decide) ft5_1 (ey0) ?_
      refine ev_iflt f71_8 (fun c77001 => absurd c77001 (by omega)) (fun c77001 => ?_)
      refine ev_ret rfl (by decide) (by decide) ?_
      show jEv _ _ _ _ _ _ _ (_, [(2, 7), (2, 1), (0, a2), (0, a3), (0, x4), (0, x5), j6], [], _, _, _)
      refine ev_aload_n rfl ?_
      refine g_getv (r := 7) (v := y0) g1 ad7 (by decide) ft5_1 (ey0) ?_
      refine ev_iflt f78_117 (fun c77002 => absurd c77002 (by omega)) (fun c77002 => ?_)
      refine ev_iconst ?_
      refine ev_goto f78_119 ?_
      exact ev_ret rfl (by decide) (by decide) ⟨_, rfl, g1, k1, by omega, by omega, Rp.bad2 H1 (ey2) (by omega) (H0.resolve_left (fun z => absurd z.1 (by omega))).2 (by omega) (ey0) (by omega)⟩
    · obtain ⟨k177003, k277003, k377003, k477003, v77004, lv77004, s177003, s277003, s377003, s477003, s577003⟩ := H0.resolve_right (fun z => absurd z.1 (by omega))
      obtain ⟨v77005, ev77005, lv77005, uv77005⟩ := g1.rd ad15 (show (x4).toNat < 200 by omega) (rt15 _)
      obtain ⟨v77006, ev77006, lv77006, uv77006⟩ := g1.rd ad16 (show (x4).toNat < 200 by omega) (rt16 _)
      obtain ⟨v77007, ev77007, lv77007, uv77007⟩ := g1.rd ad17 (show (x4).toNat < 200 by omega) (rt17 _)
      rw [ev77005, ev77006] at s177003
      rw [ev77007] at s277003
      rw [ev77005] at s377003 s477003
      rw [ev77006] at s577003
      have s677003 : 1 ≤ v77007 ∧ v77007 ≤ 1000 := by rw [s277003]; unfold mn; split <;> omega
      refine ev_aload_n rfl ?_
      refine ev_iconst ?_
      refine ev_call (jcall_v (A := [(0, 2)]) (S' := []) (r := 7) rfl (g1.lt ad7) (g1.tg ad7) (Nat.le_of_ble_eq_true rfl)) (jOk_le (by omega) (t76_2 g1 (((k1.v (by decide)).trans ew0)) (by omega) (by omega) (ey1) (by omega) (by omega) (by rw [(ey0)]; omega))) (by decide) (by decide) (fun w77008 h77008 q77008 => ?_)
      obtain ⟨v77009, rfl, g77008, kk77008, lv77009, uv77009, X77008⟩ := q77008
      have k77008 := k1.tr kk77008 (by decide)
      show jEv _ _ _ _ _ _ _ (_, [(2, 7), (2, 1), (0, a2), (0, a3), (0, x4), (0, x5), j6], [(0, v77009)], _, _, _)
      have N77010 := X77008
      rw [bC_kp k1 (fun _ => rfl) rfl] at N77010
      rcases N77010 with ⟨F77010, A77010⟩ | ⟨F77010, A77010⟩
      · obtain ⟨v77011, ev77011⟩ : ∃ q : Int, nm2 (bC h) y1 = q := ⟨_, rfl⟩
        rw [ev77011] at A77010
        have bv77011 := g77008.rg ad7 (i := 2) (by decide) rf7_2
        rw [A77010] at bv77011
        have nv77011 := nm2_f (bC h) y1 (by omega) (by omega)
        rw [ev77011] at nv77011
        refine ev_istore (L' := [(2, 7), (2, 1), (0, a2), (0, a3), (0, x4), (0, x5), (0, v77009)]) (Nat.le_of_ble_eq_true rfl) rfl ?_
        refine ev_aload_n rfl ?_
        refine ev_bipush ?_
        refine ev_in (d := (d + 2)) (a := 0) (b := 0) (cd' := c71_0) (m := 2) (L0 := [(2, 7), (0, 58)]) (jcall_v (A := [(0, 58)]) (S' := []) (r := 7) rfl (g77008.lt ad7) (g77008.tg ad7) (Nat.le_of_ble_eq_true rfl)) (by decide) ml71 pp71 (Nat.le_of_ble_eq_true rfl) rfl (by decide) (by decide) ?_
        refine ev_aload_n rfl ?_
        refine g_getv (r := 7) (v := (-1)) g77008 ad7 (by decide) ft5_1 (F77010) ?_
        refine ev_iflt f71_8 (fun c77012 => ?_) (fun c77012 => absurd c77012 (by omega))
        refine ev_aload_n rfl ?_
        refine ev_in (d := (d + 1)) (a := 0) (b := 0) (cd' := c68_0) (m := 1) (L0 := [(2, 7)]) (jcall_v (A := []) (S' := []) (r := 7) rfl (g77008.lt ad7) (g77008.tg ad7) (Nat.le_of_ble_eq_true rfl)) (by decide) ml68 pp68 (Nat.le_of_ble_eq_true rfl) rfl (by decide) (by decide) ?_
        refine ev_aload_n rfl ?_
        refine g_getv (r := 7) (v := v77011) g77008 ad7 (by decide) ft5_2 (A77010) ?_
        refine ev_aload_n rfl ?_
        refine g_getv (r := 7) (v := w0) g77008 ad7 (by decide) ft5_0 (((kk77008.v (by decide)).trans ((k1.v (by decide)).trans ew0))) ?_
        refine ev_icmpge f68_27 (fun c77013 => ?_) (fun c77013 => ?_)
        · refine ev_iconst ?_
          refine ev_ret rfl (by decide) (by decide) ?_
          show jEv _ _ _ _ _ _ _ (_, [(2, 7), (0, 58)], [(0, (-1))], _, _, _)
          refine ev_iload_n rfl ?_
          refine ev_icmpne f71_29 (fun c77014 => ?_) (fun c77014 => absurd c77014 (by omega))
          refine ev_aload_n rfl ?_
          refine ev_in (d := (d + 1)) (a := 0) (b := 0) (cd' := c70_0) (m := 1) (L0 := [(2, 7)]) (jcall_v (A := []) (S' := []) (r := 7) rfl (g77008.lt ad7) (g77008.tg ad7) (Nat.le_of_ble_eq_true rfl)) (by decide) ml70 pp70 (Nat.le_of_ble_eq_true rfl) rfl (by decide) (by decide) ?_
          refine ev_aload_n rfl ?_
          refine g_getv (r := 7) (v := (-1)) g77008 ad7 (by decide) ft5_1 (F77010) ?_
          refine ev_ifge f70_15 (fun c77015 => absurd c77015 (by omega)) (fun c77015 => ?_)
          refine ev_aload_n rfl ?_
          refine ev_aload_n rfl ?_
          refine g_getv (r := 7) (v := v77011) g77008 ad7 (by decide) ft5_2 (A77010) ?_
          refine g_putf (r := 7) g77008 ad7 (by decide) ft5_1 (by decide) (fun e => absurd e nz5_1) rf7_1 (by decide) (by omega) (by omega) (fun h77016 e77016 g77016 => ?_)
          have k77016 := k77008.wr e77016 rfl
          refine ev_ret rfl (by decide) (by decide) ?_
          show jEv _ _ _ _ _ _ _ (_, [(2, 7), (0, 58)], [], _, _, _)
          refine ev_ret rfl (by decide) (by decide) ?_
          show jEv _ _ _ _ _ _ _ (_, [(2, 7), (2, 1), (0, a2), (0, a3), (0, x4), (0, x5), (0, v77009)], [], _, _, _)
          refine ev_aload_n rfl ?_
          refine ev_iload rfl ?_
          refine ev_iload rfl ?_
          refine ev_iload rfl ?_
          refine ev_aload_n rfl ?_
          refine ev_aload_n rfl ?_
          refine ev_iload_n rfl ?_
          refine ev_iconst ?_
          refine ev_iadd (r := (a2 + 1)) (by unfold w32; omega) ?_
          refine ev_iload_n rfl ?_
          refine ev_call (jcall_v (A := [(0, a3), (0, (a2 + 1)), (2, 1)]) (S' := [(0, v77009), (0, x5), (0, x4), (2, 7)]) (r := 7) rfl (g77016.lt ad7) (g77016.tg ad7) (Nat.le_of_ble_eq_true rfl)) (jOk_le (by omega) (t74z g77016 (by omega) (by omega) (by omega) (by omega) ((jw_eq e77016)) (by omega) (by omega))) (by decide) (by decide) (fun w77017 h77017 q77017 => ?_)
          obtain ⟨v77018, rfl, g77017, kk77017, lv77018, uv77018, X77017⟩ := q77017
          have k77017 := k77016.tr kk77017 (by decide)
          show jEv _ _ _ _ _ _ _ (_, [(2, 7), (2, 1), (0, a2), (0, a3), (0, x4), (0, x5), (0, v77009)], [(0, v77018), (0, v77009), (0, x5), (0, x4), (2, 7)], _, _, _)
          refine ev_in (d := (d + 2)) (a := 0) (b := 0) (cd' := c80_0) (m := 5) (L0 := [(2, 7), (0, x4), (0, x5), (0, v77009), (0, v77018)]) (jcall_v (A := [(0, v77018), (0, v77009), (0, x5), (0, x4)]) (S' := []) (r := 7) rfl (g77017.lt ad7) (g77017.tg ad7) (Nat.le_of_ble_eq_true rfl)) (by decide) ml80 pp80 (Nat.le_of_ble_eq_true rfl) rfl (by decide) (by decide) ?_
          refine ev_aload_n rfl ?_
          refine g_getv (r := 7) (v := v77011) g77017 ad7 (by decide) ft5_1 (((kk77017.v (by decide)).trans (jw_eq e77016))) ?_
          refine ev_ifge f80_21 (fun c77019 => ?_) (fun c77019 => absurd c77019 (by omega))
          refine ev_ret rfl (by decide) (by decide) ?_
          show jEv _ _ _ _ _ _ _ (_, [(2, 7), (2, 1), (0, a2), (0, a3), (0, x4), (0, x5), (0, v77009)], [], _, _, _)
          refine ev_aload_n rfl ?_
          refine ev_in (d := (d + 2)) (a := 0) (b := 0) (cd' := c68_0) (m := 1) (L0 := [(2, 7)]) (jcall_v (A := []) (S' := []) (r := 7) rfl (g77017.lt ad7) (g77017.tg ad7) (Nat.le_of_ble_eq_true rfl)) (by decide) ml68 pp68 (Nat.le_of_ble_eq_true rfl) rfl (by decide) (by decide) ?_
          refine ev_aload_n rfl ?_
          refine g_getv (r := 7) (v := v77011) g77017 ad7 (by decide) ft5_2 (((kk77017.v (by decide)).trans ((jw_ne e77016 (Or.inr (by decide))).trans A77010))) ?_
          refine ev_aload_n rfl ?_
          refine g_getv (r := 7) (v := w0) g77017 ad7 (by decide) ft5_0 (((kk77017.v (by decide)).trans ((jw_ne e77016 (Or.inr (by decide))).trans ((kk77008.v (by decide)).trans ((k1.v (by decide)).trans ew0))))) ?_
          refine ev_icmpge f68_27 (fun c77020 => ?_) (fun c77020 => absurd c77020 (by omega))
          refine ev_iconst ?_
          refine ev_ret rfl (by decide) (by decide) ?_
          show jEv _ _ _ _ _ _ _ (_, [(2, 7), (2, 1), (0, a2), (0, a3), (0, x4), (0, x5), (0, v77009)], [(0, (-1))], _, _, _)
          refine ev_bipush ?_
          refine ev_icmpne f78_100 (fun c77021 => ?_) (fun c77021 => absurd c77021 (by omega))
          refine ev_aload_n rfl ?_
          refine ev_bipush ?_
          refine ev_in (d := (d + 2)) (a := 0) (b := 0) (cd' := c71_0) (m := 2) (L0 := [(2, 7), (0, 41)]) (jcall_v (A := [(0, 41)]) (S' := []) (r := 7) rfl (g77017.lt ad7) (g77017.tg ad7) (Nat.le_of_ble_eq_true rfl)) (by decide) ml71 pp71 (Nat.le_of_ble_eq_true rfl) rfl (by decide) (by decide) ?_
          refine ev_aload_n rfl ?_
          refine g_getv (r := 7) (v := v77011) g77017 ad7 (by decide) ft5_1 (((kk77017.v (by decide)).trans (jw_eq e77016))) ?_
          refine ev_iflt f71_8 (fun c77022 => absurd c77022 (by omega)) (fun c77022 => ?_)
          refine ev_ret rfl (by decide) (by decide) ?_
          show jEv _ _ _ _ _ _ _ (_, [(2, 7), (2, 1), (0, a2), (0, a3), (0, x4), (0, x5), (0, v77009)], [], _, _, _)
          refine ev_aload_n rfl ?_
          refine g_getv (r := 7) (v := v77011) g77017 ad7 (by decide) ft5_1 (((kk77017.v (by decide)).trans (jw_eq e77016))) ?_
          refine ev_iflt f78_117 (fun c77023 => absurd c77023 (by omega)) (fun c77023 => ?_)
          refine ev_iconst ?_
          refine ev_goto f78_119 ?_
          exact ev_ret rfl (by decide) (by decide) ⟨_, rfl, g77017, k77017, by omega, by omega, Rp.bad (((H1.kp kk77008 (fun _ => rfl) (fun _ => rfl) (fun _ => rfl)).wn e77016 (by decide)).kp kk77017 (fun _ => rfl) (fun _ => rfl) (fun _ => rfl)) (((kk77017.v (by decide)).trans ((jw_ne e77016 (Or.inr (by decide))).trans ((kk77008.v (by decide)).trans ey2)))) (by omega) (s177003.trans (chL_c (show 0 < (4 - x5).toNat by omega) ev77011 (by omega) (fun z => absurd ((bC_end (p := v77011) ew0 (by omega)).symm.trans z) (by omega)))) (by omega) (((kk77017.v (by decide)).trans (jw_eq e77016))) (by omega)⟩
        · refine ev_aload_n rfl ?_
          refine g_getp (r := 7) (c := 8) g77008 ad7 (by decide) (by decide) rf7_5 ft5_5 ?_
          refine ev_aload_n rfl ?_
          refine g_getv (r := 7) (v := v77011) g77008 ad7 (by decide) ft5_2 (A77010) ?_
          refine g_bald g77008 ad8 rt8 (by omega) (by omega) (fun v77024 ev77024 lv77024 uv77024 => ?_)
          refine ev_sipush ?_
          refine g_iandB (b := 255) (by omega) (by omega) (by decide) (fun v77025 ev77025 lv77025 uv77025 => ?_)
          have zv77025 := sgn ev77025 (by omega) (by omega)
          refine ev_goto f68_28 ?_
          refine ev_ret rfl (by decide) (by decide) ?_
          show jEv _ _ _ _ _ _ _ (_, [(2, 7), (0, 58)], [(0, v77025)], _, _, _)
          refine ev_iload_n rfl ?_
          refine ev_icmpne f71_29 (fun c77026 => ?_) (fun c77026 => ?_)
          · refine ev_aload_n rfl ?_
            refine ev_in (d := (d + 1)) (a := 0) (b := 0) (cd' := c70_0) (m := 1) (L0 := [(2, 7)]) (jcall_v (A := []) (S' := []) (r := 7) rfl (g77008.lt ad7) (g77008.tg ad7) (Nat.le_of_ble_eq_true rfl)) (by decide) ml70 pp70 (Nat.le_of_ble_eq_true rfl) rfl (by decide) (by decide) ?_
            refine ev_aload_n rfl ?_
            refine g_getv (r := 7) (v := (-1)) g77008 ad7 (by decide) ft5_1 (F77010) ?_
            refine ev_ifge f70_15 (fun c77027 => absurd c77027 (by omega)) (fun c77027 => ?_)
            refine ev_aload_n rfl ?_
            refine ev_aload_n rfl ?_
            refine g_getv (r := 7) (v := v77011) g77008 ad7 (by decide) ft5_2 (A77010) ?_
            refine g_putf (r := 7) g77008 ad7 (by decide) ft5_1 (by decide) (fun e => absurd e nz5_1) rf7_1 (by decide) (by omega) (by omega) (fun h77028 e77028 g77028 => ?_)
            have k77028 := k77008.wr e77028 rfl
            refine ev_ret rfl (by decide) (by decide) ?_
            show jEv _ _ _ _ _ _ _ (_, [(2, 7), (0, 58)], [], _, _, _)
            refine ev_ret rfl (by decide) (by decide) ?_
            show jEv _ _ _ _ _ _ _ (_, [(2, 7), (2, 1), (0, a2), (0, a3), (0, x4), (0, x5), (0, v77009)], [], _, _, _)
            refine ev_aload_n rfl ?_
            refine ev_iload rfl ?_
            refine ev_iload rfl ?_
            refine ev_iload rfl ?_
            refine ev_aload_n rfl ?_
            refine ev_aload_n rfl ?_
            refine ev_iload_n rfl ?_
            refine ev_iconst ?_
            refine ev_iadd (r := (a2 + 1)) (by unfold w32; omega) ?_
            refine ev_iload_n rfl ?_
            refine ev_call (jcall_v (A := [(0, a3), (0, (a2 + 1)), (2, 1)]) (S' := [(0, v77009), (0, x5), (0, x4), (2, 7)]) (r := 7) rfl (g77028.lt ad7) (g77028.tg ad7) (Nat.le_of_ble_eq_true rfl)) (jOk_le (by omega) (t74z g77028 (by omega) (by omega) (by omega) (by omega) ((jw_eq e77028)) (by omega) (by omega))) (by decide) (by decide) (fun w77029 h77029 q77029 => ?_)
            obtain ⟨v77030, rfl, g77029, kk77029, lv77030, uv77030, X77029⟩ := q77029
            have k77029 := k77028.tr kk77029 (by decide)
            show jEv _ _ _ _ _ _ _ (_, [(2, 7), (2, 1), (0, a2), (0, a3), (0, x4), (0, x5), (0, v77009)], [(0, v77030), (0, v77009), (0, x5), (0, x4), (2, 7)], _, _, _)
            refine ev_in (d := (d + 2)) (a := 0) (b := 0) (cd' := c80_0) (m := 5) (L0 := [(2, 7), (0, x4), (0, x5), (0, v77009), (0, v77030)]) (jcall_v (A := [(0, v77030), (0, v77009), (0, x5), (0, x4)]) (S' := []) (r := 7) rfl (g77029.lt ad7) (g77029.tg ad7) (Nat.le_of_ble_eq_true rfl)) (by decide) ml80 pp80 (Nat.le_of_ble_eq_true rfl) rfl (by decide) (by decide) ?_
            refine ev_aload_n rfl ?_
            refine g_getv (r := 7) (v := v77011) g77029 ad7 (by decide) ft5_1 (((kk77029.v (by decide)).trans (jw_eq e77028))) ?_
            refine ev_ifge f80_21 (fun c77031 => ?_) (fun c77031 => absurd c77031 (by omega))
            refine ev_ret rfl (by decide) (by decide) ?_
            show jEv _ _ _ _ _ _ _ (_, [(2, 7), (2, 1), (0, a2), (0, a3), (0, x4), (0, x5), (0, v77009)], [], _, _, _)
            refine ev_aload_n rfl ?_
            refine ev_in (d := (d + 2)) (a := 0) (b := 0) (cd' := c68_0) (m := 1) (L0 := [(2, 7)]) (jcall_v (A := []) (S' := []) (r := 7) rfl (g77029.lt ad7) (g77029.tg ad7) (Nat.le_of_ble_eq_true rfl)) (by decide) ml68 pp68 (Nat.le_of_ble_eq_true rfl) rfl (by decide) (by decide) ?_
            refine ev_aload_n rfl ?_
            refine g_getv (r := 7) (v := v77011) g77029 ad7 (by decide) ft5_2 (((kk77029.v (by decide)).trans ((jw_ne e77028 (Or.inr (by decide))).trans A77010))) ?_
            refine ev_aload_n rfl ?_
            refine g_getv (r := 7) (v := w0) g77029 ad7 (by decide) ft5_0 (((kk77029.v (by decide)).trans ((jw_ne e77028 (Or.inr (by decide))).trans ((kk77008.v (by decide)).trans ((k1.v (by decide)).trans ew0))))) ?_
            refine ev_icmpge f68_27 (fun c77032 => absurd c77032 (by omega)) (fun c77032 => ?_)
            refine ev_aload_n rfl ?_
            refine g_getp (r := 7) (c := 8) g77029 ad7 (by decide) (by decide) rf7_5 ft5_5 ?_
            refine ev_aload_n rfl ?_
            refine g_getv (r := 7) (v := v77011) g77029 ad7 (by decide) ft5_2 (((kk77029.v (by decide)).trans ((jw_ne e77028 (Or.inr (by decide))).trans A77010))) ?_
            refine g_baldv (v := v77024) g77029 ad8 (by omega) (by omega) (((kk77029.v rfl).trans ((jw_ne e77028 (Or.inl (by decide))).trans ev77024))) ?_
            refine ev_sipush ?_
            refine g_iandB (b := 255) (by omega) (by omega) (by decide) (fun v77033 ev77033 lv77033 uv77033 => ?_)
            obtain rfl : v77025 = v77033 := by omega
            refine ev_goto f68_28 ?_
            refine ev_ret rfl (by decide) (by decide) ?_
            show jEv _ _ _ _ _ _ _ (_, [(2, 7), (2, 1), (0, a2), (0, a3), (0, x4), (0, x5), (0, v77009)], [(0, v77025)], _, _, _)
            refine ev_bipush ?_
            refine ev_icmpne f78_100 (fun c77034 => ?_) (fun c77034 => ?_)
            · refine ev_aload_n rfl ?_
              refine ev_bipush ?_
              refine ev_in (d := (d + 2)) (a := 0) (b := 0) (cd' := c71_0) (m := 2) (L0 := [(2, 7), (0, 41)]) (jcall_v (A := [(0, 41)]) (S' := []) (r := 7) rfl (g77029.lt ad7) (g77029.tg ad7) (Nat.le_of_ble_eq_true rfl)) (by decide) ml71 pp71 (Nat.le_of_ble_eq_true rfl) rfl (by decide) (by decide) ?_
              refine ev_aload_n rfl ?_
              refine g_getv (r := 7) (v := v77011) g77029 ad7 (by decide) ft5_1 (((kk77029.v (by decide)).trans (jw_eq e77028))) ?_
              refine ev_iflt f71_8 (fun c77035 => absurd c77035 (by omega)) (fun c77035 => ?_)
              refine ev_ret rfl (by decide) (by decide) ?_
              show jEv _ _ _ _ _ _ _ (_, [(2, 7), (2, 1), (0, a2), (0, a3), (0, x4), (0, x5), (0, v77009)], [], _, _, _)
              refine ev_aload_n rfl ?_
              refine g_getv (r := 7) (v := v77011) g77029 ad7 (by decide) ft5_1 (((kk77029.v (by decide)).trans (jw_eq e77028))) ?_
              refine ev_iflt f78_117 (fun c77036 => absurd c77036 (by omega)) (fun c77036 => ?_)
              refine ev_iconst ?_
              refine ev_goto f78_119 ?_
              exact ev_ret rfl (by decide) (by decide) ⟨_, rfl, g77029, k77029, by omega, by omega, Rp.bad (((H1.kp kk77008 (fun _ => rfl) (fun _ => rfl) (fun _ => rfl)).wn e77028 (by decide)).kp kk77029 (fun _ => rfl) (fun _ => rfl) (fun _ => rfl)) (((kk77029.v (by decide)).trans ((jw_ne e77028 (Or.inr (by decide))).trans ((kk77008.v (by decide)).trans ey2)))) (by omega) (s177003.trans (chL_c (show 0 < (4 - x5).toNat by omega) ev77011 (by omega) (fun z => absurd ((bC_at (p := v77011) k77029 (fun _ => rfl) ew0 (((kk77029.v rfl).trans ((jw_ne e77028 (Or.inl (by decide))).trans ev77024))) (by omega) (by omega)).symm.trans z) (by omega)))) (by omega) (((kk77029.v (by decide)).trans (jw_eq e77028))) (by omega)⟩
            · refine ev_iload rfl ?_
              refine ev_iconst ?_
              refine ev_icmpne f78_88 (fun c77037 => ?_) (fun c77037 => ?_)
              · refine ev_aload_n rfl ?_
                refine ev_bipush ?_
                refine ev_in (d := (d + 2)) (a := 0) (b := 0) (cd' := c71_0) (m := 2) (L0 := [(2, 7), (0, 44)]) (jcall_v (A := [(0, 44)]) (S' := []) (r := 7) rfl (g77029.lt ad7) (g77029.tg ad7) (Nat.le_of_ble_eq_true rfl)) (by decide) ml71 pp71 (Nat.le_of_ble_eq_true rfl) rfl (by decide) (by decide) ?_
                refine ev_aload_n rfl ?_
                refine g_getv (r := 7) (v := v77011) g77029 ad7 (by decide) ft5_1 (((kk77029.v (by decide)).trans (jw_eq e77028))) ?_
                refine ev_iflt f71_8 (fun c77038 => absurd c77038 (by omega)) (fun c77038 => ?_)
                refine ev_ret rfl (by decide) (by decide) ?_
                show jEv _ _ _ _ _ _ _ (_, [(2, 7), (2, 1), (0, a2), (0, a3), (0, x4), (0, x5), (0, v77009)], [], _, _, _)
                refine ev_iinc (w := (x5 + 1)) (L' := [(2, 7), (2, 1), (0, a2), (0, a3), (0, x4), (0, (x5 + 1)), (0, v77009)]) rfl (by unfold w32; omega) rfl ?_
                refine ev_goto f78_25 ?_
                exact ih _ _ _ _ _ _ _ g77029 k77029 (by omega) (by omega) (by omega) (by omega) (by omega) (by omega) (by omega) (by omega) (by omega) (by omega) (by omega) (by omega) (((kk77029.v (by decide)).trans (jw_eq e77028))) (by omega) (by omega) (((kk77029.v (by decide)).trans ((jw_ne e77028 (Or.inr (by decide))).trans A77010))) (by omega) (by omega) (((kk77029.v (by decide)).trans ((jw_ne e77028 (Or.inr (by decide))).trans ((kk77008.v (by decide)).trans ey2)))) (by omega) (by omega) (ci_bad ((s177003.trans (chL_c (show 0 < (4 - x5).toNat by omega) ev77011 (by omega) (fun z => absurd ((bC_at (p := v77011) k77029 (fun _ => rfl) ew0 (((kk77029.v rfl).trans ((jw_ne e77028 (Or.inl (by decide))).trans ev77024))) (by omega) (by omega)).symm.trans z) (by omega))))) (by omega) (by show -1 - _ = _; omega)) (((H1.kp kk77008 (fun _ => rfl) (fun _ => rfl) (fun _ => rfl)).wn e77028 (by decide)).kp kk77029 (fun _ => rfl) (fun _ => rfl) (fun _ => rfl)) (by omega)
              · refine ev_goto f78_100 ?_
                refine ev_aload_n rfl ?_
                refine ev_bipush ?_
                refine ev_in (d := (d + 2)) (a := 0) (b := 0) (cd' := c71_0) (m := 2) (L0 := [(2, 7), (0, 41)]) (jcall_v (A := [(0, 41)]) (S' := []) (r := 7) rfl (g77029.lt ad7) (g77029.tg ad7) (Nat.le_of_ble_eq_true rfl)) (by decide) ml71 pp71 (Nat.le_of_ble_eq_true rfl) rfl (by decide) (by decide) ?_
                refine ev_aload_n rfl ?_
                refine g_getv (r := 7) (v := v77011) g77029 ad7 (by decide) ft5_1 (((kk77029.v (by decide)).trans (jw_eq e77028))) ?_
                refine ev_iflt f71_8 (fun c77039 => absurd c77039 (by omega)) (fun c77039 => ?_)
                refine ev_ret rfl (by decide) (by decide) ?_
                show jEv _ _ _ _ _ _ _ (_, [(2, 7), (2, 1), (0, a2), (0, a3), (0, x4), (0, x5), (0, v77009)], [], _, _, _)
                refine ev_aload_n rfl ?_
                refine g_getv (r := 7) (v := v77011) g77029 ad7 (by decide) ft5_1 (((kk77029.v (by decide)).trans (jw_eq e77028))) ?_
                refine ev_iflt f78_117 (fun c77040 => absurd c77040 (by omega)) (fun c77040 => ?_)
                refine ev_iconst ?_
                refine ev_goto f78_119 ?_
                exact ev_ret rfl (by decide) (by decide) ⟨_, rfl, g77029, k77029, by omega, by omega, Rp.bad (((H1.kp kk77008 (fun _ => rfl) (fun _ => rfl) (fun _ => rfl)).wn e77028 (by decide)).kp kk77029 (fun _ => rfl) (fun _ => rfl) (fun _ => rfl)) (((kk77029.v (by decide)).trans ((jw_ne e77028 (Or.inr (by decide))).trans ((kk77008.v (by decide)).trans ey2)))) (by omega) (s177003.trans (chL_c (show 0 < (4 - x5).toNat by omega) ev77011 (by omega) (fun z => absurd ((bC_at (p := v77011) k77029 (fun _ => rfl) ew0 (((kk77029.v rfl).trans ((jw_ne e77028 (Or.inl (by decide))).trans ev77024))) (by omega) (by omega)).symm.trans z) (by omega)))) (by omega) (((kk77029.v (by decide)).trans (jw_eq e77028))) (by omega)⟩
          · refine ev_aload_n rfl ?_
            refine ev_dup (by decide) ?_
            refine g_getv (r := 7) (v := v77011) g77008 ad7 (by decide) ft5_2 (A77010) ?_
            refine ev_iconst ?_
            refine ev_iadd (r := (v77011 + 1)) (by unfold w32; omega) ?_
            refine g_putf (r := 7) g77008 ad7 (by decide) ft5_2 (by decide) (fun e => absurd e nz5_2) rf7_2 (by decide) (by omega) (by omega) (fun h77041 e77041 g77041 => ?_)
            have k77041 := k77008.wr e77041 rfl
            refine ev_goto f71_33 ?_
            refine ev_ret rfl (by decide) (by decide) ?_
            show jEv _ _ _ _ _ _ _ (_, [(2, 7), (2, 1), (0, a2), (0, a3), (0, x4), (0, x5), (0, v77009)], [], _, _, _)
            refine ev_aload_n rfl ?_
            refine ev_iload rfl ?_
            refine ev_iload rfl ?_
            refine ev_iload rfl ?_
            refine ev_aload_n rfl ?_
            refine ev_aload_n rfl ?_
            refine ev_iload_n rfl ?_
            refine ev_iconst ?_
            refine ev_iadd (r := (a2 + 1)) (by unfold w32; omega) ?_
            refine ev_iload_n rfl ?_
            refine ev_call (jcall_v (A := [(0, a3), (0, (a2 + 1)), (2, 1)]) (S' := [(0, v77009), (0, x5), (0, x4), (2, 7)]) (r := 7) rfl (g77041.lt ad7) (g77041.tg ad7) (Nat.le_of_ble_eq_true rfl)) (jOk_le (by omega) (rih g77041 (by omega) (by omega) (by omega) (by omega) (((jw_ne e77041 (Or.inr (by decide))).trans ((kk77008.v (by decide)).trans ((k1.v (by decide)).trans ew0)))) (by omega) (by omega) ((jw_eq e77041)) (by omega) (by omega) (((jw_ne e77041 (Or.inr (by decide))).trans F77010)) (((jw_ne e77041 (Or.inr (by decide))).trans ((kk77008.v (by decide)).trans ey2))) (by omega) (by omega) (((jw_ne e77041 (Or.inr (by decide))).trans ((kk77008.v (by decide)).trans ((k1.v (by decide)).trans ew4)))) (by omega) (by omega) (by omega) (K := K) (q := q - 1) (hK.go ((H1.kp kk77008 (fun _ => rfl) (fun _ => rfl) (fun _ => rfl)).wn e77041 (by decide)) ew3 (by rw [(((jw_ne e77041 (Or.inr (by decide))).trans ((kk77008.v (by decide)).trans ey2)))]; omega) (fun _ => k77041.v rfl)) (by omega) (by omega))) (by decide) (by decide) (fun w77042 h77042 q77042 => ?_)
            obtain ⟨v77043, rfl, g77042, kk77042, lv77043, uv77043, X77042⟩ := q77042
            have k77042 := k77041.tr kk77042 (by decide)
            show jEv _ _ _ _ _ _ _ (_, [(2, 7), (2, 1), (0, a2), (0, a3), (0, x4), (0, x5), (0, v77009)], [(0, v77043), (0, v77009), (0, x5), (0, x4), (2, 7)], _, _, _)
            have X77044 := X77042
            rw [RC_kp k77041 (fun _ => rfl) rfl (fun _ => rfl) rfl] at X77044
            obtain ⟨Q77044, eQ77044⟩ : ∃ R : RS, RC h w4 K (q - 1) a3 (a2 + 1) (v77011 + 1) = R := ⟨_, rfl⟩
            rw [eQ77044] at X77044
            rcases X77044.2.2 with ⟨c177044, c277044, c377044, c477044, d177044, d277044, d377044, d477044, d577044⟩ | ⟨c177044, c277044⟩
            · have G77044 := rd_g (B := bC h) (Y := yC h) (by have z := (g77042.rg ad1 (i := 0) (by decide) rf1_0).2; rw [k77042.v (by decide)] at z; omega) hK.1 (q - 1) a3 (a2 + 1) (by omega) (by omega) (by omega) (by omega) (v77011 + 1) (by omega) (by show 0 ≤ (RC h w4 K (q - 1) _ (a2 + 1) _).1; rw [eQ77044]; exact c177044)
              rw [show rd (bC h) (h.2.2 1 0) (yC h) w4 K (q - 1) a3 (a2 + 1) (v77011 + 1) = Q77044 from eQ77044] at G77044
              obtain ⟨v77045, v77046, v77047, v77048⟩ := Q77044
              simp only [] at c177044 c377044 c477044 d377044 d477044 d577044 G77044
              obtain ⟨G177044, G277044, G377044, G477044, G577044, G677044, G777044⟩ := G77044
              have bv77045 := g77042.rg ad7 (i := 2) (by decide) rf7_2
              rw [c377044] at bv77045
              obtain ⟨v77049, ev77049⟩ : ∃ z : Int, mn v77048 = z := ⟨_, rfl⟩
              rw [ev77049] at d577044
              have fv77049 : 1 ≤ v77049 ∧ v77049 ≤ 1000 := by rw [← ev77049]; unfold mn; split <;> omega
              obtain ⟨v77051, ev77051, lv77051, uv77051⟩ := g77042.rd ad7 (show 3 < 15 by decide) rf7_3
              have m77044 := c477044
              have m277044 := d277044
              have m377044 := X77044.2.1
              rw [ev77051] at m77044 m277044 m377044
              refine ev_in (d := (d + 2)) (a := 0) (b := 0) (cd' := c80_0) (m := 5) (L0 := [(2, 7), (0, x4), (0, x5), (0, v77009), (0, v77043)]) (jcall_v (A := [(0, v77043), (0, v77009), (0, x5), (0, x4)]) (S' := []) (r := 7) rfl (g77042.lt ad7) (g77042.tg ad7) (Nat.le_of_ble_eq_true rfl)) (by decide) ml80 pp80 (Nat.le_of_ble_eq_true rfl) rfl (by decide) (by decide) ?_
              refine ev_aload_n rfl ?_
              refine g_getv (r := 7) (v := (-1)) g77042 ad7 (by decide) ft5_1 (c277044) ?_
              refine ev_ifge f80_21 (fun c77052 => absurd c77052 (by omega)) (fun c77052 => ?_)
              refine ev_iload_n rfl ?_
              refine ev_iflt f80_21 (fun c77053 => absurd c77053 (by omega)) (fun c77053 => ?_)
              refine ev_iload rfl ?_
              refine ev_iflt f80_21 (fun c77054 => absurd c77054 (by omega)) (fun c77054 => ?_)
              refine ev_iload_n rfl ?_
              refine ev_iconst ?_
              refine ev_icmplt f80_22 (fun c77055 => ?_) (fun c77055 => absurd c77055 (by omega))
              refine ev_aload_n rfl ?_
              refine g_getp (r := 7) (c := 13) g77042 ad7 (by decide) (by decide) rf7_10 ft5_10 ?_
              refine ev_iconst ?_
              refine ev_iload_n rfl ?_
              refine ev_imul (r := (4 * x4)) (by unfold w32; omega) ?_
              refine ev_iload_n rfl ?_
              refine ev_iadd (r := (4 * x4 + x5)) (by unfold w32; omega) ?_
              refine ev_iload rfl ?_
              refine g_iast g77042 ad13 rt13 (fun _ => rfl) (by omega) (by omega) (by omega) (by omega) (fun h77056 e77056 g77056 => ?_)
              have k77056 := k77042.wr e77056 rfl
              refine ev_aload_n rfl ?_
              refine g_getp (r := 7) (c := 14) g77056 ad7 (by decide) (by decide) rf7_11 ft5_11 ?_
              refine ev_iconst ?_
              refine ev_iload_n rfl ?_
              refine ev_imul (r := (4 * x4)) (by unfold w32; omega) ?_
              refine ev_iload_n rfl ?_
              refine ev_iadd (r := (4 * x4 + x5)) (by unfold w32; omega) ?_
              refine ev_iload_n rfl ?_
              refine g_iast g77056 ad14 rt14 (fun _ => rfl) (by omega) (by omega) (by omega) (by omega) (fun h77057 e77057 g77057 => ?_)
              have k77057 := k77056.wr e77057 rfl
              refine ev_aload_n rfl ?_
              refine g_getp (r := 7) (c := 12) g77057 ad7 (by decide) (by decide) rf7_9 ft5_9 ?_
              refine ev_iload_n rfl ?_
              refine ev_iload_n rfl ?_
              refine ev_iconst ?_
              refine ev_iadd (r := (x5 + 1)) (by unfold w32; omega) ?_
              refine g_iast g77057 ad12 rt12 (fun _ => rfl) (by omega) (by omega) (by omega) (by omega) (fun h77058 e77058 g77058 => ?_)
              have k77058 := k77057.wr e77058 rfl
              refine ev_aload_n rfl ?_
              refine g_getp (r := 7) (c := 15) g77058 ad7 (by decide) (by decide) rf7_12 ft5_12 ?_
              refine ev_iload_n rfl ?_
              refine ev_dup2 (by decide) (by decide) ?_
              refine g_ialdv (v := v77005) g77058 ad15 (by omega) (by omega) (((jw_ne e77058 (Or.inl (by decide))).trans ((jw_ne e77057 (Or.inl (by decide))).trans ((jw_ne e77056 (Or.inl (by decide))).trans ((X77044.1 (x4).toNat (by omega)).1.trans (((jw_ne e77041 (Or.inl (by decide))).trans ((kk77008.v rfl).trans ev77005)))))))) ?_
              refine ev_aload_n rfl ?_
              refine g_getp (r := 7) (c := 15) g77058 ad7 (by decide) (by decide) rf7_12 ft5_12 ?_
              refine ev_iload rfl ?_
              refine g_ialdv (v := v77046) g77058 ad15 (by omega) (by omega) (((jw_ne e77058 (Or.inl (by decide))).trans ((jw_ne e77057 (Or.inl (by decide))).trans ((jw_ne e77056 (Or.inl (by decide))).trans d377044)))) ?_
              refine g_iorB (k := 4) (hi := 15) (by decide) (by decide) (by omega) (by omega) (by omega) (by omega) (fun v77059 ev77059 lv77059 uv77059 => ?_)
              refine g_iast g77058 ad15 rt15 (fun _ => rfl) (by omega) (by omega) (by omega) (by omega) (fun h77060 e77060 g77060 => ?_)
              have k77060 := k77058.wr e77060 rfl
              refine ev_aload_n rfl ?_
              refine g_getp (r := 7) (c := 16) g77060 ad7 (by decide) (by decide) rf7_13 ft5_13 ?_
              refine ev_iload_n rfl ?_
              refine ev_aload_n rfl ?_
              refine g_getp (r := 7) (c := 16) g77060 ad7 (by decide) (by decide) rf7_13 ft5_13 ?_
              refine ev_iload_n rfl ?_
              refine g_ialdv (v := v77006) g77060 ad16 (by omega) (by omega) (((jw_ne e77060 (Or.inl (by decide))).trans ((jw_ne e77058 (Or.inl (by decide))).trans ((jw_ne e77057 (Or.inl (by decide))).trans ((jw_ne e77056 (Or.inl (by decide))).trans ((X77044.1 (x4).toNat (by omega)).2.1.trans (((jw_ne e77041 (Or.inl (by decide))).trans ((kk77008.v rfl).trans ev77006))))))))) ?_
              refine ev_iconst ?_
              refine ev_aload_n rfl ?_
              refine g_getp (r := 7) (c := 16) g77060 ad7 (by decide) (by decide) rf7_13 ft5_13 ?_
              refine ev_iload rfl ?_
              refine g_ialdv (v := v77047) g77060 ad16 (by omega) (by omega) (((jw_ne e77060 (Or.inl (by decide))).trans ((jw_ne e77058 (Or.inl (by decide))).trans ((jw_ne e77057 (Or.inl (by decide))).trans ((jw_ne e77056 (Or.inl (by decide))).trans d477044))))) ?_
              refine ev_iadd (r := (v77047 + 1)) (by unfold w32; omega) ?_
              refine ev_in (d := (d + 1)) (a := 0) (b := 0) (cd' := c379_0) (m := 2) (L0 := [(0, v77006), (0, (v77047 + 1))]) (jcall_s (A := [(0, (v77047 + 1)), (0, v77006)]) (S' := [(0, x4), (2, 16)]) (by decide) rfl (Nat.le_of_ble_eq_true rfl)) (by decide) ml379 pp379 (Nat.le_of_ble_eq_true rfl) rfl (by decide) (by decide) ?_
              refine ev_iload_n rfl ?_
              refine ev_iload_n rfl ?_
              refine ev_icmplt f379_9 (fun c77061 => ?_) (fun c77061 => ?_)
              · refine ev_iload_n rfl ?_
                refine ev_ret rfl (by decide) (by decide) ?_
                show jEv _ _ _ _ _ _ _ (_, [(2, 7), (0, x4), (0, x5), (0, v77009), (0, v77043)], [(0, (v77047 + 1)), (0, x4), (2, 16)], _, _, _)
                refine g_iast g77060 ad16 rt16 (fun _ => rfl) (by omega) (by omega) (by omega) (by omega) (fun h77062 e77062 g77062 => ?_)
                have k77062 := k77060.wr e77062 rfl
                refine ev_aload_n rfl ?_
                refine g_getp (r := 7) (c := 17) g77062 ad7 (by decide) (by decide) rf7_14 ft5_14 ?_
                refine ev_iload_n rfl ?_
                refine ev_sipush ?_
                refine ev_aload_n rfl ?_
                refine g_getp (r := 7) (c := 17) g77062 ad7 (by decide) (by decide) rf7_14 ft5_14 ?_
                refine ev_iload_n rfl ?_
                refine g_ialdv (v := v77007) g77062 ad17 (by omega) (by omega) (((jw_ne e77062 (Or.inl (by decide))).trans ((jw_ne e77060 (Or.inl (by decide))).trans ((jw_ne e77058 (Or.inl (by decide))).trans ((jw_ne e77057 (Or.inl (by decide))).trans ((jw_ne e77056 (Or.inl (by decide))).trans ((X77044.1 (x4).toNat (by omega)).2.2.trans (((jw_ne e77041 (Or.inl (by decide))).trans ((kk77008.v rfl).trans ev77007)))))))))) ?_
                refine ev_aload_n rfl ?_
                refine g_getp (r := 7) (c := 17) g77062 ad7 (by decide) (by decide) rf7_14 ft5_14 ?_
                refine ev_iload rfl ?_
                refine g_ialdv (v := v77049) g77062 ad17 (by omega) (by omega) (((jw_ne e77062 (Or.inl (by decide))).trans ((jw_ne e77060 (Or.inl (by decide))).trans ((jw_ne e77058 (Or.inl (by decide))).trans ((jw_ne e77057 (Or.inl (by decide))).trans ((jw_ne e77056 (Or.inl (by decide))).trans d577044)))))) ?_
                refine ev_iadd (r := (v77007 + v77049)) (by unfold w32; omega) ?_
                refine ev_in (d := (d + 1)) (a := 0) (b := 0) (cd' := c381_0) (m := 2) (L0 := [(0, 1000), (0, (v77007 + v77049))]) (jcall_s (A := [(0, (v77007 + v77049)), (0, 1000)]) (S' := [(0, x4), (2, 17)]) (by decide) rfl (Nat.le_of_ble_eq_true rfl)) (by decide) ml381 pp381 (Nat.le_of_ble_eq_true rfl) rfl (by decide) (by decide) ?_
                refine ev_iload_n rfl ?_
                refine ev_iload_n rfl ?_
                refine ev_icmpgt f381_9 (fun c77063 => ?_) (fun c77063 => ?_)
                · refine ev_iload_n rfl ?_
                  refine ev_ret rfl (by decide) (by decide) ?_
                  show jEv _ _ _ _ _ _ _ (_, [(2, 7), (0, x4), (0, x5), (0, v77009), (0, v77043)], [(0, (v77007 + v77049)), (0, x4), (2, 17)], _, _, _)
                  refine g_iast g77062 ad17 rt17 (fun _ => rfl) (by omega) (by omega) (by omega) (by omega) (fun h77064 e77064 g77064 => ?_)
                  have k77064 := k77062.wr e77064 rfl
                  refine ev_ret rfl (by decide) (by decide) ?_
                  show jEv _ _ _ _ _ _ _ (_, [(2, 7), (2, 1), (0, a2), (0, a3), (0, x4), (0, x5), (0, v77009)], [], _, _, _)
                  refine ev_aload_n rfl ?_
                  refine ev_in (d := (d + 2)) (a := 0) (b := 0) (cd' := c68_0) (m := 1) (L0 := [(2, 7)]) (jcall_v (A := []) (S' := []) (r := 7) rfl (g77064.lt ad7) (g77064.tg ad7) (Nat.le_of_ble_eq_true rfl)) (by decide) ml68 pp68 (Nat.le_of_ble_eq_true rfl) rfl (by decide) (by decide) ?_
                  refine ev_aload_n rfl ?_
                  refine g_getv (r := 7) (v := v77045) g77064 ad7 (by decide) ft5_2 (((jw_ne e77064 (Or.inl (by decide))).trans ((jw_ne e77062 (Or.inl (by decide))).trans ((jw_ne e77060 (Or.inl (by decide))).trans ((jw_ne e77058 (Or.inl (by decide))).trans ((jw_ne e77057 (Or.inl (by decide))).trans ((jw_ne e77056 (Or.inl (by decide))).trans c377044))))))) ?_
                  refine ev_aload_n rfl ?_
                  refine g_getv (r := 7) (v := w0) g77064 ad7 (by decide) ft5_0 (((jw_ne e77064 (Or.inl (by decide))).trans ((jw_ne e77062 (Or.inl (by decide))).trans ((jw_ne e77060 (Or.inl (by decide))).trans ((jw_ne e77058 (Or.inl (by decide))).trans ((jw_ne e77057 (Or.inl (by decide))).trans ((jw_ne e77056 (Or.inl (by decide))).trans ((kk77042.v (by decide)).trans ((jw_ne e77041 (Or.inr (by decide))).trans ((kk77008.v (by decide)).trans ((k1.v (by decide)).trans ew0))))))))))) ?_
                  refine ev_icmpge f68_27 (fun c77065 => ?_) (fun c77065 => ?_)
                  · refine ev_iconst ?_
                    refine ev_ret rfl (by decide) (by decide) ?_
                    show jEv _ _ _ _ _ _ _ (_, [(2, 7), (2, 1), (0, a2), (0, a3), (0, x4), (0, x5), (0, v77009)], [(0, (-1))], _, _, _)
                    refine ev_bipush ?_
                    refine ev_icmpne f78_100 (fun c77066 => ?_) (fun c77066 => absurd c77066 (by omega))
                    refine ev_aload_n rfl ?_
                    refine ev_bipush ?_
                    refine ev_in (d := (d + 2)) (a := 0) (b := 0) (cd' := c71_0) (m := 2) (L0 := [(2, 7), (0, 41)]) (jcall_v (A := [(0, 41)]) (S' := []) (r := 7) rfl (g77064.lt ad7) (g77064.tg ad7) (Nat.le_of_ble_eq_true rfl)) (by decide) ml71 pp71 (Nat.le_of_ble_eq_true rfl) rfl (by decide) (by decide) ?_
                    refine ev_aload_n rfl ?_
                    refine g_getv (r := 7) (v := (-1)) g77064 ad7 (by decide) ft5_1 (((jw_ne e77064 (Or.inl (by decide))).trans ((jw_ne e77062 (Or.inl (by decide))).trans ((jw_ne e77060 (Or.inl (by decide))).trans ((jw_ne e77058 (Or.inl (by decide))).trans ((jw_ne e77057 (Or.inl (by decide))).trans ((jw_ne e77056 (Or.inl (by decide))).trans c277044))))))) ?_
                    refine ev_iflt f71_8 (fun c77067 => ?_) (fun c77067 => absurd c77067 (by omega))
                    refine ev_aload_n rfl ?_
                    refine ev_in (d := (d + 1)) (a := 0) (b := 0) (cd' := c68_0) (m := 1) (L0 := [(2, 7)]) (jcall_v (A := []) (S' := []) (r := 7) rfl (g77064.lt ad7) (g77064.tg ad7) (Nat.le_of_ble_eq_true rfl)) (by decide) ml68 pp68 (Nat.le_of_ble_eq_true rfl) rfl (by decide) (by decide) ?_
                    refine ev_aload_n rfl ?_
                    refine g_getv (r := 7) (v := v77045) g77064 ad7 (by decide) ft5_2 (((jw_ne e77064 (Or.inl (by decide))).trans ((jw_ne e77062 (Or.inl (by decide))).trans ((jw_ne e77060 (Or.inl (by decide))).trans ((jw_ne e77058 (Or.inl (by decide))).trans ((jw_ne e77057 (Or.inl (by decide))).trans ((jw_ne e77056 (Or.inl (by decide))).trans c377044))))))) ?_
                    refine ev_aload_n rfl ?_
                    refine g_getv (r := 7) (v := w0) g77064 ad7 (by decide) ft5_0 (((jw_ne e77064 (Or.inl (by decide))).trans ((jw_ne e77062 (Or.inl (by decide))).trans ((jw_ne e77060 (Or.inl (by decide))).trans ((jw_ne e77058 (Or.inl (by decide))).trans ((jw_ne e77057 (Or.inl (by decide))).trans ((jw_ne e77056 (Or.inl (by decide))).trans ((kk77042.v (by decide)).trans ((jw_ne e77041 (Or.inr (by decide))).trans ((kk77008.v (by decide)).trans ((k1.v (by decide)).trans ew0))))))))))) ?_
                    refine ev_icmpge f68_27 (fun c77068 => ?_) (fun c77068 => absurd c77068 (by omega))
                    refine ev_iconst ?_
                    refine ev_ret rfl (by decide) (by decide) ?_
                    show jEv _ _ _ _ _ _ _ (_, [(2, 7), (0, 41)], [(0, (-1))], _, _, _)
                    refine ev_iload_n rfl ?_
                    refine ev_icmpne f71_29 (fun c77069 => ?_) (fun c77069 => absurd c77069 (by omega))
                    refine ev_aload_n rfl ?_
                    refine ev_in (d := (d + 1)) (a := 0) (b := 0) (cd' := c70_0) (m := 1) (L0 := [(2, 7)]) (jcall_v (A := []) (S' := []) (r := 7) rfl (g77064.lt ad7) (g77064.tg ad7) (Nat.le_of_ble_eq_true rfl)) (by decide) ml70 pp70 (Nat.le_of_ble_eq_true rfl) rfl (by decide) (by decide) ?_
                    refine ev_aload_n rfl ?_
                    refine g_getv (r := 7) (v := (-1)) g77064 ad7 (by decide) ft5_1 (((jw_ne e77064 (Or.inl (by decide))).trans ((jw_ne e77062 (Or.inl (by decide))).trans ((jw_ne e77060 (Or.inl (by decide))).trans ((jw_ne e77058 (Or.inl (by decide))).trans ((jw_ne e77057 (Or.inl (by decide))).trans ((jw_ne e77056 (Or.inl (by decide))).trans c277044))))))) ?_
                    refine ev_ifge f70_15 (fun c77070 => absurd c77070 (by omega)) (fun c77070 => ?_)
                    refine ev_aload_n rfl ?_
                    refine ev_aload_n rfl ?_
                    refine g_getv (r := 7) (v := v77045) g77064 ad7 (by decide) ft5_2 (((jw_ne e77064 (Or.inl (by decide))).trans ((jw_ne e77062 (Or.inl (by decide))).trans ((jw_ne e77060 (Or.inl (by decide))).trans ((jw_ne e77058 (Or.inl (by decide))).trans ((jw_ne e77057 (Or.inl (by decide))).trans ((jw_ne e77056 (Or.inl (by decide))).trans c377044))))))) ?_
                    refine g_putf (r := 7) g77064 ad7 (by decide) ft5_1 (by decide) (fun e => absurd e nz5_1) rf7_1 (by decide) (by omega) (by omega) (fun h77071 e77071 g77071 => ?_)
                    have k77071 := k77064.wr e77071 rfl
                    refine ev_ret rfl (by decide) (by decide) ?_
                    show jEv _ _ _ _ _ _ _ (_, [(2, 7), (0, 41)], [], _, _, _)
                    refine ev_ret rfl (by decide) (by decide) ?_
                    show jEv _ _ _ _ _ _ _ (_, [(2, 7), (2, 1), (0, a2), (0, a3), (0, x4), (0, x5), (0, v77009)], [], _, _, _)
                    refine ev_aload_n rfl ?_
                    refine g_getv (r := 7) (v := v77045) g77071 ad7 (by decide) ft5_1 ((jw_eq e77071)) ?_
                    refine ev_iflt f78_117 (fun c77072 => absurd c77072 (by omega)) (fun c77072 => ?_)
                    refine ev_iconst ?_
                    refine ev_goto f78_119 ?_
                    exact ev_ret rfl (by decide) (by decide) ⟨_, rfl, g77071, k77071, by omega, by omega, Rp.bad ((FrN.wr (i := x4) (FrN.wr (i := x4) (FrN.wr (i := x4) ((((FrN.tr ((H1.kp kk77008 (fun _ => rfl) (fun _ => rfl) (fun _ => rfl)).wn e77041 (by decide)) X77044.1 (by omega)).wn e77056 (by decide)).wn e77057 (by decide)).wn e77058 (by decide)) e77060 (Or.inr (by omega))) e77062 (Or.inr (by omega))) e77064 (Or.inr (by omega))).wn e77071 (by decide)) (((jw_ne e77071 (Or.inr (by decide))).trans ((jw_ne e77064 (Or.inl (by decide))).trans ((jw_ne e77062 (Or.inl (by decide))).trans ((jw_ne e77060 (Or.inl (by decide))).trans ((jw_ne e77058 (Or.inl (by decide))).trans ((jw_ne e77057 (Or.inl (by decide))).trans ((jw_ne e77056 (Or.inl (by decide))).trans ev77051)))))))) (by omega) (show (if bC h (w1 + 1) ≠ 40 ∨ 12 ≤ a2 then rF (w1 + 1) else chL (bC h) (RC h w4 K (q - 1) a3 (a2 + 1)) 4 (w1 + 2) 0 0 1) = rF v77045 from s177003.trans ((chL_x (show 0 < (4 - x5).toNat by omega) ev77011 (by omega) ((bC_at (p := v77011) k77071 (fun _ => rfl) ew0 (((jw_ne e77071 (Or.inl (by decide))).trans ((jw_ne e77064 (Or.inl (by decide))).trans ((jw_ne e77062 (Or.inl (by decide))).trans ((jw_ne e77060 (Or.inl (by decide))).trans ((jw_ne e77058 (Or.inl (by decide))).trans ((jw_ne e77057 (Or.inl (by decide))).trans ((jw_ne e77056 (Or.inl (by decide))).trans ((kk77042.v rfl).trans ((jw_ne e77041 (Or.inl (by decide))).trans ev77024)))))))))) (by omega) (by omega)).trans (by omega)) (by rw [eQ77044]; show 0 ≤ v77045; omega) (by rw [eQ77044]; exact fun z => absurd ((bC_end (p := v77045) ew0 (by omega)).symm.trans z) (by omega)) (by rw [eQ77044]; show bC h v77045 ≠ 44 ∨ _; rw [(bC_end (p := v77045) ew0 (by omega))]; omega)).trans (by rw [eQ77044]))) (by omega) ((jw_eq e77071)) (by omega)⟩
                  · refine ev_aload_n rfl ?_
                    refine g_getp (r := 7) (c := 8) g77064 ad7 (by decide) (by decide) rf7_5 ft5_5 ?_
                    refine ev_aload_n rfl ?_
                    refine g_getv (r := 7) (v := v77045) g77064 ad7 (by decide) ft5_2 (((jw_ne e77064 (Or.inl (by decide))).trans ((jw_ne e77062 (Or.inl (by decide))).trans ((jw_ne e77060 (Or.inl (by decide))).trans ((jw_ne e77058 (Or.inl (by decide))).trans ((jw_ne e77057 (Or.inl (by decide))).trans ((jw_ne e77056 (Or.inl (by decide))).trans c377044))))))) ?_
                    refine g_bald g77064 ad8 rt8 (by omega) (by omega) (fun v77073 ev77073 lv77073 uv77073 => ?_)
                    refine ev_sipush ?_
                    refine g_iandB (b := 255) (by omega) (by omega) (by decide) (fun v77074 ev77074 lv77074 uv77074 => ?_)
                    have zv77074 := sgn ev77074 (by omega) (by omega)
                    refine ev_goto f68_28 ?_
                    refine ev_ret rfl (by decide) (by decide) ?_
                    show jEv _ _ _ _ _ _ _ (_, [(2, 7), (2, 1), (0, a2), (0, a3), (0, x4), (0, x5), (0, v77009)], [(0, v77074)], _, _, _)
                    refine ev_bipush ?_
                    refine ev_icmpne f78_100 (fun c77075 => ?_) (fun c77075 => ?_)
                    · refine ev_aload_n rfl ?_
                      refine ev_bipush ?_
                      refine ev_in (d := (d + 2)) (a := 0) (b := 0) (cd' := c71_0) (m := 2) (L0 := [(2, 7), (0, 41)]) (jcall_v (A := [(0, 41)]) (S' := []) (r := 7) rfl (g77064.lt ad7) (g77064.tg ad7) (Nat.le_of_ble_eq_true rfl)) (by decide) ml71 pp71 (Nat.le_of_ble_eq_true rfl) rfl (by decide) (by decide) ?_
                      refine ev_aload_n rfl ?_
                      refine g_getv (r := 7) (v := (-1)) g77064 ad7 (by decide) ft5_1 (((jw_ne e77064 (Or.inl (by decide))).trans ((jw_ne e77062 (Or.inl (by decide))).trans ((jw_ne e77060 (Or.inl (by decide))).trans ((jw_ne e77058 (Or.inl (by decide))).trans ((jw_ne e77057 (Or.inl (by decide))).trans ((jw_ne e77056 (Or.inl (by decide))).trans c277044))))))) ?_
                      refine ev_iflt f71_8 (fun c77076 => ?_) (fun c77076 => absurd c77076 (by omega))
                      refine ev_aload_n rfl ?_
                      refine ev_in (d := (d + 1)) (a := 0) (b := 0) (cd' := c68_0) (m := 1) (L0 := [(2, 7)]) (jcall_v (A := []) (S' := []) (r := 7) rfl (g77064.lt ad7) (g77064.tg ad7) (Nat.le_of_ble_eq_true rfl)) (by decide) ml68 pp68 (Nat.le_of_ble_eq_true rfl) rfl (by decide) (by decide) ?_
                      refine ev_aload_n rfl ?_
                      refine g_getv (r := 7) (v := v77045) g77064 ad7 (by decide) ft5_2 (((jw_ne e77064 (Or.inl (by decide))).trans ((jw_ne e77062 (Or.inl (by decide))).trans ((jw_ne e77060 (Or.inl (by decide))).trans ((jw_ne e77058 (Or.inl (by decide))).trans ((jw_ne e77057 (Or.inl (by decide))).trans ((jw_ne e77056 (Or.inl (by decide))).trans c377044))))))) ?_
                      refine ev_aload_n rfl ?_
                      refine g_getv (r := 7) (v := w0) g77064 ad7 (by decide) ft5_0 (((jw_ne e77064 (Or.inl (by decide))).trans ((jw_ne e77062 (Or.inl (by decide))).trans ((jw_ne e77060 (Or.inl (by decide))).trans ((jw_ne e77058 (Or.inl (by decide))).trans ((jw_ne e77057 (Or.inl (by decide))).trans ((jw_ne e77056 (Or.inl (by decide))).trans ((kk77042.v (by decide)).trans ((jw_ne e77041 (Or.inr (by decide))).trans ((kk77008.v (by decide)).trans ((k1.v (by decide)).trans ew0))))))))))) ?_
                      refine ev_icmpge f68_27 (fun c77077 => absurd c77077 (by omega)) (fun c77077 => ?_)
                      refine ev_aload_n rfl ?_
                      refine g_getp (r := 7) (c := 8) g77064 ad7 (by decide) (by decide) rf7_5 ft5_5 ?_
                      refine ev_aload_n rfl ?_
                      refine g_getv (r := 7) (v := v77045) g77064 ad7 (by decide) ft5_2 (((jw_ne e77064 (Or.inl (by decide))).trans ((jw_ne e77062 (Or.inl (by decide))).trans ((jw_ne e77060 (Or.inl (by decide))).trans ((jw_ne e77058 (Or.inl (by decide))).trans ((jw_ne e77057 (Or.inl (by decide))).trans ((jw_ne e77056 (Or.inl (by decide))).trans c377044))))))) ?_
                      refine g_baldv (v := v77073) g77064 ad8 (by omega) (by omega) (ev77073) ?_
                      refine ev_sipush ?_
                      refine g_iandB (b := 255) (by omega) (by omega) (by decide) (fun v77078 ev77078 lv77078 uv77078 => ?_)
                      obtain rfl : v77074 = v77078 := by omega
                      refine ev_goto f68_28 ?_
                      refine ev_ret rfl (by decide) (by decide) ?_
                      show jEv _ _ _ _ _ _ _ (_, [(2, 7), (0, 41)], [(0, v77074)], _, _, _)
                      refine ev_iload_n rfl ?_
                      refine ev_icmpne f71_29 (fun c77079 => ?_) (fun c77079 => ?_)
                      · refine ev_aload_n rfl ?_
                        refine ev_in (d := (d + 1)) (a := 0) (b := 0) (cd' := c70_0) (m := 1) (L0 := [(2, 7)]) (jcall_v (A := []) (S' := []) (r := 7) rfl (g77064.lt ad7) (g77064.tg ad7) (Nat.le_of_ble_eq_true rfl)) (by decide) ml70 pp70 (Nat.le_of_ble_eq_true rfl) rfl (by decide) (by decide) ?_
                        refine ev_aload_n rfl ?_
                        refine g_getv (r := 7) (v := (-1)) g77064 ad7 (by decide) ft5_1 (((jw_ne e77064 (Or.inl (by decide))).trans ((jw_ne e77062 (Or.inl (by decide))).trans ((jw_ne e77060 (Or.inl (by decide))).trans ((jw_ne e77058 (Or.inl (by decide))).trans ((jw_ne e77057 (Or.inl (by decide))).trans ((jw_ne e77056 (Or.inl (by decide))).trans c277044))))))) ?_
                        refine ev_ifge f70_15 (fun c77080 => absurd c77080 (by omega)) (fun c77080 => ?_)
                        refine ev_aload_n rfl ?_
                        refine ev_aload_n rfl ?_
                        refine g_getv (r := 7) (v := v77045) g77064 ad7 (by decide) ft5_2 (((jw_ne e77064 (Or.inl (by decide))).trans ((jw_ne e77062 (Or.inl (by decide))).trans ((jw_ne e77060 (Or.inl (by decide))).trans ((jw_ne e77058 (Or.inl (by decide))).trans ((jw_ne e77057 (Or.inl (by decide))).trans ((jw_ne e77056 (Or.inl (by decide))).trans c377044))))))) ?_
                        refine g_putf (r := 7) g77064 ad7 (by decide) ft5_1 (by decide) (fun e => absurd e nz5_1) rf7_1 (by decide) (by omega) (by omega) (fun h77081 e77081 g77081 => ?_)
                        have k77081 := k77064.wr e77081 rfl
                        refine ev_ret rfl (by decide) (by decide) ?_
                        show jEv _ _ _ _ _ _ _ (_, [(2, 7), (0, 41)], [], _, _, _)
                        refine ev_ret rfl (by decide) (by decide) ?_
                        show jEv _ _ _ _ _ _ _ (_, [(2, 7), (2, 1), (0, a2), (0, a3), (0, x4), (0, x5), (0, v77009)], [], _, _, _)
                        refine ev_aload_n rfl ?_
                        refine g_getv (r := 7) (v := v77045) g77081 ad7 (by decide) ft5_1 ((jw_eq e77081)) ?_
                        refine ev_iflt f78_117 (fun c77082 => absurd c77082 (by omega)) (fun c77082 => ?_)
                        refine ev_iconst ?_
                        refine ev_goto f78_119 ?_
                        exact ev_ret rfl (by decide) (by decide) ⟨_, rfl, g77081, k77081, by omega, by omega, Rp.bad ((FrN.wr (i := x4) (FrN.wr (i := x4) (FrN.wr (i := x4) ((((FrN.tr ((H1.kp kk77008 (fun _ => rfl) (fun _ => rfl) (fun _ => rfl)).wn e77041 (by decide)) X77044.1 (by omega)).wn e77056 (by decide)).wn e77057 (by decide)).wn e77058 (by decide)) e77060 (Or.inr (by omega))) e77062 (Or.inr (by omega))) e77064 (Or.inr (by omega))).wn e77081 (by decide)) (((jw_ne e77081 (Or.inr (by decide))).trans ((jw_ne e77064 (Or.inl (by decide))).trans ((jw_ne e77062 (Or.inl (by decide))).trans ((jw_ne e77060 (Or.inl (by decide))).trans ((jw_ne e77058 (Or.inl (by decide))).trans ((jw_ne e77057 (Or.inl (by decide))).trans ((jw_ne e77056 (Or.inl (by decide))).trans ev77051)))))))) (by omega) (show (if bC h (w1 + 1) ≠ 40 ∨ 12 ≤ a2 then rF (w1 + 1) else chL (bC h) (RC h w4 K (q - 1) a3 (a2 + 1)) 4 (w1 + 2) 0 0 1) = rF v77045 from s177003.trans ((chL_x (show 0 < (4 - x5).toNat by omega) ev77011 (by omega) ((bC_at (p := v77011) k77081 (fun _ => rfl) ew0 (((jw_ne e77081 (Or.inl (by decide))).trans ((jw_ne e77064 (Or.inl (by decide))).trans ((jw_ne e77062 (Or.inl (by decide))).trans ((jw_ne e77060 (Or.inl (by decide))).trans ((jw_ne e77058 (Or.inl (by decide))).trans ((jw_ne e77057 (Or.inl (by decide))).trans ((jw_ne e77056 (Or.inl (by decide))).trans ((kk77042.v rfl).trans ((jw_ne e77041 (Or.inl (by decide))).trans ev77024)))))))))) (by omega) (by omega)).trans (by omega)) (by rw [eQ77044]; show 0 ≤ v77045; omega) (by rw [eQ77044]; exact fun z => absurd ((bC_at (p := v77045) k77081 (fun _ => rfl) ew0 (((jw_ne e77081 (Or.inl (by decide))).trans ev77073)) (by omega) (by omega)).symm.trans z) (by omega)) (by rw [eQ77044]; show bC h v77045 ≠ 44 ∨ _; rw [(bC_at (p := v77045) k77081 (fun _ => rfl) ew0 (((jw_ne e77081 (Or.inl (by decide))).trans ev77073)) (by omega) (by omega))]; omega)).trans (by rw [eQ77044]))) (by omega) ((jw_eq e77081)) (by omega)⟩
                      · refine ev_aload_n rfl ?_
                        refine ev_dup (by decide) ?_
                        refine g_getv (r := 7) (v := v77045) g77064 ad7 (by decide) ft5_2 (((jw_ne e77064 (Or.inl (by decide))).trans ((jw_ne e77062 (Or.inl (by decide))).trans ((jw_ne e77060 (Or.inl (by decide))).trans ((jw_ne e77058 (Or.inl (by decide))).trans ((jw_ne e77057 (Or.inl (by decide))).trans ((jw_ne e77056 (Or.inl (by decide))).trans c377044))))))) ?_
                        refine ev_iconst ?_
                        refine ev_iadd (r := (v77045 + 1)) (by unfold w32; omega) ?_
                        refine g_putf (r := 7) g77064 ad7 (by decide) ft5_2 (by decide) (fun e => absurd e nz5_2) rf7_2 (by decide) (by omega) (by omega) (fun h77083 e77083 g77083 => ?_)
                        have k77083 := k77064.wr e77083 rfl
                        refine ev_goto f71_33 ?_
                        refine ev_ret rfl (by decide) (by decide) ?_
                        show jEv _ _ _ _ _ _ _ (_, [(2, 7), (2, 1), (0, a2), (0, a3), (0, x4), (0, x5), (0, v77009)], [], _, _, _)
                        refine ev_aload_n rfl ?_
                        refine g_getv (r := 7) (v := (-1)) g77083 ad7 (by decide) ft5_1 (((jw_ne e77083 (Or.inr (by decide))).trans ((jw_ne e77064 (Or.inl (by decide))).trans ((jw_ne e77062 (Or.inl (by decide))).trans ((jw_ne e77060 (Or.inl (by decide))).trans ((jw_ne e77058 (Or.inl (by decide))).trans ((jw_ne e77057 (Or.inl (by decide))).trans ((jw_ne e77056 (Or.inl (by decide))).trans c277044)))))))) ?_
                        refine ev_iflt f78_117 (fun c77084 => ?_) (fun c77084 => absurd c77084 (by omega))
                        refine ev_iload rfl ?_
                        exact ev_ret rfl (by decide) (by decide) ⟨_, rfl, g77083, k77083, by omega, by omega, Rp.good ((FrN.wr (i := x4) (FrN.wr (i := x4) (FrN.wr (i := x4) ((((FrN.tr ((H1.kp kk77008 (fun _ => rfl) (fun _ => rfl) (fun _ => rfl)).wn e77041 (by decide)) X77044.1 (by omega)).wn e77056 (by decide)).wn e77057 (by decide)).wn e77058 (by decide)) e77060 (Or.inr (by omega))) e77062 (Or.inr (by omega))) e77064 (Or.inr (by omega))).wn e77083 (by decide)) (((jw_ne e77083 (Or.inr (by decide))).trans ((jw_ne e77064 (Or.inl (by decide))).trans ((jw_ne e77062 (Or.inl (by decide))).trans ((jw_ne e77060 (Or.inl (by decide))).trans ((jw_ne e77058 (Or.inl (by decide))).trans ((jw_ne e77057 (Or.inl (by decide))).trans ((jw_ne e77056 (Or.inl (by decide))).trans ev77051)))))))) (by omega) (show (if bC h (w1 + 1) ≠ 40 ∨ 12 ≤ a2 then rF (w1 + 1) else chL (bC h) (RC h w4 K (q - 1) a3 (a2 + 1)) 4 (w1 + 2) 0 0 1) = (v77045 + 1, jor v77005 v77046, mxD v77006 v77047, v77004 + v77048) from s177003.trans ((chL_e (show 0 < (4 - x5).toNat by omega) ev77011 (by omega) ((bC_at (p := v77011) k77083 (fun _ => rfl) ew0 (((jw_ne e77083 (Or.inl (by decide))).trans ((jw_ne e77064 (Or.inl (by decide))).trans ((jw_ne e77062 (Or.inl (by decide))).trans ((jw_ne e77060 (Or.inl (by decide))).trans ((jw_ne e77058 (Or.inl (by decide))).trans ((jw_ne e77057 (Or.inl (by decide))).trans ((jw_ne e77056 (Or.inl (by decide))).trans ((kk77042.v rfl).trans ((jw_ne e77041 (Or.inl (by decide))).trans ev77024)))))))))) (by omega) (by omega)).trans (by omega)) (by rw [eQ77044]; show 0 ≤ v77045; omega) (by rw [eQ77044]; exact (bC_at (p := v77045) k77083 (fun _ => rfl) ew0 (((jw_ne e77083 (Or.inl (by decide))).trans ev77073)) (by omega) (by omega)).trans (by omega))).trans (by rw [eQ77044]))) (by omega) (((jw_ne e77083 (Or.inr (by decide))).trans ((jw_ne e77064 (Or.inl (by decide))).trans ((jw_ne e77062 (Or.inl (by decide))).trans ((jw_ne e77060 (Or.inl (by decide))).trans ((jw_ne e77058 (Or.inl (by decide))).trans ((jw_ne e77057 (Or.inl (by decide))).trans ((jw_ne e77056 (Or.inl (by decide))).trans c277044)))))))) ((jw_eq e77083)) (by omega) (by omega) (by omega) (by omega) (((jw_ne e77083 (Or.inl (by decide))).trans ((jw_ne e77064 (Or.inl (by decide))).trans ((jw_ne e77062 (Or.inl (by decide))).trans (jw_eq e77060))))) (ev77059).symm (((jw_ne e77083 (Or.inl (by decide))).trans ((jw_ne e77064 (Or.inl (by decide))).trans (jw_eq e77062)))) (by unfold mxD; split <;> omega) (((jw_ne e77083 (Or.inl (by decide))).trans (jw_eq e77064))) (mn_of s277003 ev77049 (by omega) (by omega) (by omega))⟩
                    · refine ev_iload rfl ?_
                      refine ev_iconst ?_
                      refine ev_icmpne f78_88 (fun c77085 => ?_) (fun c77085 => ?_)
                      · refine ev_aload_n rfl ?_
                        refine ev_bipush ?_
                        refine ev_in (d := (d + 2)) (a := 0) (b := 0) (cd' := c71_0) (m := 2) (L0 := [(2, 7), (0, 44)]) (jcall_v (A := [(0, 44)]) (S' := []) (r := 7) rfl (g77064.lt ad7) (g77064.tg ad7) (Nat.le_of_ble_eq_true rfl)) (by decide) ml71 pp71 (Nat.le_of_ble_eq_true rfl) rfl (by decide) (by decide) ?_
                        refine ev_aload_n rfl ?_
                        refine g_getv (r := 7) (v := (-1)) g77064 ad7 (by decide) ft5_1 (((jw_ne e77064 (Or.inl (by decide))).trans ((jw_ne e77062 (Or.inl (by decide))).trans ((jw_ne e77060 (Or.inl (by decide))).trans ((jw_ne e77058 (Or.inl (by decide))).trans ((jw_ne e77057 (Or.inl (by decide))).trans ((jw_ne e77056 (Or.inl (by decide))).trans c277044))))))) ?_
                        refine ev_iflt f71_8 (fun c77086 => ?_) (fun c77086 => absurd c77086 (by omega))
                        refine ev_aload_n rfl ?_
                        refine ev_in (d := (d + 1)) (a := 0) (b := 0) (cd' := c68_0) (m := 1) (L0 := [(2, 7)]) (jcall_v (A := []) (S' := []) (r := 7) rfl (g77064.lt ad7) (g77064.tg ad7) (Nat.le_of_ble_eq_true rfl)) (by decide) ml68 pp68 (Nat.le_of_ble_eq_true rfl) rfl (by decide) (by decide) ?_
                        refine ev_aload_n rfl ?_
                        refine g_getv (r := 7) (v := v77045) g77064 ad7 (by decide) ft5_2 (((jw_ne e77064 (Or.inl (by decide))).trans ((jw_ne e77062 (Or.inl (by decide))).trans ((jw_ne e77060 (Or.inl (by decide))).trans ((jw_ne e77058 (Or.inl (by decide))).trans ((jw_ne e77057 (Or.inl (by decide))).trans ((jw_ne e77056 (Or.inl (by decide))).trans c377044))))))) ?_
                        refine ev_aload_n rfl ?_
                        refine g_getv (r := 7) (v := w0) g77064 ad7 (by decide) ft5_0 (((jw_ne e77064 (Or.inl (by decide))).trans ((jw_ne e77062 (Or.inl (by decide))).trans ((jw_ne e77060 (Or.inl (by decide))).trans ((jw_ne e77058 (Or.inl (by decide))).trans ((jw_ne e77057 (Or.inl (by decide))).trans ((jw_ne e77056 (Or.inl (by decide))).trans ((kk77042.v (by decide)).trans ((jw_ne e77041 (Or.inr (by decide))).trans ((kk77008.v (by decide)).trans ((k1.v (by decide)).trans ew0))))))))))) ?_
                        refine ev_icmpge f68_27 (fun c77087 => absurd c77087 (by omega)) (fun c77087 => ?_)
                        refine ev_aload_n rfl ?_
                        refine g_getp (r := 7) (c := 8) g77064 ad7 (by decide) (by decide) rf7_5 ft5_5 ?_
                        refine ev_aload_n rfl ?_
                        refine g_getv (r := 7) (v := v77045) g77064 ad7 (by decide) ft5_2 (((jw_ne e77064 (Or.inl (by decide))).trans ((jw_ne e77062 (Or.inl (by decide))).trans ((jw_ne e77060 (Or.inl (by decide))).trans ((jw_ne e77058 (Or.inl (by decide))).trans ((jw_ne e77057 (Or.inl (by decide))).trans ((jw_ne e77056 (Or.inl (by decide))).trans c377044))))))) ?_
                        refine g_baldv (v := v77073) g77064 ad8 (by omega) (by omega) (ev77073) ?_
                        refine ev_sipush ?_
                        refine g_iandB (b := 255) (by omega) (by omega) (by decide) (fun v77088 ev77088 lv77088 uv77088 => ?_)
                        obtain rfl : v77074 = v77088 := by omega
                        refine ev_goto f68_28 ?_
                        refine ev_ret rfl (by decide) (by decide) ?_
                        show jEv _ _ _ _ _ _ _ (_, [(2, 7), (0, 44)], [(0, v77074)], _, _, _)
                        refine ev_iload_n rfl ?_
                        refine ev_icmpne f71_29 (fun c77089 => absurd c77089 (by omega)) (fun c77089 => ?_)
                        refine ev_aload_n rfl ?_
                        refine ev_dup (by decide) ?_
                        refine g_getv (r := 7) (v := v77045) g77064 ad7 (by decide) ft5_2 (((jw_ne e77064 (Or.inl (by decide))).trans ((jw_ne e77062 (Or.inl (by decide))).trans ((jw_ne e77060 (Or.inl (by decide))).trans ((jw_ne e77058 (Or.inl (by decide))).trans ((jw_ne e77057 (Or.inl (by decide))).trans ((jw_ne e77056 (Or.inl (by decide))).trans c377044))))))) ?_
                        refine ev_iconst ?_
                        refine ev_iadd (r := (v77045 + 1)) (by unfold w32; omega) ?_
                        refine g_putf (r := 7) g77064 ad7 (by decide) ft5_2 (by decide) (fun e => absurd e nz5_2) rf7_2 (by decide) (by omega) (by omega) (fun h77090 e77090 g77090 => ?_)
                        have k77090 := k77064.wr e77090 rfl
                        refine ev_goto f71_33 ?_
                        refine ev_ret rfl (by decide) (by decide) ?_
                        show jEv _ _ _ _ _ _ _ (_, [(2, 7), (2, 1), (0, a2), (0, a3), (0, x4), (0, x5), (0, v77009)], [], _, _, _)
                        refine ev_iinc (w := (x5 + 1)) (L' := [(2, 7), (2, 1), (0, a2), (0, a3), (0, x4), (0, (x5 + 1)), (0, v77009)]) rfl (by unfold w32; omega) rfl ?_
                        refine ev_goto f78_25 ?_
                        exact ih _ _ _ _ _ _ _ g77090 k77090 (by omega) (by omega) (by omega) (by omega) (by omega) (by omega) (by omega) (by omega) (by omega) (by omega) (by omega) (by omega) (((jw_ne e77090 (Or.inr (by decide))).trans ((jw_ne e77064 (Or.inl (by decide))).trans ((jw_ne e77062 (Or.inl (by decide))).trans ((jw_ne e77060 (Or.inl (by decide))).trans ((jw_ne e77058 (Or.inl (by decide))).trans ((jw_ne e77057 (Or.inl (by decide))).trans ((jw_ne e77056 (Or.inl (by decide))).trans c277044)))))))) (by omega) (by omega) ((jw_eq e77090)) (by omega) (by omega) (((jw_ne e77090 (Or.inr (by decide))).trans ((jw_ne e77064 (Or.inl (by decide))).trans ((jw_ne e77062 (Or.inl (by decide))).trans ((jw_ne e77060 (Or.inl (by decide))).trans ((jw_ne e77058 (Or.inl (by decide))).trans ((jw_ne e77057 (Or.inl (by decide))).trans ((jw_ne e77056 (Or.inl (by decide))).trans ev77051)))))))) (by omega) (by omega) (ci_ok (sz := v77004 + v77048) (show (if bC h (w1 + 1) ≠ 40 ∨ 12 ≤ a2 then rF (w1 + 1) else chL (bC h) (RC h w4 K (q - 1) a3 (a2 + 1)) 4 (w1 + 2) 0 0 1) = chL (bC h) (RC h w4 K (q - 1) a3 (a2 + 1)) ((4 - x5).toNat - 1) (v77045 + 1) (jor v77005 v77046) (mxD v77006 v77047) (v77004 + v77048) from s177003.trans ((chL_k (show 1 < (4 - x5).toNat by omega) ev77011 (by omega) ((bC_at (p := v77011) k77090 (fun _ => rfl) ew0 (((jw_ne e77090 (Or.inl (by decide))).trans ((jw_ne e77064 (Or.inl (by decide))).trans ((jw_ne e77062 (Or.inl (by decide))).trans ((jw_ne e77060 (Or.inl (by decide))).trans ((jw_ne e77058 (Or.inl (by decide))).trans ((jw_ne e77057 (Or.inl (by decide))).trans ((jw_ne e77056 (Or.inl (by decide))).trans ((kk77042.v rfl).trans ((jw_ne e77041 (Or.inl (by decide))).trans ev77024)))))))))) (by omega) (by omega)).trans (by omega)) (by rw [eQ77044]; show 0 ≤ v77045; omega) (by rw [eQ77044]; exact (bC_at (p := v77045) k77090 (fun _ => rfl) ew0 (((jw_ne e77090 (Or.inl (by decide))).trans ev77073)) (by omega) (by omega)).trans (by omega))).trans (by rw [eQ77044]))) (by omega) (by omega) (by omega) (by omega) (((jw_ne e77090 (Or.inl (by decide))).trans ((jw_ne e77064 (Or.inl (by decide))).trans ((jw_ne e77062 (Or.inl (by decide))).trans (jw_eq e77060))))) (ev77059).symm (((jw_ne e77090 (Or.inl (by decide))).trans ((jw_ne e77064 (Or.inl (by decide))).trans (jw_eq e77062)))) (by unfold mxD; split <;> omega) (((jw_ne e77090 (Or.inl (by decide))).trans (jw_eq e77064))) (mn_of s277003 ev77049 (by omega) (by omega) (by omega)) (by omega) (by omega) (by omega)) ((FrN.wr (i := x4) (FrN.wr (i := x4) (FrN.wr (i := x4) ((((FrN.tr ((H1.kp kk77008 (fun _ => rfl) (fun _ => rfl) (fun _ => rfl)).wn e77041 (by decide)) X77044.1 (by omega)).wn e77056 (by decide)).wn e77057 (by decide)).wn e77058 (by decide)) e77060 (Or.inr (by omega))) e77062 (Or.inr (by omega))) e77064 (Or.inr (by omega))).wn e77090 (by decide)) (by omega)
                      · refine ev_goto f78_100 ?_
                        refine ev_aload_n rfl ?_
                        refine ev_bipush ?_
                        refine ev_in (d := (d + 2)) (a := 0) (b := 0) (cd' := c71_0) (m := 2) (L0 := [(2, 7), (0, 41)]) (jcall_v (A := [(0, 41)]) (S' := []) (r := 7) rfl (g77064.lt ad7) (g77064.tg ad7) (Nat.le_of_ble_eq_true rfl)) (by decide) ml71 pp71 (Nat.le_of_ble_eq_true rfl) rfl (by decide) (by decide) ?_
                        refine ev_aload_n rfl ?_
                        refine g_getv (r := 7) (v := (-1)) g77064 ad7 (by decide) ft5_1 (((jw_ne e77064 (Or.inl (by decide))).trans ((jw_ne e77062 (Or.inl (by decide))).trans ((jw_ne e77060 (Or.inl (by decide))).trans ((jw_ne e77058 (Or.inl (by decide))).trans ((jw_ne e77057 (Or.inl (by decide))).trans ((jw_ne e77056 (Or.inl (by decide))).trans c277044))))))) ?_
                        refine ev_iflt f71_8 (fun c77091 => ?_) (fun c77091 => absurd c77091 (by omega))
                        refine ev_aload_n rfl ?_
                        refine ev_in (d := (d + 1)) (a := 0) (b := 0) (cd' := c68_0) (m := 1) (L0 := [(2, 7)]) (jcall_v (A := []) (S' := []) (r := 7) rfl (g77064.lt ad7) (g77064.tg ad7) (Nat.le_of_ble_eq_true rfl)) (by decide) ml68 pp68 (Nat.le_of_ble_eq_true rfl) rfl (by decide) (by decide) ?_
                        refine ev_aload_n rfl ?_
                        refine g_getv (r := 7) (v := v77045) g77064 ad7 (by decide) ft5_2 (((jw_ne e77064 (Or.inl (by decide))).trans ((jw_ne e77062 (Or.inl (by decide))).trans ((jw_ne e77060 (Or.inl (by decide))).trans ((jw_ne e77058 (Or.inl (by decide))).trans ((jw_ne e77057 (Or.inl (by decide))).trans ((jw_ne e77056 (Or.inl (by decide))).trans c377044))))))) ?_
                        refine ev_aload_n rfl ?_
                        refine g_getv (r := 7) (v := w0) g77064 ad7 (by decide) ft5_0 (((jw_ne e77064 (Or.inl (by decide))).trans ((jw_ne e77062 (Or.inl (by decide))).trans ((jw_ne e77060 (Or.inl (by decide))).trans ((jw_ne e77058 (Or.inl (by decide))).trans ((jw_ne e77057 (Or.inl (by decide))).trans ((jw_ne e77056 (Or.inl (by decide))).trans ((kk77042.v (by decide)).trans ((jw_ne e77041 (Or.inr (by decide))).trans ((kk77008.v (by decide)).trans ((k1.v (by decide)).trans ew0))))))))))) ?_
                        refine ev_icmpge f68_27 (fun c77092 => absurd c77092 (by omega)) (fun c77092 => ?_)
                        refine ev_aload_n rfl ?_
                        refine g_getp (r := 7) (c := 8) g77064 ad7 (by decide) (by decide) rf7_5 ft5_5 ?_
                        refine ev_aload_n rfl ?_
                        refine g_getv (r := 7) (v := v77045) g77064 ad7 (by decide) ft5_2 (((jw_ne e77064 (Or.inl (by decide))).trans ((jw_ne e77062 (Or.inl (by decide))).trans ((jw_ne e77060 (Or.inl (by decide))).trans ((jw_ne e77058 (Or.inl (by decide))).trans ((jw_ne e77057 (Or.inl (by decide))).trans ((jw_ne e77056 (Or.inl (by decide))).trans c377044))))))) ?_
                        refine g_baldv (v := v77073) g77064 ad8 (by omega) (by omega) (ev77073) ?_
                        refine ev_sipush ?_
                        refine g_iandB (b := 255) (by omega) (by omega) (by decide) (fun v77093 ev77093 lv77093 uv77093 => ?_)
                        obtain rfl : v77074 = v77093 := by omega
                        refine ev_goto f68_28 ?_
                        refine ev_ret rfl (by decide) (by decide) ?_
                        show jEv _ _ _ _ _ _ _ (_, [(2, 7), (0, 41)], [(0, v77074)], _, _, _)
                        refine ev_iload_n rfl ?_
                        refine ev_icmpne f71_29 (fun c77094 => ?_) (fun c77094 => absurd c77094 (by omega))
                        refine ev_aload_n rfl ?_
                        refine ev_in (d := (d + 1)) (a := 0) (b := 0) (cd' := c70_0) (m := 1) (L0 := [(2, 7)]) (jcall_v (A := []) (S' := []) (r := 7) rfl (g77064.lt ad7) (g77064.tg ad7) (Nat.le_of_ble_eq_true rfl)) (by decide) ml70 pp70 (Nat.le_of_ble_eq_true rfl) rfl (by decide) (by decide) ?_
                        refine ev_aload_n rfl ?_
                        refine g_getv (r := 7) (v := (-1)) g77064 ad7 (by decide) ft5_1 (((jw_ne e77064 (Or.inl (by decide))).trans ((jw_ne e77062 (Or.inl (by decide))).trans ((jw_ne e77060 (Or.inl (by decide))).trans ((jw_ne e77058 (Or.inl (by decide))).trans ((jw_ne e77057 (Or.inl (by decide))).trans ((jw_ne e77056 (Or.inl (by decide))).trans c277044))))))) ?_
                        refine ev_ifge f70_15 (fun c77095 => absurd c77095 (by omega)) (fun c77095 => ?_)
                        refine ev_aload_n rfl ?_
                        refine ev_aload_n rfl ?_
                        refine g_getv (r := 7) (v := v77045) g77064 ad7 (by decide) ft5_2 (((jw_ne e77064 (Or.inl (by decide))).trans ((jw_ne e77062 (Or.inl (by decide))).trans ((jw_ne e77060 (Or.inl (by decide))).trans ((jw_ne e77058 (Or.inl (by decide))).trans ((jw_ne e77057 (Or.inl (by decide))).trans ((jw_ne e77056 (Or.inl (by decide))).trans c377044))))))) ?_
                        refine g_putf (r := 7) g77064 ad7 (by decide) ft5_1 (by decide) (fun e => absurd e nz5_1) rf7_1 (by decide) (by omega) (by omega) (fun h77096 e77096 g77096 => ?_)
                        have k77096 := k77064.wr e77096 rfl
                        refine ev_ret rfl (by decide) (by decide) ?_
                        show jEv _ _ _ _ _ _ _ (_, [(2, 7), (0, 41)], [], _, _, _)
                        refine ev_ret rfl (by decide) (by decide) ?_
                        show jEv _ _ _ _ _ _ _ (_, [(2, 7), (2, 1), (0, a2), (0, a3), (0, x4), (0, x5), (0, v77009)], [], _, _, _)
                        refine ev_aload_n rfl ?_
                        refine g_getv (r := 7) (v := v77045) g77096 ad7 (by decide) ft5_1 ((jw_eq e77096)) ?_
                        refine ev_iflt f78_117 (fun c77097 => absurd c77097 (by omega)) (fun c77097 => ?_)
                        refine ev_iconst ?_
                        refine ev_goto f78_119 ?_
                        exact ev_ret rfl (by decide) (by decide) ⟨_, rfl, g77096, k77096, by omega, by omega, Rp.bad ((FrN.wr (i := x4) (FrN.wr (i := x4) (FrN.wr (i := x4) ((((FrN.tr ((H1.kp kk77008 (fun _ => rfl) (fun _ => rfl) (fun _ => rfl)).wn e77041 (by decide)) X77044.1 (by omega)).wn e77056 (by decide)).wn e77057 (by decide)).wn e77058 (by decide)) e77060 (Or.inr (by omega))) e77062 (Or.inr (by omega))) e77064 (Or.inr (by omega))).wn e77096 (by decide)) (((jw_ne e77096 (Or.inr (by decide))).trans ((jw_ne e77064 (Or.inl (by decide))).trans ((jw_ne e77062 (Or.inl (by decide))).trans ((jw_ne e77060 (Or.inl (by decide))).trans ((jw_ne e77058 (Or.inl (by decide))).trans ((jw_ne e77057 (Or.inl (by decide))).trans ((jw_ne e77056 (Or.inl (by decide))).trans ev77051)))))))) (by omega) (show (if bC h (w1 + 1) ≠ 40 ∨ 12 ≤ a2 then rF (w1 + 1) else chL (bC h) (RC h w4 K (q - 1) a3 (a2 + 1)) 4 (w1 + 2) 0 0 1) = rF v77045 from s177003.trans ((chL_x (show 0 < (4 - x5).toNat by omega) ev77011 (by omega) ((bC_at (p := v77011) k77096 (fun _ => rfl) ew0 (((jw_ne e77096 (Or.inl (by decide))).trans ((jw_ne e77064 (Or.inl (by decide))).trans ((jw_ne e77062 (Or.inl (by decide))).trans ((jw_ne e77060 (Or.inl (by decide))).trans ((jw_ne e77058 (Or.inl (by decide))).trans ((jw_ne e77057 (Or.inl (by decide))).trans ((jw_ne e77056 (Or.inl (by decide))).trans ((kk77042.v rfl).trans ((jw_ne e77041 (Or.inl (by decide))).trans ev77024)))))))))) (by omega) (by omega)).trans (by omega)) (by rw [eQ77044]; show 0 ≤ v77045; omega) (by rw [eQ77044]; exact fun z => absurd ((bC_at (p := v77045) k77096 (fun _ => rfl) ew0 (((jw_ne e77096 (Or.inl (by decide))).trans ev77073)) (by omega) (by omega)).symm.trans z) (by omega)) (by rw [eQ77044]; show bC h v77045 ≠ 44 ∨ _; rw [(bC_at (p := v77045) k77096 (fun _ => rfl) ew0 (((jw_ne e77096 (Or.inl (by decide))).trans ev77073)) (by omega) (by omega))]; omega)).trans (by rw [eQ77044]))) (by omega) ((jw_eq e77096)) (by omega)⟩
                · refine ev_iload_n rfl ?_
                  refine ev_goto f381_10 ?_
                  refine ev_ret rfl (by decide) (by decide) ?_
                  show jEv _ _ _ _ _ _ _ (_, [(2, 7), (0, x4), (0, x5), (0, v77009), (0, v77043)], [(0, 1000), (0, x4), (2, 17)], _, _, _)
                  refine g_iast g77062 ad17 rt17 (fun _ => rfl) (by omega) (by omega) (by omega) (by omega) (fun h77098 e77098 g77098 => ?_)
                  have k77098 := k77062.wr e77098 rfl
                  refine ev_ret rfl (by decide) (by decide) ?_
                  show jEv _ _ _ _ _ _ _ (_, [(2, 7), (2, 1), (0, a2), (0, a3), (0, x4), (0, x5), (0, v77009)], [], _, _, _)
                  refine ev_aload_n rfl ?_
                  refine ev_in (d := (d + 2)) (a := 0) (b := 0) (cd' := c68_0) (m := 1) (L0 := [(2, 7)]) (jcall_v (A := []) (S' := []) (r := 7) rfl (g77098.lt ad7) (g77098.tg ad7) (Nat.le_of_ble_eq_true rfl)) (by decide) ml68 pp68 (Nat.le_of_ble_eq_true rfl) rfl (by decide) (by decide) ?_
                  refine ev_aload_n rfl ?_
                  refine g_getv (r := 7) (v := v77045) g77098 ad7 (by decide) ft5_2 (((jw_ne e77098 (Or.inl (by decide))).trans ((jw_ne e77062 (Or.inl (by decide))).trans ((jw_ne e77060 (Or.inl (by decide))).trans ((jw_ne e77058 (Or.inl (by decide))).trans ((jw_ne e77057 (Or.inl (by decide))).trans ((jw_ne e77056 (Or.inl (by decide))).trans c377044))))))) ?_
                  refine ev_aload_n rfl ?_
                  refine g_getv (r := 7) (v := w0) g77098 ad7 (by decide) ft5_0 (((jw_ne e77098 (Or.inl (by decide))).trans ((jw_ne e77062 (Or.inl (by decide))).trans ((jw_ne e77060 (Or.inl (by decide))).trans ((jw_ne e77058 (Or.inl (by decide))).trans ((jw_ne e77057 (Or.inl (by decide))).trans ((jw_ne e77056 (Or.inl (by decide))).trans ((kk77042.v (by decide)).trans ((jw_ne e77041 (Or.inr (by decide))).trans ((kk77008.v (by decide)).trans ((k1.v (by decide)).trans ew0))))))))))) ?_
                  refine ev_icmpge f68_27 (fun c77099 => ?_) (fun c77099 => ?_)
                  · refine ev_iconst ?_
                    refine ev_ret rfl (by decide) (by decide) ?_
                    show jEv _ _ _ _ _ _ _ (_, [(2, 7), (2, 1), (0, a2), (0, a3), (0, x4), (0, x5), (0, v77009)], [(0, (-1))], _, _, _)
                    refine ev_bipush ?_
                    refine ev_icmpne f78_100 (fun c77100 => ?_) (fun c77100 => absurd c77100 (by omega))
                    refine ev_aload_n rfl ?_
                    refine ev_bipush ?_
                    refine ev_in (d := (d + 2)) (a := 0) (b := 0) (cd' := c71_0) (m := 2) (L0 := [(2, 7), (0, 41)]) (jcall_v (A := [(0, 41)]) (S' := []) (r := 7) rfl (g77098.lt ad7) (g77098.tg ad7) (Nat.le_of_ble_eq_true rfl)) (by decide) ml71 pp71 (Nat.le_of_ble_eq_true rfl) rfl (by decide) (by decide) ?_
                    refine ev_aload_n rfl ?_
                    refine g_getv (r := 7) (v := (-1)) g77098 ad7 (by decide) ft5_1 (((jw_ne e77098 (Or.inl (by decide))).trans ((jw_ne e77062 (Or.inl (by decide))).trans ((jw_ne e77060 (Or.inl (by decide))).trans ((jw_ne e77058 (Or.inl (by decide))).trans ((jw_ne e77057 (Or.inl (by decide))).trans ((jw_ne e77056 (Or.inl (by decide))).trans c277044))))))) ?_
                    refine ev_iflt f71_8 (fun c77101 => ?_) (fun c77101 => absurd c77101 (by omega))
                    refine ev_aload_n rfl ?_
                    refine ev_in (d := (d + 1)) (a := 0) (b := 0) (cd' := c68_0) (m := 1) (L0 := [(2, 7)]) (jcall_v (A := []) (S' := []) (r := 7) rfl (g77098.lt ad7) (g77098.tg ad7) (Nat.le_of_ble_eq_true rfl)) (by decide) ml68 pp68 (Nat.le_of_ble_eq_true rfl) rfl (by decide) (by decide) ?_
                    refine ev_aload_n rfl ?_
                    refine g_getv (r := 7) (v := v77045) g77098 ad7 (by decide) ft5_2 (((jw_ne e77098 (Or.inl (by decide))).trans ((jw_ne e77062 (Or.inl (by decide))).trans ((jw_ne e77060 (Or.inl (by decide))).trans ((jw_ne e77058 (Or.inl (by decide))).trans ((jw_ne e77057 (Or.inl (by decide))).trans ((jw_ne e77056 (Or.inl (by decide))).trans c377044))))))) ?_
                    refine ev_aload_n rfl ?_
                    refine g_getv (r := 7) (v := w0) g77098 ad7 (by decide) ft5_0 (((jw_ne e77098 (Or.inl (by decide))).trans ((jw_ne e77062 (Or.inl (by decide))).trans ((jw_ne e77060 (Or.inl (by decide))).trans ((jw_ne e77058 (Or.inl (by decide))).trans ((jw_ne e77057 (Or.inl (by decide))).trans ((jw_ne e77056 (Or.inl (by decide))).trans ((kk77042.v (by decide)).trans ((jw_ne e77041 (Or.inr (by decide))).trans ((kk77008.v (by decide)).trans ((k1.v (by decide)).trans ew0))))))))))) ?_
                    refine ev_icmpge f68_27 (fun c77102 => ?_) (fun c77102 => absurd c77102 (by omega))
                    refine ev_iconst ?_
                    refine ev_ret rfl (by decide) (by decide) ?_
                    show jEv _ _ _ _ _ _ _ (_, [(2, 7), (0, 41)], [(0, (-1))], _, _, _)
                    refine ev_iload_n rfl ?_
                    refine ev_icmpne f71_29 (fun c77103 => ?_) (fun c77103 => absurd c77103 (by omega))
                    refine ev_aload_n rfl ?_
                    refine ev_in (d := (d + 1)) (a := 0) (b := 0) (cd' := c70_0) (m := 1) (L0 := [(2, 7)]) (jcall_v (A := []) (S' := []) (r := 7) rfl (g77098.lt ad7) (g77098.tg ad7) (Nat.le_of_ble_eq_true rfl)) (by decide) ml70 pp70 (Nat.le_of_ble_eq_true rfl) rfl (by decide) (by decide) ?_
                    refine ev_aload_n rfl ?_
                    refine g_getv (r := 7) (v := (-1)) g77098 ad7 (by decide) ft5_1 (((jw_ne e77098 (Or.inl (by decide))).trans ((jw_ne e77062 (Or.inl (by decide))).trans ((jw_ne e77060 (Or.inl (by decide))).trans ((jw_ne e77058 (Or.inl (by decide))).trans ((jw_ne e77057 (Or.inl (by decide))).trans ((jw_ne e77056 (Or.inl (by decide))).trans c277044))))))) ?_
                    refine ev_ifge f70_15 (fun c77104 => absurd c77104 (by omega)) (fun c77104 => ?_)
                    refine ev_aload_n rfl ?_
                    refine ev_aload_n rfl ?_
                    refine g_getv (r := 7) (v := v77045) g77098 ad7 (by decide) ft5_2 (((jw_ne e77098 (Or.inl (by decide))).trans ((jw_ne e77062 (Or.inl (by decide))).trans ((jw_ne e77060 (Or.inl (by decide))).trans ((jw_ne e77058 (Or.inl (by decide))).trans ((jw_ne e77057 (Or.inl (by decide))).trans ((jw_ne e77056 (Or.inl (by decide))).trans c377044))))))) ?_
                    refine g_putf (r := 7) g77098 ad7 (by decide) ft5_1 (by decide) (fun e => absurd e nz5_1) rf7_1 (by decide) (by omega) (by omega) (fun h77105 e77105 g77105 => ?_)
                    have k77105 := k77098.wr e77105 rfl
                    refine ev_ret rfl (by decide) (by decide) ?_
                    show jEv _ _ _ _ _ _ _ (_, [(2, 7), (0, 41)], [], _, _, _)
                    refine ev_ret rfl (by decide) (by decide) ?_
                    show jEv _ _ _ _ _ _ _ (_, [(2, 7), (2, 1), (0, a2), (0, a3), (0, x4), (0, x5), (0, v77009)], [], _, _, _)
                    refine ev_aload_n rfl ?_
                    refine g_getv (r := 7) (v := v77045) g77105 ad7 (by decide) ft5_1 ((jw_eq e77105)) ?_
                    refine ev_iflt f78_117 (fun c77106 => absurd c77106 (by omega)) (fun c77106 => ?_)
                    refine ev_iconst ?_
                    refine ev_goto f78_119 ?_
                    exact ev_ret rfl (by decide) (by decide) ⟨_, rfl, g77105, k77105, by omega, by omega, Rp.bad ((FrN.wr (i := x4) (FrN.wr (i := x4) (FrN.wr (i := x4) ((((FrN.tr ((H1.kp kk77008 (fun _ => rfl) (fun _ => rfl) (fun _ => rfl)).wn e77041 (by decide)) X77044.1 (by omega)).wn e77056 (by decide)).wn e77057 (by decide)).wn e77058 (by decide)) e77060 (Or.inr (by omega))) e77062 (Or.inr (by omega))) e77098 (Or.inr (by omega))).wn e77105 (by decide)) (((jw_ne e77105 (Or.inr (by decide))).trans ((jw_ne e77098 (Or.inl (by decide))).trans ((jw_ne e77062 (Or.inl (by decide))).trans ((jw_ne e77060 (Or.inl (by decide))).trans ((jw_ne e77058 (Or.inl (by decide))).trans ((jw_ne e77057 (Or.inl (by decide))).trans ((jw_ne e77056 (Or.inl (by decide))).trans ev77051)))))))) (by omega) (show (if bC h (w1 + 1) ≠ 40 ∨ 12 ≤ a2 then rF (w1 + 1) else chL (bC h) (RC h w4 K (q - 1) a3 (a2 + 1)) 4 (w1 + 2) 0 0 1) = rF v77045 from s177003.trans ((chL_x (show 0 < (4 - x5).toNat by omega) ev77011 (by omega) ((bC_at (p := v77011) k77105 (fun _ => rfl) ew0 (((jw_ne e77105 (Or.inl (by decide))).trans ((jw_ne e77098 (Or.inl (by decide))).trans ((jw_ne e77062 (Or.inl (by decide))).trans ((jw_ne e77060 (Or.inl (by decide))).trans ((jw_ne e77058 (Or.inl (by decide))).trans ((jw_ne e77057 (Or.inl (by decide))).trans ((jw_ne e77056 (Or.inl (by decide))).trans ((kk77042.v rfl).trans ((jw_ne e77041 (Or.inl (by decide))).trans ev77024)))))))))) (by omega) (by omega)).trans (by omega)) (by rw [eQ77044]; show 0 ≤ v77045; omega) (by rw [eQ77044]; exact fun z => absurd ((bC_end (p := v77045) ew0 (by omega)).symm.trans z) (by omega)) (by rw [eQ77044]; show bC h v77045 ≠ 44 ∨ _; rw [(bC_end (p := v77045) ew0 (by omega))]; omega)).trans (by rw [eQ77044]))) (by omega) ((jw_eq e77105)) (by omega)⟩
                  · refine ev_aload_n rfl ?_
                    refine g_getp (r := 7) (c := 8) g77098 ad7 (by decide) (by decide) rf7_5 ft5_5 ?_
                    refine ev_aload_n rfl ?_
                    refine g_getv (r := 7) (v := v77045) g77098 ad7 (by decide) ft5_2 (((jw_ne e77098 (Or.inl (by decide))).trans ((jw_ne e77062 (Or.inl (by decide))).trans ((jw_ne e77060 (Or.inl (by decide))).trans ((jw_ne e77058 (Or.inl (by decide))).trans ((jw_ne e77057 (Or.inl (by decide))).trans ((jw_ne e77056 (Or.inl (by decide))).trans c377044))))))) ?_
                    refine g_bald g77098 ad8 rt8 (by omega) (by omega) (fun v77107 ev77107 lv77107 uv77107 => ?_)
                    refine ev_sipush ?_
                    refine g_iandB (b := 255) (by omega) (by omega) (by decide) (fun v77108 ev77108 lv77108 uv77108 => ?_)
                    have zv77108 := sgn ev77108 (by omega) (by omega)
                    refine ev_goto f68_28 ?_
                    refine ev_ret rfl (by decide) (by decide) ?_
                    show jEv _ _ _ _ _ _ _ (_, [(2, 7), (2, 1), (0, a2), (0, a3), (0, x4), (0, x5), (0, v77009)], [(0, v77108)], _, _, _)
                    refine ev_bipush ?_
                    refine ev_icmpne f78_100 (fun c77109 => ?_) (fun c77109 => ?_)
                    · refine ev_aload_n rfl ?_
                      refine ev_bipush ?_
                      refine ev_in (d := (d + 2)) (a := 0) (b := 0) (cd' := c71_0) (m := 2) (L0 := [(2, 7), (0, 41)]) (jcall_v (A := [(0, 41)]) (S' := []) (r := 7) rfl (g77098.lt ad7) (g77098.tg ad7) (Nat.le_of_ble_eq_true rfl)) (by decide) ml71 pp71 (Nat.le_of_ble_eq_true rfl) rfl (by decide) (by decide) ?_
                      refine ev_aload_n rfl ?_
                      refine g_getv (r := 7) (v := (-1)) g77098 ad7 (by decide) ft5_1 (((jw_ne e77098 (Or.inl (by decide))).trans ((jw_ne e77062 (Or.inl (by decide))).trans ((jw_ne e77060 (Or.inl (by decide))).trans ((jw_ne e77058 (Or.inl (by decide))).trans ((jw_ne e77057 (Or.inl (by decide))).trans ((jw_ne e77056 (Or.inl (by decide))).trans c277044))))))) ?_
                      refine ev_iflt f71_8 (fun c77110 => ?_) (fun c77110 => absurd c77110 (by omega))
                      refine ev_aload_n rfl ?_
                      refine ev_in (d := (d + 1)) (a := 0) (b := 0) (cd' := c68_0) (m := 1) (L0 := [(2, 7)]) (jcall_v (A := []) (S' := []) (r := 7) rfl (g77098.lt ad7) (g77098.tg ad7) (Nat.le_of_ble_eq_true rfl)) (by decide) ml68 pp68 (Nat.le_of_ble_eq_true rfl) rfl (by decide) (by decide) ?_
                      refine ev_aload_n rfl ?_
                      refine g_getv (r := 7) (v := v77045) g77098 ad7 (by decide) ft5_2 (((jw_ne e77098 (Or.inl (by decide))).trans ((jw_ne e77062 (Or.inl (by decide))).trans ((jw_ne e77060 (Or.inl (by decide))).trans ((jw_ne e77058 (Or.inl (by decide))).trans ((jw_ne e77057 (Or.inl (by decide))).trans ((jw_ne e77056 (Or.inl (by decide))).trans c377044))))))) ?_
                      refine ev_aload_n rfl ?_
                      refine g_getv (r := 7) (v := w0) g77098 ad7 (by decide) ft5_0 (((jw_ne e77098 (Or.inl (by decide))).trans ((jw_ne e77062 (Or.inl (by decide))).trans ((jw_ne e77060 (Or.inl (by decide))).trans ((jw_ne e77058 (Or.inl (by decide))).trans ((jw_ne e77057 (Or.inl (by decide))).trans ((jw_ne e77056 (Or.inl (by decide))).trans ((kk77042.v (by decide)).trans ((jw_ne e77041 (Or.inr (by decide))).trans ((kk77008.v (by decide)).trans ((k1.v (by decide)).trans ew0))))))))))) ?_
                      refine ev_icmpge f68_27 (fun c77111 => absurd c77111 (by omega)) (fun c77111 => ?_)
                      refine ev_aload_n rfl ?_
                      refine g_getp (r := 7) (c := 8) g77098 ad7 (by decide) (by decide) rf7_5 ft5_5 ?_
                      refine ev_aload_n rfl ?_
                      refine g_getv (r := 7) (v := v77045) g77098 ad7 (by decide) ft5_2 (((jw_ne e77098 (Or.inl (by decide))).trans ((jw_ne e77062 (Or.inl (by decide))).trans ((jw_ne e77060 (Or.inl (by decide))).trans ((jw_ne e77058 (Or.inl (by decide))).trans ((jw_ne e77057 (Or.inl (by decide))).trans ((jw_ne e77056 (Or.inl (by decide))).trans c377044))))))) ?_
                      refine g_baldv (v := v77107) g77098 ad8 (by omega) (by omega) (ev77107) ?_
                      refine ev_sipush ?_
                      refine g_iandB (b := 255) (by omega) (by omega) (by decide) (fun v77112 ev77112 lv77112 uv77112 => ?_)
                      obtain rfl : v77108 = v77112 := by omega
                      refine ev_goto f68_28 ?_
                      refine ev_ret rfl (by decide) (by decide) ?_
                      show jEv _ _ _ _ _ _ _ (_, [(2, 7), (0, 41)], [(0, v77108)], _, _, _)
                      refine ev_iload_n rfl ?_
                      refine ev_icmpne f71_29 (fun c77113 => ?_) (fun c77113 => ?_)
                      · refine ev_aload_n rfl ?_
                        refine ev_in (d := (d + 1)) (a := 0) (b := 0) (cd' := c70_0) (m := 1) (L0 := [(2, 7)]) (jcall_v (A := []) (S' := []) (r := 7) rfl (g77098.lt ad7) (g77098.tg ad7) (Nat.le_of_ble_eq_true rfl)) (by decide) ml70 pp70 (Nat.le_of_ble_eq_true rfl) rfl (by decide) (by decide) ?_
                        refine ev_aload_n rfl ?_
                        refine g_getv (r := 7) (v := (-1)) g77098 ad7 (by decide) ft5_1 (((jw_ne e77098 (Or.inl (by decide))).trans ((jw_ne e77062 (Or.inl (by decide))).trans ((jw_ne e77060 (Or.inl (by decide))).trans ((jw_ne e77058 (Or.inl (by decide))).trans ((jw_ne e77057 (Or.inl (by decide))).trans ((jw_ne e77056 (Or.inl (by decide))).trans c277044))))))) ?_
                        refine ev_ifge f70_15 (fun c77114 => absurd c77114 (by omega)) (fun c77114 => ?_)
                        refine ev_aload_n rfl ?_
                        refine ev_aload_n rfl ?_
                        refine g_getv (r := 7) (v := v77045) g77098 ad7 (by decide) ft5_2 (((jw_ne e77098 (Or.inl (by decide))).trans ((jw_ne e77062 (Or.inl (by decide))).trans ((jw_ne e77060 (Or.inl (by decide))).trans ((jw_ne e77058 (Or.inl (by decide))).trans ((jw_ne e77057 (Or.inl (by decide))).trans ((jw_ne e77056 (Or.inl (by decide))).trans c377044))))))) ?_
                        refine g_putf (r := 7) g77098 ad7 (by decide) ft5_1 (by decide) (fun e => absurd e nz5_1) rf7_1 (by decide) (by omega) (by omega) (fun h77115 e77115 g77115 => ?_)
                        have k77115 := k77098.wr e77115 rfl
                        refine ev_ret rfl (by decide) (by decide) ?_
                        show jEv _ _ _ _ _ _ _ (_, [(2, 7), (0, 41)], [], _, _, _)
                        refine ev_ret rfl (by decide) (by decide) ?_
                        show jEv _ _ _ _ _ _ _ (_, [(2, 7), (2, 1), (0, a2), (0, a3), (0, x4), (0, x5), (0, v77009)], [], _, _, _)
                        refine ev_aload_n rfl ?_
                        refine g_getv (r := 7) (v := v77045) g77115 ad7 (by decide) ft5_1 ((jw_eq e77115)) ?_
                        refine ev_iflt f78_117 (fun c77116 => absurd c77116 (by omega)) (fun c77116 => ?_)
                        refine ev_iconst ?_
                        refine ev_goto f78_119 ?_
                        exact ev_ret rfl (by decide) (by decide) ⟨_, rfl, g77115, k77115, by omega, by omega, Rp.bad ((FrN.wr (i := x4) (FrN.wr (i := x4) (FrN.wr (i := x4) ((((FrN.tr ((H1.kp kk77008 (fun _ => rfl) (fun _ => rfl) (fun _ => rfl)).wn e77041 (by decide)) X77044.1 (by omega)).wn e77056 (by decide)).wn e77057 (by decide)).wn e77058 (by decide)) e77060 (Or.inr (by omega))) e77062 (Or.inr (by omega))) e77098 (Or.inr (by omega))).wn e77115 (by decide)) (((jw_ne e77115 (Or.inr (by decide))).trans ((jw_ne e77098 (Or.inl (by decide))).trans ((jw_ne e77062 (Or.inl (by decide))).trans ((jw_ne e77060 (Or.inl (by decide))).trans ((jw_ne e77058 (Or.inl (by decide))).trans ((jw_ne e77057 (Or.inl (by decide))).trans ((jw_ne e77056 (Or.inl (by decide))).trans ev77051)))))))) (by omega) (show (if bC h (w1 + 1) ≠ 40 ∨ 12 ≤ a2 then rF (w1 + 1) else chL (bC h) (RC h w4 K (q - 1) a3 (a2 + 1)) 4 (w1 + 2) 0 0 1) = rF v77045 from s177003.trans ((chL_x (show 0 < (4 - x5).toNat by omega) ev77011 (by omega) ((bC_at (p := v77011) k77115 (fun _ => rfl) ew0 (((jw_ne e77115 (Or.inl (by decide))).trans ((jw_ne e77098 (Or.inl (by decide))).trans ((jw_ne e77062 (Or.inl (by decide))).trans ((jw_ne e77060 (Or.inl (by decide))).trans ((jw_ne e77058 (Or.inl (by decide))).trans ((jw_ne e77057 (Or.inl (by decide))).trans ((jw_ne e77056 (Or.inl (by decide))).trans ((kk77042.v rfl).trans ((jw_ne e77041 (Or.inl (by decide))).trans ev77024)))))))))) (by omega) (by omega)).trans (by omega)) (by rw [eQ77044]; show 0 ≤ v77045; omega) (by rw [eQ77044]; exact fun z => absurd ((bC_at (p := v77045) k77115 (fun _ => rfl) ew0 (((jw_ne e77115 (Or.inl (by decide))).trans ev77107)) (by omega) (by omega)).symm.trans z) (by omega)) (by rw [eQ77044]; show bC h v77045 ≠ 44 ∨ _; rw [(bC_at (p := v77045) k77115 (fun _ => rfl) ew0 (((jw_ne e77115 (Or.inl (by decide))).trans ev77107)) (by omega) (by omega))]; omega)).trans (by rw [eQ77044]))) (by omega) ((jw_eq e77115)) (by omega)⟩
                      · refine ev_aload_n rfl ?_
                        refine ev_dup (by decide) ?_
                        refine g_getv (r := 7) (v := v77045) g77098 ad7 (by decide) ft5_2 (((jw_ne e77098 (Or.inl (by decide))).trans ((jw_ne e77062 (Or.inl (by decide))).trans ((jw_ne e77060 (Or.inl (by decide))).trans ((jw_ne e77058 (Or.inl (by decide))).trans ((jw_ne e77057 (Or.inl (by decide))).trans ((jw_ne e77056 (Or.inl (by decide))).trans c377044))))))) ?_
                        refine ev_iconst ?_
                        refine ev_iadd (r := (v77045 + 1)) (by unfold w32; omega) ?_
                        refine g_putf (r := 7) g77098 ad7 (by decide) ft5_2 (by decide) (fun e => absurd e nz5_2) rf7_2 (by decide) (by omega) (by omega) (fun h77117 e77117 g77117 => ?_)
                        have k77117 := k77098.wr e77117 rfl
                        refine ev_goto f71_33 ?_
                        refine ev_ret rfl (by decide) (by decide) ?_
                        show jEv _ _ _ _ _ _ _ (_, [(2, 7), (2, 1), (0, a2), (0, a3), (0, x4), (0, x5), (0, v77009)], [], _, _, _)
                        refine ev_aload_n rfl ?_
                        refine g_getv (r := 7) (v := (-1)) g77117 ad7 (by decide) ft5_1 (((jw_ne e77117 (Or.inr (by decide))).trans ((jw_ne e77098 (Or.inl (by decide))).trans ((jw_ne e77062 (Or.inl (by decide))).trans ((jw_ne e77060 (Or.inl (by decide))).trans ((jw_ne e77058 (Or.inl (by decide))).trans ((jw_ne e77057 (Or.inl (by decide))).trans ((jw_ne e77056 (Or.inl (by decide))).trans c277044)))))))) ?_
                        refine ev_iflt f78_117 (fun c77118 => ?_) (fun c77118 => absurd c77118 (by omega))
                        refine ev_iload rfl ?_
                        exact ev_ret rfl (by decide) (by decide) ⟨_, rfl, g77117, k77117, by omega, by omega, Rp.good ((FrN.wr (i := x4) (FrN.wr (i := x4) (FrN.wr (i := x4) ((((FrN.tr ((H1.kp kk77008 (fun _ => rfl) (fun _ => rfl) (fun _ => rfl)).wn e77041 (by decide)) X77044.1 (by omega)).wn e77056 (by decide)).wn e77057 (by decide)).wn e77058 (by decide)) e77060 (Or.inr (by omega))) e77062 (Or.inr (by omega))) e77098 (Or.inr (by omega))).wn e77117 (by decide)) (((jw_ne e77117 (Or.inr (by decide))).trans ((jw_ne e77098 (Or.inl (by decide))).trans ((jw_ne e77062 (Or.inl (by decide))).trans ((jw_ne e77060 (Or.inl (by decide))).trans ((jw_ne e77058 (Or.inl (by decide))).trans ((jw_ne e77057 (Or.inl (by decide))).trans ((jw_ne e77056 (Or.inl (by decide))).trans ev77051)))))))) (by omega) (show (if bC h (w1 + 1) ≠ 40 ∨ 12 ≤ a2 then rF (w1 + 1) else chL (bC h) (RC h w4 K (q - 1) a3 (a2 + 1)) 4 (w1 + 2) 0 0 1) = (v77045 + 1, jor v77005 v77046, mxD v77006 v77047, v77004 + v77048) from s177003.trans ((chL_e (show 0 < (4 - x5).toNat by omega) ev77011 (by omega) ((bC_at (p := v77011) k77117 (fun _ => rfl) ew0 (((jw_ne e77117 (Or.inl (by decide))).trans ((jw_ne e77098 (Or.inl (by decide))).trans ((jw_ne e77062 (Or.inl (by decide))).trans ((jw_ne e77060 (Or.inl (by decide))).trans ((jw_ne e77058 (Or.inl (by decide))).trans ((jw_ne e77057 (Or.inl (by decide))).trans ((jw_ne e77056 (Or.inl (by decide))).trans ((kk77042.v rfl).trans ((jw_ne e77041 (Or.inl (by decide))).trans ev77024)))))))))) (by omega) (by omega)).trans (by omega)) (by rw [eQ77044]; show 0 ≤ v77045; omega) (by rw [eQ77044]; exact (bC_at (p := v77045) k77117 (fun _ => rfl) ew0 (((jw_ne e77117 (Or.inl (by decide))).trans ev77107)) (by omega) (by omega)).trans (by omega))).trans (by rw [eQ77044]))) (by omega) (((jw_ne e77117 (Or.inr (by decide))).trans ((jw_ne e77098 (Or.inl (by decide))).trans ((jw_ne e77062 (Or.inl (by decide))).trans ((jw_ne e77060 (Or.inl (by decide))).trans ((jw_ne e77058 (Or.inl (by decide))).trans ((jw_ne e77057 (Or.inl (by decide))).trans ((jw_ne e77056 (Or.inl (by decide))).trans c277044)))))))) ((jw_eq e77117)) (by omega) (by omega) (by omega) (by omega) (((jw_ne e77117 (Or.inl (by decide))).trans ((jw_ne e77098 (Or.inl (by decide))).trans ((jw_ne e77062 (Or.inl (by decide))).trans (jw_eq e77060))))) (ev77059).symm (((jw_ne e77117 (Or.inl (by decide))).trans ((jw_ne e77098 (Or.inl (by decide))).trans (jw_eq e77062)))) (by unfold mxD; split <;> omega) (((jw_ne e77117 (Or.inl (by decide))).trans (jw_eq e77098))) (mn_of s277003 ev77049 (by omega) (by omega) (by omega))⟩
                    · refine ev_iload rfl ?_
                      refine ev_iconst ?_
                      refine ev_icmpne f78_88 (fun c77119 => ?_) (fun c77119 => ?_)
                      · refine ev_aload_n rfl ?_
                        refine ev_bipush ?_
                        refine ev_in (d := (d + 2)) (a := 0) (b := 0) (cd' := c71_0) (m := 2) (L0 := [(2, 7), (0, 44)]) (jcall_v (A := [(0, 44)]) (S' := []) (r := 7) rfl (g77098.lt ad7) (g77098.tg ad7) (Nat.le_of_ble_eq_true rfl)) (by decide) ml71 pp71 (Nat.le_of_ble_eq_true rfl) rfl (by decide) (by decide) ?_
                        refine ev_aload_n rfl ?_
                        refine g_getv (r := 7) (v := (-1)) g77098 ad7 (by decide) ft5_1 (((jw_ne e77098 (Or.inl (by decide))).trans ((jw_ne e77062 (Or.inl (by decide))).trans ((jw_ne e77060 (Or.inl (by decide))).trans ((jw_ne e77058 (Or.inl (by decide))).trans ((jw_ne e77057 (Or.inl (by decide))).trans ((jw_ne e77056 (Or.inl (by decide))).trans c277044))))))) ?_
                        refine ev_iflt f71_8 (fun c77120 => ?_) (fun c77120 => absurd c77120 (by omega))
                        refine ev_aload_n rfl ?_
                        refine ev_in (d := (d + 1)) (a := 0) (b := 0) (cd' := c68_0) (m := 1) (L0 := [(2, 7)]) (jcall_v (A := []) (S' := []) (r := 7) rfl (g77098.lt ad7) (g77098.tg ad7) (Nat.le_of_ble_eq_true rfl)) (by decide) ml68 pp68 (Nat.le_of_ble_eq_true rfl) rfl (by decide) (by decide) ?_
                        refine ev_aload_n rfl ?_
                        refine g_getv (r := 7) (v := v77045) g77098 ad7 (by decide) ft5_2 (((jw_ne e77098 (Or.inl (by decide))).trans ((jw_ne e77062 (Or.inl (by decide))).trans ((jw_ne e77060 (Or.inl (by decide))).trans ((jw_ne e77058 (Or.inl (by decide))).trans ((jw_ne e77057 (Or.inl (by decide))).trans ((jw_ne e77056 (Or.inl (by decide))).trans c377044))))))) ?_
                        refine ev_aload_n rfl ?_
                        refine g_getv (r := 7) (v := w0) g77098 ad7 (by decide) ft5_0 (((jw_ne e77098 (Or.inl (by decide))).trans ((jw_ne e77062 (Or.inl (by decide))).trans ((jw_ne e77060 (Or.inl (by decide))).trans ((jw_ne e77058 (Or.inl (by decide))).trans ((jw_ne e77057 (Or.inl (by decide))).trans ((jw_ne e77056 (Or.inl (by decide))).trans ((kk77042.v (by decide)).trans ((jw_ne e77041 (Or.inr (by decide))).trans ((kk77008.v (by decide)).trans ((k1.v (by decide)).trans ew0))))))))))) ?_
                        refine ev_icmpge f68_27 (fun c77121 => absurd c77121 (by omega)) (fun c77121 => ?_)
                        refine ev_aload_n rfl ?_
                        refine g_getp (r := 7) (c := 8) g77098 ad7 (by decide) (by decide) rf7_5 ft5_5 ?_
                        refine ev_aload_n rfl ?_
                        refine g_getv (r := 7) (v := v77045) g77098 ad7 (by decide) ft5_2 (((jw_ne e77098 (Or.inl (by decide))).trans ((jw_ne e77062 (Or.inl (by decide))).trans ((jw_ne e77060 (Or.inl (by decide))).trans ((jw_ne e77058 (Or.inl (by decide))).trans ((jw_ne e77057 (Or.inl (by decide))).trans ((jw_ne e77056 (Or.inl (by decide))).trans c377044))))))) ?_
                        refine g_baldv (v := v77107) g77098 ad8 (by omega) (by omega) (ev77107) ?_
                        refine ev_sipush ?_
                        refine g_iandB (b := 255) (by omega) (by omega) (by decide) (fun v77122 ev77122 lv77122 uv77122 => ?_)
                        obtain rfl : v77108 = v77122 := by omega
                        refine ev_goto f68_28 ?_
                        refine ev_ret rfl (by decide) (by decide) ?_
                        show jEv _ _ _ _ _ _ _ (_, [(2, 7), (0, 44)], [(0, v77108)], _, _, _)
                        refine ev_iload_n rfl ?_
                        refine ev_icmpne f71_29 (fun c77123 => absurd c77123 (by omega)) (fun c77123 => ?_)
                        refine ev_aload_n rfl ?_
                        refine ev_dup (by decide) ?_
                        refine g_getv (r := 7) (v := v77045) g77098 ad7 (by decide) ft5_2 (((jw_ne e77098 (Or.inl (by decide))).trans ((jw_ne e77062 (Or.inl (by decide))).trans ((jw_ne e77060 (Or.inl (by decide))).trans ((jw_ne e77058 (Or.inl (by decide))).trans ((jw_ne e77057 (Or.inl (by decide))).trans ((jw_ne e77056 (Or.inl (by decide))).trans c377044))))))) ?_
                        refine ev_iconst ?_
                        refine ev_iadd (r := (v77045 + 1)) (by unfold w32; omega) ?_
                        refine g_putf (r := 7) g77098 ad7 (by decide) ft5_2 (by decide) (fun e => absurd e nz5_2) rf7_2 (by decide) (by omega) (by omega) (fun h77124 e77124 g77124 => ?_)
                        have k77124 := k77098.wr e77124 rfl
                        refine ev_goto f71_33 ?_
                        refine ev_ret rfl (by decide) (by decide) ?_
                        show jEv _ _ _ _ _ _ _ (_, [(2, 7), (2, 1), (0, a2), (0, a3), (0, x4), (0, x5), (0, v77009)], [], _, _, _)
                        refine ev_iinc (w := (x5 + 1)) (L' := [(2, 7), (2, 1), (0, a2), (0, a3), (0, x4), (0, (x5 + 1)), (0, v77009)]) rfl (by unfold w32; omega) rfl ?_
                        refine ev_goto f78_25 ?_
                        exact ih _ _ _ _ _ _ _ g77124 k77124 (by omega) (by omega) (by omega) (by omega) (by omega) (by omega) (by omega) (by omega) (by omega) (by omega) (by omega) (by omega) (((jw_ne e77124 (Or.inr (by decide))).trans ((jw_ne e77098 (Or.inl (by decide))).trans ((jw_ne e77062 (Or.inl (by decide))).trans ((jw_ne e77060 (Or.inl (by decide))).trans ((jw_ne e77058 (Or.inl (by decide))).trans ((jw_ne e77057 (Or.inl (by decide))).trans ((jw_ne e77056 (Or.inl (by decide))).trans c277044)))))))) (by omega) (by omega) ((jw_eq e77124)) (by omega) (by omega) (((jw_ne e77124 (Or.inr (by decide))).trans ((jw_ne e77098 (Or.inl (by decide))).trans ((jw_ne e77062 (Or.inl (by decide))).trans ((jw_ne e77060 (Or.inl (by decide))).trans ((jw_ne e77058 (Or.inl (by decide))).trans ((jw_ne e77057 (Or.inl (by decide))).trans ((jw_ne e77056 (Or.inl (by decide))).trans ev77051)))))))) (by omega) (by omega) (ci_ok (sz := v77004 + v77048) (show (if bC h (w1 + 1) ≠ 40 ∨ 12 ≤ a2 then rF (w1 + 1) else chL (bC h) (RC h w4 K (q - 1) a3 (a2 + 1)) 4 (w1 + 2) 0 0 1) = chL (bC h) (RC h w4 K (q - 1) a3 (a2 + 1)) ((4 - x5).toNat - 1) (v77045 + 1) (jor v77005 v77046) (mxD v77006 v77047) (v77004 + v77048) from s177003.trans ((chL_k (show 1 < (4 - x5).toNat by omega) ev77011 (by omega) ((bC_at (p := v77011) k77124 (fun _ => rfl) ew0 (((jw_ne e77124 (Or.inl (by decide))).trans ((jw_ne e77098 (Or.inl (by decide))).trans ((jw_ne e77062 (Or.inl (by decide))).trans ((jw_ne e77060 (Or.inl (by decide))).trans ((jw_ne e77058 (Or.inl (by decide))).trans ((jw_ne e77057 (Or.inl (by decide))).trans ((jw_ne e77056 (Or.inl (by decide))).trans ((kk77042.v rfl).trans ((jw_ne e77041 (Or.inl (by decide))).trans ev77024)))))))))) (by omega) (by omega)).trans (by omega)) (by rw [eQ77044]; show 0 ≤ v77045; omega) (by rw [eQ77044]; exact (bC_at (p := v77045) k77124 (fun _ => rfl) ew0 (((jw_ne e77124 (Or.inl (by decide))).trans ev77107)) (by omega) (by omega)).trans (by omega))).trans (by rw [eQ77044]))) (by omega) (by omega) (by omega) (by omega) (((jw_ne e77124 (Or.inl (by decide))).trans ((jw_ne e77098 (Or.inl (by decide))).trans ((jw_ne e77062 (Or.inl (by decide))).trans (jw_eq e77060))))) (ev77059).symm (((jw_ne e77124 (Or.inl (by decide))).trans ((jw_ne e77098 (Or.inl (by decide))).trans (jw_eq e77062)))) (by unfold mxD; split <;> omega) (((jw_ne e77124 (Or.inl (by decide))).trans (jw_eq e77098))) (mn_of s277003 ev77049 (by omega) (by omega) (by omega)) (by omega) (by omega) (by omega)) ((FrN.wr (i := x4) (FrN.wr (i := x4) (FrN.wr (i := x4) ((((FrN.tr ((H1.kp kk77008 (fun _ => rfl) (fun _ => rfl) (fun _ => rfl)).wn e77041 (by decide)) X77044.1 (by omega)).wn e77056 (by decide)).wn e77057 (by decide)).wn e77058 (by decide)) e77060 (Or.inr (by omega))) e77062 (Or.inr (by omega))) e77098 (Or.inr (by omega))).wn e77124 (by decide)) (by omega)
                      · refine ev_goto f78_100 ?_
                        refine ev_aload_n rfl ?_
                        refine ev_bipush ?_
                        refine ev_in (d := (d + 2)) (a := 0) (b := 0) (cd' := c71_0) (m := 2) (L0 := [(2, 7), (0, 41)]) (jcall_v (A := [(0, 41)]) (S' := []) (r := 7) rfl (g77098.lt ad7) (g77098.tg ad7) (Nat.le_of_ble_eq_true rfl)) (by decide) ml71 pp71 (Nat.le_of_ble_eq_true rfl) rfl (by decide) (by decide) ?_
                        refine ev_aload_n rfl ?_
                        refine g_getv (r := 7) (v := (-1)) g77098 ad7 (by decide) ft5_1 (((jw_ne e77098 (Or.inl (by decide))).trans ((jw_ne e77062 (Or.inl (by decide))).trans ((jw_ne e77060 (Or.inl (by decide))).trans ((jw_ne e77058 (Or.inl (by decide))).trans ((jw_ne e77057 (Or.inl (by decide))).trans ((jw_ne e77056 (Or.inl (by decide))).trans c277044))))))) ?_
                        refine ev_iflt f71_8 (fun c77125 => ?_) (fun c77125 => absurd c77125 (by omega))
                        refine ev_aload_n rfl ?_
                        refine ev_in (d := (d + 1)) (a := 0) (b := 0) (cd' := c68_0) (m := 1) (L0 := [(2, 7)]) (jcall_v (A := []) (S' := []) (r := 7) rfl (g77098.lt ad7) (g77098.tg ad7) (Nat.le_of_ble_eq_true rfl)) (by decide) ml68 pp68 (Nat.le_of_ble_eq_true rfl) rfl (by decide) (by decide) ?_
                        refine ev_aload_n rfl ?_
                        refine g_getv (r := 7) (v := v77045) g77098 ad7 (by decide) ft5_2 (((jw_ne e77098 (Or.inl (by decide))).trans ((jw_ne e77062 (Or.inl (by decide))).trans ((jw_ne e77060 (Or.inl (by decide))).trans ((jw_ne e77058 (Or.inl (by decide))).trans ((jw_ne e77057 (Or.inl (by decide))).trans ((jw_ne e77056 (Or.inl (by decide))).trans c377044))))))) ?_
                        refine ev_aload_n rfl ?_
                        refine g_getv (r := 7) (v := w0) g77098 ad7 (by decide) ft5_0 (((jw_ne e77098 (Or.inl (by decide))).trans ((jw_ne e77062 (Or.inl (by decide))).trans ((jw_ne e77060 (Or.inl (by decide))).trans ((jw_ne e77058 (Or.inl (by decide))).trans ((jw_ne e77057 (Or.inl (by decide))).trans ((jw_ne e77056 (Or.inl (by decide))).trans ((kk77042.v (by decide)).trans ((jw_ne e77041 (Or.inr (by decide))).trans ((kk77008.v (by decide)).trans ((k1.v (by decide)).trans ew0))))))))))) ?_
                        refine ev_icmpge f68_27 (fun c77126 => absurd c77126 (by omega)) (fun c77126 => ?_)
                        refine ev_aload_n rfl ?_
                        refine g_getp (r := 7) (c := 8) g77098 ad7 (by decide) (by decide) rf7_5 ft5_5 ?_
                        refine ev_aload_n rfl ?_
                        refine g_getv (r := 7) (v := v77045) g77098 ad7 (by decide) ft5_2 (((jw_ne e77098 (Or.inl (by decide))).trans ((jw_ne e77062 (Or.inl (by decide))).trans ((jw_ne e77060 (Or.inl (by decide))).trans ((jw_ne e77058 (Or.inl (by decide))).trans ((jw_ne e77057 (Or.inl (by decide))).trans ((jw_ne e77056 (Or.inl (by decide))).trans c377044))))))) ?_
                        refine g_baldv (v := v77107) g77098 ad8 (by omega) (by omega) (ev77107) ?_
                        refine ev_sipush ?_
                        refine g_iandB (b := 255) (by omega) (by omega) (by decide) (fun v77127 ev77127 lv77127 uv77127 => ?_)
                        obtain rfl : v77108 = v77127 := by omega
                        refine ev_goto f68_28 ?_
                        refine ev_ret rfl (by decide) (by decide) ?_
                        show jEv _ _ _ _ _ _ _ (_, [(2, 7), (0, 41)], [(0, v77108)], _, _, _)
                        refine ev_iload_n rfl ?_
                        refine ev_icmpne f71_29 (fun c77128 => ?_) (fun c77128 => absurd c77128 (by omega))
                        refine ev_aload_n rfl ?_
                        refine ev_in (d := (d + 1)) (a := 0) (b := 0) (cd' := c70_0) (m := 1) (L0 := [(2, 7)]) (jcall_v (A := []) (S' := []) (r := 7) rfl (g77098.lt ad7) (g77098.tg ad7) (Nat.le_of_ble_eq_true rfl)) (by decide) ml70 pp70 (Nat.le_of_ble_eq_true rfl) rfl (by decide) (by decide) ?_
                        refine ev_aload_n rfl ?_
                        refine g_getv (r := 7) (v := (-1)) g77098 ad7 (by decide) ft5_1 (((jw_ne e77098 (Or.inl (by decide))).trans ((jw_ne e77062 (Or.inl (by decide))).trans ((jw_ne e77060 (Or.inl (by decide))).trans ((jw_ne e77058 (Or.inl (by decide))).trans ((jw_ne e77057 (Or.inl (by decide))).trans ((jw_ne e77056 (Or.inl (by decide))).trans c277044))))))) ?_
                        refine ev_ifge f70_15 (fun c77129 => absurd c77129 (by omega)) (fun c77129 => ?_)
                        refine ev_aload_n rfl ?_
                        refine ev_aload_n rfl ?_
                        refine g_getv (r := 7) (v := v77045) g77098 ad7 (by decide) ft5_2 (((jw_ne e77098 (Or.inl (by decide))).trans ((jw_ne e77062 (Or.inl (by decide))).trans ((jw_ne e77060 (Or.inl (by decide))).trans ((jw_ne e77058 (Or.inl (by decide))).trans ((jw_ne e77057 (Or.inl (by decide))).trans ((jw_ne e77056 (Or.inl (by decide))).trans c377044))))))) ?_
                        refine g_putf (r := 7) g77098 ad7 (by decide) ft5_1 (by decide) (fun e => absurd e nz5_1) rf7_1 (by decide) (by omega) (by omega) (fun h77130 e77130 g77130 => ?_)
                        have k77130 := k77098.wr e77130 rfl
                        refine ev_ret rfl (by decide) (by decide) ?_
                        show jEv _ _ _ _ _ _ _ (_, [(2, 7), (0, 41)], [], _, _, _)
                        refine ev_ret rfl (by decide) (by decide) ?_
                        show jEv _ _ _ _ _ _ _ (_, [(2, 7), (2, 1), (0, a2), (0, a3), (0, x4), (0, x5), (0, v77009)], [], _, _, _)
                        refine ev_aload_n rfl ?_
                        refine g_getv (r := 7) (v := v77045) g77130 ad7 (by decide) ft5_1 ((jw_eq e77130)) ?_
                        refine ev_iflt f78_117 (fun c77131 => absurd c77131 (by omega)) (fun c77131 => ?_)
                        refine ev_iconst ?_
                        refine ev_goto f78_119 ?_
                        exact ev_ret rfl (by decide) (by decide) ⟨_, rfl, g77130, k77130, by omega, by omega, Rp.bad ((FrN.wr (i := x4) (FrN.wr (i := x4) (FrN.wr (i := x4) ((((FrN.tr ((H1.kp kk77008 (fun _ => rfl) (fun _ => rfl) (fun _ => rfl)).wn e77041 (by decide)) X77044.1 (by omega)).wn e77056 (by decide)).wn e77057 (by decide)).wn e77058 (by decide)) e77060 (Or.inr (by omega))) e77062 (Or.inr (by omega))) e77098 (Or.inr (by omega))).wn e77130 (by decide)) (((jw_ne e77130 (Or.inr (by decide))).trans ((jw_ne e77098 (Or.inl (by decide))).trans ((jw_ne e77062 (Or.inl (by decide))).trans ((jw_ne e77060 (Or.inl (by decide))).trans ((jw_ne e77058 (Or.inl (by decide))).trans ((jw_ne e77057 (Or.inl (by decide))).trans ((jw_ne e77056 (Or.inl (by decide))).trans ev77051)))))))) (by omega) (show (if bC h (w1 + 1) ≠ 40 ∨ 12 ≤ a2 then rF (w1 + 1) else chL (bC h) (RC h w4 K (q - 1) a3 (a2 + 1)) 4 (w1 + 2) 0 0 1) = rF v77045 from s177003.trans ((chL_x (show 0 < (4 - x5).toNat by omega) ev77011 (by omega) ((bC_at (p := v77011) k77130 (fun _ => rfl) ew0 (((jw_ne e77130 (Or.inl (by decide))).trans ((jw_ne e77098 (Or.inl (by decide))).trans ((jw_ne e77062 (Or.inl (by decide))).trans ((jw_ne e77060 (Or.inl (by decide))).trans ((jw_ne e77058 (Or.inl (by decide))).trans ((jw_ne e77057 (Or.inl (by decide))).trans ((jw_ne e77056 (Or.inl (by decide))).trans ((kk77042.v rfl).trans ((jw_ne e77041 (Or.inl (by decide))).trans ev77024)))))))))) (by omega) (by omega)).trans (by omega)) (by rw [eQ77044]; show 0 ≤ v77045; omega) (by rw [eQ77044]; exact fun z => absurd ((bC_at (p := v77045) k77130 (fun _ => rfl) ew0 (((jw_ne e77130 (Or.inl (by decide))).trans ev77107)) (by omega) (by omega)).symm.trans z) (by omega)) (by rw [eQ77044]; show bC h v77045 ≠ 44 ∨ _; rw [(bC_at (p := v77045) k77130 (fun _ => rfl) ew0 (((jw_ne e77130 (Or.inl (by decide))).trans ev77107)) (by omega) (by omega))]; omega)).trans (by rw [eQ77044]))) (by omega) ((jw_eq e77130)) (by omega)⟩
              · refine ev_iload_n rfl ?_
                refine ev_goto f379_10 ?_
                refine ev_ret rfl (by decide) (by decide) ?_
                show jEv _ _ _ _ _ _ _ (_, [(2, 7), (0, x4), (0, x5), (0, v77009), (0, v77043)], [(0, v77006), (0, x4), (2, 16)], _, _, _)
                refine g_iast g77060 ad16 rt16 (fun _ => rfl) (by omega) (by omega) (by omega) (by omega) (fun h77132 e77132 g77132 => ?_)
                have k77132 := k77060.wr e77132 rfl
                refine ev_aload_n rfl ?_
                refine g_getp (r := 7) (c := 17) g77132 ad7 (by decide) (by decide) rf7_14 ft5_14 ?_
                refine ev_iload_n rfl ?_
                refine ev_sipush ?_
                refine ev_aload_n rfl ?_
                refine g_getp (r := 7) (c := 17) g77132 ad7 (by decide) (by decide) rf7_14 ft5_14 ?_
                refine ev_iload_n rfl ?_
                refine g_ialdv (v := v77007) g77132 ad17 (by omega) (by omega) (((jw_ne e77132 (Or.inl (by decide))).trans ((jw_ne e77060 (Or.inl (by decide))).trans ((jw_ne e77058 (Or.inl (by decide))).trans ((jw_ne e77057 (Or.inl (by decide))).trans ((jw_ne e77056 (Or.inl (by decide))).trans ((X77044.1 (x4).toNat (by omega)).2.2.trans (((jw_ne e77041 (Or.inl (by decide))).trans ((kk77008.v rfl).trans ev77007)))))))))) ?_
                refine ev_aload_n rfl ?_
                refine g_getp (r := 7) (c := 17) g77132 ad7 (by decide) (by decide) rf7_14 ft5_14 ?_
                refine ev_iload rfl ?_
                refine g_ialdv (v := v77049) g77132 ad17 (by omega) (by omega) (((jw_ne e77132 (Or.inl (by decide))).trans ((jw_ne e77060 (Or.inl (by decide))).trans ((jw_ne e77058 (Or.inl (by decide))).trans ((jw_ne e77057 (Or.inl (by decide))).trans ((jw_ne e77056 (Or.inl (by decide))).trans d577044)))))) ?_
                refine ev_iadd (r := (v77007 + v77049)) (by unfold w32; omega) ?_
                refine ev_in (d := (d + 1)) (a := 0) (b := 0) (cd' := c381_0) (m := 2) (L0 := [(0, 1000), (0, (v77007 + v77049))]) (jcall_s (A := [(0, (v77007 + v77049)), (0, 1000)]) (S' := [(0, x4), (2, 17)]) (by decide) rfl (Nat.le_of_ble_eq_true rfl)) (by decide) ml381 pp381 (Nat.le_of_ble_eq_true rfl) rfl (by decide) (by decide) ?_
                refine ev_iload_n rfl ?_
                refine ev_iload_n rfl ?_
                refine ev_icmpgt f381_9 (fun c77133 => ?_) (fun c77133 => ?_)
                · refine ev_iload_n rfl ?_
                  refine ev_ret rfl (by decide) (by decide) ?_
                  show jEv _ _ _ _ _ _ _ (_, [(2, 7), (0, x4), (0, x5), (0, v77009), (0, v77043)], [(0, (v77007 + v77049)), (0, x4), (2, 17)], _, _, _)
                  refine g_iast g77132 ad17 rt17 (fun _ => rfl) (by omega) (by omega) (by omega) (by omega) (fun h77134 e77134 g77134 => ?_)
                  have k77134 := k77132.wr e77134 rfl
                  refine ev_ret rfl (by decide) (by decide) ?_
                  show jEv _ _ _ _ _ _ _ (_, [(2, 7), (2, 1), (0, a2), (0, a3), (0, x4), (0, x5), (0, v77009)], [], _, _, _)
                  refine ev_aload_n rfl ?_
                  refine ev_in (d := (d + 2)) (a := 0) (b := 0) (cd' := c68_0) (m := 1) (L0 := [(2, 7)]) (jcall_v (A := []) (S' := []) (r := 7) rfl (g77134.lt ad7) (g77134.tg ad7) (Nat.le_of_ble_eq_true rfl)) (by decide) ml68 pp68 (Nat.le_of_ble_eq_true rfl) rfl (by decide) (by decide) ?_
                  refine ev_aload_n rfl ?_
                  refine g_getv (r := 7) (v := v77045) g77134 ad7 (by decide) ft5_2 (((jw_ne e77134 (Or.inl (by decide))).trans ((jw_ne e77132 (Or.inl (by decide))).trans ((jw_ne e77060 (Or.inl (by decide))).trans ((jw_ne e77058 (Or.inl (by decide))).trans ((jw_ne e77057 (Or.inl (by decide))).trans ((jw_ne e77056 (Or.inl (by decide))).trans c377044))))))) ?_
                  refine ev_aload_n rfl ?_
                  refine g_getv (r := 7) (v := w0) g77134 ad7 (by decide) ft5_0 (((jw_ne e77134 (Or.inl (by decide))).trans ((jw_ne e77132 (Or.inl (by decide))).trans ((jw_ne e77060 (Or.inl (by decide))).trans ((jw_ne e77058 (Or.inl (by decide))).trans ((jw_ne e77057 (Or.inl (by decide))).trans ((jw_ne e77056 (Or.inl (by decide))).trans ((kk77042.v (by decide)).trans ((jw_ne e77041 (Or.inr (by decide))).trans ((kk77008.v (by decide)).trans ((k1.v (by decide)).trans ew0))))))))))) ?_
                  refine ev_icmpge f68_27 (fun c77135 => ?_) (fun c77135 => ?_)
                  · refine ev_iconst ?_
                    refine ev_ret rfl (by decide) (by decide) ?_
                    show jEv _ _ _ _ _ _ _ (_, [(2, 7), (2, 1), (0, a2), (0, a3), (0, x4), (0, x5), (0, v77009)], [(0, (-1))], _, _, _)
                    refine ev_bipush ?_
                    refine ev_icmpne f78_100 (fun c77136 => ?_) (fun c77136 => absurd c77136 (by omega))
                    refine ev_aload_n rfl ?_
                    refine ev_bipush ?_
                    refine ev_in (d := (d + 2)) (a := 0) (b := 0) (cd' := c71_0) (m := 2) (L0 := [(2, 7), (0, 41)]) (jcall_v (A := [(0, 41)]) (S' := []) (r := 7) rfl (g77134.lt ad7) (g77134.tg ad7) (Nat.le_of_ble_eq_true rfl)) (by decide) ml71 pp71 (Nat.le_of_ble_eq_true rfl) rfl (by decide) (by decide) ?_
                    refine ev_aload_n rfl ?_
                    refine g_getv (r := 7) (v := (-1)) g77134 ad7 (by decide) ft5_1 (((jw_ne e77134 (Or.inl (by decide))).trans ((jw_ne e77132 (Or.inl (by decide))).trans ((jw_ne e77060 (Or.inl (by decide))).trans ((jw_ne e77058 (Or.inl (by decide))).trans ((jw_ne e77057 (Or.inl (by decide))).trans ((jw_ne e77056 (Or.inl (by decide))).trans c277044))))))) ?_
                    refine ev_iflt f71_8 (fun c77137 => ?_) (fun c77137 => absurd c77137 (by omega))
                    refine ev_aload_n rfl ?_
                    refine ev_in (d := (d + 1)) (a := 0) (b := 0) (cd' := c68_0) (m := 1) (L0 := [(2, 7)]) (jcall_v (A := []) (S' := []) (r := 7) rfl (g77134.lt ad7) (g77134.tg ad7) (Nat.le_of_ble_eq_true rfl)) (by decide) ml68 pp68 (Nat.le_of_ble_eq_true rfl) rfl (by decide) (by decide) ?_
                    refine ev_aload_n rfl ?_
                    refine g_getv (r := 7) (v := v77045) g77134 ad7 (by decide) ft5_2 (((jw_ne e77134 (Or.inl (by decide))).trans ((jw_ne e77132 (Or.inl (by decide))).trans ((jw_ne e77060 (Or.inl (by decide))).trans ((jw_ne e77058 (Or.inl (by decide))).trans ((jw_ne e77057 (Or.inl (by decide))).trans ((jw_ne e77056 (Or.inl (by decide))).trans c377044))))))) ?_
                    refine ev_aload_n rfl ?_
                    refine g_getv (r := 7) (v := w0) g77134 ad7 (by decide) ft5_0 (((jw_ne e77134 (Or.inl (by decide))).trans ((jw_ne e77132 (Or.inl (by decide))).trans ((jw_ne e77060 (Or.inl (by decide))).trans ((jw_ne e77058 (Or.inl (by decide))).trans ((jw_ne e77057 (Or.inl (by decide))).trans ((jw_ne e77056 (Or.inl (by decide))).trans ((kk77042.v (by decide)).trans ((jw_ne e77041 (Or.inr (by decide))).trans ((kk77008.v (by decide)).trans ((k1.v (by decide)).trans ew0))))))))))) ?_
                    refine ev_icmpge f68_27 (fun c77138 => ?_) (fun c77138 => absurd c77138 (by omega))
                    refine ev_iconst ?_
                    refine ev_ret rfl (by decide) (by decide) ?_
                    show jEv _ _ _ _ _ _ _ (_, [(2, 7), (0, 41)], [(0, (-1))], _, _, _)
                    refine ev_iload_n rfl ?_
                    refine ev_icmpne f71_29 (fun c77139 => ?_) (fun c77139 => absurd c77139 (by omega))
                    refine ev_aload_n rfl ?_
                    refine ev_in (d := (d + 1)) (a := 0) (b := 0) (cd' := c70_0) (m := 1) (L0 := [(2, 7)]) (jcall_v (A := []) (S' := []) (r := 7) rfl (g77134.lt ad7) (g77134.tg ad7) (Nat.le_of_ble_eq_true rfl)) (by decide) ml70 pp70 (Nat.le_of_ble_eq_true rfl) rfl (by decide) (by decide) ?_
                    refine ev_aload_n rfl ?_
                    refine g_getv (r := 7) (v := (-1)) g77134 ad7 (by decide) ft5_1 (((jw_ne e77134 (Or.inl (by decide))).trans ((jw_ne e77132 (Or.inl (by decide))).trans ((jw_ne e77060 (Or.inl (by decide))).trans ((jw_ne e77058 (Or.inl (by decide))).trans ((jw_ne e77057 (Or.inl (by decide))).trans ((jw_ne e77056 (Or.inl (by decide))).trans c277044))))))) ?_
                    refine ev_ifge f70_15 (fun c77140 => absurd c77140 (by omega)) (fun c77140 => ?_)
                    refine ev_aload_n rfl ?_
                    refine ev_aload_n rfl ?_
                    refine g_getv (r := 7) (v := v77045) g77134 ad7 (by decide) ft5_2 (((jw_ne e77134 (Or.inl (by decide))).trans ((jw_ne e77132 (Or.inl (by decide))).trans ((jw_ne e77060 (Or.inl (by decide))).trans ((jw_ne e77058 (Or.inl (by decide))).trans ((jw_ne e77057 (Or.inl (by decide))).trans ((jw_ne e77056 (Or.inl (by decide))).trans c377044))))))) ?_
                    refine g_putf (r := 7) g77134 ad7 (by decide) ft5_1 (by decide) (fun e => absurd e nz5_1) rf7_1 (by decide) (by omega) (by omega) (fun h77141 e77141 g77141 => ?_)
                    have k77141 := k77134.wr e77141 rfl
                    refine ev_ret rfl (by decide) (by decide) ?_
                    show jEv _ _ _ _ _ _ _ (_, [(2, 7), (0, 41)], [], _, _, _)
                    refine ev_ret rfl (by decide) (by decide) ?_
                    show jEv _ _ _ _ _ _ _ (_, [(2, 7), (2, 1), (0, a2), (0, a3), (0, x4), (0, x5), (0, v77009)], [], _, _, _)
                    refine ev_aload_n rfl ?_
                    refine g_getv (r := 7) (v := v77045) g77141 ad7 (by decide) ft5_1 ((jw_eq e77141)) ?_
                    refine ev_iflt f78_117 (fun c77142 => absurd c77142 (by omega)) (fun c77142 => ?_)
                    refine ev_iconst ?_
                    refine ev_goto f78_119 ?_
                    exact ev_ret rfl (by decide) (by decide) ⟨_, rfl, g77141, k77141, by omega, by omega, Rp.bad ((FrN.wr (i := x4) (FrN.wr (i := x4) (FrN.wr (i := x4) ((((FrN.tr ((H1.kp kk77008 (fun _ => rfl) (fun _ => rfl) (fun _ => rfl)).wn e77041 (by decide)) X77044.1 (by omega)).wn e77056 (by decide)).wn e77057 (by decide)).wn e77058 (by decide)) e77060 (Or.inr (by omega))) e77132 (Or.inr (by omega))) e77134 (Or.inr (by omega))).wn e77141 (by decide)) (((jw_ne e77141 (Or.inr (by decide))).trans ((jw_ne e77134 (Or.inl (by decide))).trans ((jw_ne e77132 (Or.inl (by decide))).trans ((jw_ne e77060 (Or.inl (by decide))).trans ((jw_ne e77058 (Or.inl (by decide))).trans ((jw_ne e77057 (Or.inl (by decide))).trans ((jw_ne e77056 (Or.inl (by decide))).trans ev77051)))))))) (by omega) (show (if bC h (w1 + 1) ≠ 40 ∨ 12 ≤ a2 then rF (w1 + 1) else chL (bC h) (RC h w4 K (q - 1) a3 (a2 + 1)) 4 (w1 + 2) 0 0 1) = rF v77045 from s177003.trans ((chL_x (show 0 < (4 - x5).toNat by omega) ev77011 (by omega) ((bC_at (p := v77011) k77141 (fun _ => rfl) ew0 (((jw_ne e77141 (Or.inl (by decide))).trans ((jw_ne e77134 (Or.inl (by decide))).trans ((jw_ne e77132 (Or.inl (by decide))).trans ((jw_ne e77060 (Or.inl (by decide))).trans ((jw_ne e77058 (Or.inl (by decide))).trans ((jw_ne e77057 (Or.inl (by decide))).trans ((jw_ne e77056 (Or.inl (by decide))).trans ((kk77042.v rfl).trans ((jw_ne e77041 (Or.inl (by decide))).trans ev77024)))))))))) (by omega) (by omega)).trans (by omega)) (by rw [eQ77044]; show 0 ≤ v77045; omega) (by rw [eQ77044]; exact fun z => absurd ((bC_end (p := v77045) ew0 (by omega)).symm.trans z) (by omega)) (by rw [eQ77044]; show bC h v77045 ≠ 44 ∨ _; rw [(bC_end (p := v77045) ew0 (by omega))]; omega)).trans (by rw [eQ77044]))) (by omega) ((jw_eq e77141)) (by omega)⟩
                  · refine ev_aload_n rfl ?_
                    refine g_getp (r := 7) (c := 8) g77134 ad7 (by decide) (by decide) rf7_5 ft5_5 ?_
                    refine ev_aload_n rfl ?_
                    refine g_getv (r := 7) (v := v77045) g77134 ad7 (by decide) ft5_2 (((jw_ne e77134 (Or.inl (by decide))).trans ((jw_ne e77132 (Or.inl (by decide))).trans ((jw_ne e77060 (Or.inl (by decide))).trans ((jw_ne e77058 (Or.inl (by decide))).trans ((jw_ne e77057 (Or.inl (by decide))).trans ((jw_ne e77056 (Or.inl (by decide))).trans c377044))))))) ?_
                    refine g_bald g77134 ad8 rt8 (by omega) (by omega) (fun v77143 ev77143 lv77143 uv77143 => ?_)
                    refine ev_sipush ?_
                    refine g_iandB (b := 255) (by omega) (by omega) (by decide) (fun v77144 ev77144 lv77144 uv77144 => ?_)
                    have zv77144 := sgn ev77144 (by omega) (by omega)
                    refine ev_goto f68_28 ?_
                    refine ev_ret rfl (by decide) (by decide) ?_
                    show jEv _ _ _ _ _ _ _ (_, [(2, 7), (2, 1), (0, a2), (0, a3), (0, x4), (0, x5), (0, v77009)], [(0, v77144)], _, _, _)
                    refine ev_bipush ?_
                    refine ev_icmpne f78_100 (fun c77145 => ?_) (fun c77145 => ?_)
                    · refine ev_aload_n rfl ?_
                      refine ev_bipush ?_
                      refine ev_in (d := (d + 2)) (a := 0) (b := 0) (cd' := c71_0) (m := 2) (L0 := [(2, 7), (0, 41)]) (jcall_v (A := [(0, 41)]) (S' := []) (r := 7) rfl (g77134.lt ad7) (g77134.tg ad7) (Nat.le_of_ble_eq_true rfl)) (by decide) ml71 pp71 (Nat.le_of_ble_eq_true rfl) rfl (by decide) (by decide) ?_
                      refine ev_aload_n rfl ?_
                      refine g_getv (r := 7) (v := (-1)) g77134 ad7 (by decide) ft5_1 (((jw_ne e77134 (Or.inl (by decide))).trans ((jw_ne e77132 (Or.inl (by decide))).trans ((jw_ne e77060 (Or.inl (by decide))).trans ((jw_ne e77058 (Or.inl (by decide))).trans ((jw_ne e77057 (Or.inl (by decide))).trans ((jw_ne e77056 (Or.inl (by decide))).trans c277044))))))) ?_
                      refine ev_iflt f71_8 (fun c77146 => ?_) (fun c77146 => absurd c77146 (by omega))
                      refine ev_aload_n rfl ?_
                      refine ev_in (d := (d + 1)) (a := 0) (b := 0) (cd' := c68_0) (m := 1) (L0 := [(2, 7)]) (jcall_v (A := []) (S' := []) (r := 7) rfl (g77134.lt ad7) (g77134.tg ad7) (Nat.le_of_ble_eq_true rfl)) (by decide) ml68 pp68 (Nat.le_of_ble_eq_true rfl) rfl (by decide) (by decide) ?_
                      refine ev_aload_n rfl ?_
                      refine g_getv (r := 7) (v := v77045) g77134 ad7 (by decide) ft5_2 (((jw_ne e77134 (Or.inl (by decide))).trans ((jw_ne e77132 (Or.inl (by decide))).trans ((jw_ne e77060 (Or.inl (by decide))).trans ((jw_ne e77058 (Or.inl (by decide))).trans ((jw_ne e77057 (Or.inl (by decide))).trans ((jw_ne e77056 (Or.inl (by decide))).trans c377044))))))) ?_
                      refine ev_aload_n rfl ?_
                      refine g_getv (r := 7) (v := w0) g77134 ad7 (by decide) ft5_0 (((jw_ne e77134 (Or.inl (by decide))).trans ((jw_ne e77132 (Or.inl (by decide))).trans ((jw_ne e77060 (Or.inl (by decide))).trans ((jw_ne e77058 (Or.inl (by decide))).trans ((jw_ne e77057 (Or.inl (by decide))).trans ((jw_ne e77056 (Or.inl (by decide))).trans ((kk77042.v (by decide)).trans ((jw_ne e77041 (Or.inr (by decide))).trans ((kk77008.v (by decide)).trans ((k1.v (by decide)).trans ew0))))))))))) ?_
                      refine ev_icmpge f68_27 (fun c77147 => absurd c77147 (by omega)) (fun c77147 => ?_)
                      refine ev_aload_n rfl ?_
                      refine g_getp (r := 7) (c := 8) g77134 ad7 (by decide) (by decide) rf7_5 ft5_5 ?_
                      refine ev_aload_n rfl ?_
                      refine g_getv (r := 7) (v := v77045) g77134 ad7 (by decide) ft5_2 (((jw_ne e77134 (Or.inl (by decide))).trans ((jw_ne e77132 (Or.inl (by decide))).trans ((jw_ne e77060 (Or.inl (by decide))).trans ((jw_ne e77058 (Or.inl (by decide))).trans ((jw_ne e77057 (Or.inl (by decide))).trans ((jw_ne e77056 (Or.inl (by decide))).trans c377044))))))) ?_
                      refine g_baldv (v := v77143) g77134 ad8 (by omega) (by omega) (ev77143) ?_
                      refine ev_sipush ?_
                      refine g_iandB (b := 255) (by omega) (by omega) (by decide) (fun v77148 ev77148 lv77148 uv77148 => ?_)
                      obtain rfl : v77144 = v77148 := by omega
                      refine ev_goto f68_28 ?_
                      refine ev_ret rfl (by decide) (by decide) ?_
                      show jEv _ _ _ _ _ _ _ (_, [(2, 7), (0, 41)], [(0, v77144)], _, _, _)
                      refine ev_iload_n rfl ?_
                      refine ev_icmpne f71_29 (fun c77149 => ?_) (fun c77149 => ?_)
                      · refine ev_aload_n rfl ?_
                        refine ev_in (d := (d + 1)) (a := 0) (b := 0) (cd' := c70_0) (m := 1) (L0 := [(2, 7)]) (jcall_v (A := []) (S' := []) (r := 7) rfl (g77134.lt ad7) (g77134.tg ad7) (Nat.le_of_ble_eq_true rfl)) (by decide) ml70 pp70 (Nat.le_of_ble_eq_true rfl) rfl (by decide) (by decide) ?_
                        refine ev_aload_n rfl ?_
                        refine g_getv (r := 7) (v := (-1)) g77134 ad7 (by decide) ft5_1 (((jw_ne e77134 (Or.inl (by decide))).trans ((jw_ne e77132 (Or.inl (by decide))).trans ((jw_ne e77060 (Or.inl (by decide))).trans ((jw_ne e77058 (Or.inl (by decide))).trans ((jw_ne e77057 (Or.inl (by decide))).trans ((jw_ne e77056 (Or.inl (by decide))).trans c277044))))))) ?_
                        refine ev_ifge f70_15 (fun c77150 => absurd c77150 (by omega)) (fun c77150 => ?_)
                        refine ev_aload_n rfl ?_
                        refine ev_aload_n rfl ?_
                        refine g_getv (r := 7) (v := v77045) g77134 ad7 (by decide) ft5_2 (((jw_ne e77134 (Or.inl (by decide))).trans ((jw_ne e77132 (Or.inl (by decide))).trans ((jw_ne e77060 (Or.inl (by decide))).trans ((jw_ne e77058 (Or.inl (by decide))).trans ((jw_ne e77057 (Or.inl (by decide))).trans ((jw_ne e77056 (Or.inl (by decide))).trans c377044))))))) ?_
                        refine g_putf (r := 7) g77134 ad7 (by decide) ft5_1 (by decide) (fun e => absurd e nz5_1) rf7_1 (by decide) (by omega) (by omega) (fun h77151 e77151 g77151 => ?_)
                        have k77151 := k77134.wr e77151 rfl
                        refine ev_ret rfl (by decide) (by decide) ?_
                        show jEv _ _ _ _ _ _ _ (_, [(2, 7), (0, 41)], [], _, _, _)
                        refine ev_ret rfl (by decide) (by decide) ?_
                        show jEv _ _ _ _ _ _ _ (_, [(2, 7), (2, 1), (0, a2), (0, a3), (0, x4), (0, x5), (0, v77009)], [], _, _, _)
                        refine ev_aload_n rfl ?_
                        refine g_getv (r := 7) (v := v77045) g77151 ad7 (by decide) ft5_1 ((jw_eq e77151)) ?_
                        refine ev_iflt f78_117 (fun c77152 => absurd c77152 (by omega)) (fun c77152 => ?_)
                        refine ev_iconst ?_
                        refine ev_goto f78_119 ?_
                        exact ev_ret rfl (by decide) (by decide) ⟨_, rfl, g77151, k77151, by omega, by omega, Rp.bad ((FrN.wr (i := x4) (FrN.wr (i := x4) (FrN.wr (i := x4) ((((FrN.tr ((H1.kp kk77008 (fun _ => rfl) (fun _ => rfl) (fun _ => rfl)).wn e77041 (by decide)) X77044.1 (by omega)).wn e77056 (by decide)).wn e77057 (by decide)).wn e77058 (by decide)) e77060 (Or.inr (by omega))) e77132 (Or.inr (by omega))) e77134 (Or.inr (by omega))).wn e77151 (by decide)) (((jw_ne e77151 (Or.inr (by decide))).trans ((jw_ne e77134 (Or.inl (by decide))).trans ((jw_ne e77132 (Or.inl (by decide))).trans ((jw_ne e77060 (Or.inl (by decide))).trans ((jw_ne e77058 (Or.inl (by decide))).trans ((jw_ne e77057 (Or.inl (by decide))).trans ((jw_ne e77056 (Or.inl (by decide))).trans ev77051)))))))) (by omega) (show (if bC h (w1 + 1) ≠ 40 ∨ 12 ≤ a2 then rF (w1 + 1) else chL (bC h) (RC h w4 K (q - 1) a3 (a2 + 1)) 4 (w1 + 2) 0 0 1) = rF v77045 from s177003.trans ((chL_x (show 0 < (4 - x5).toNat by omega) ev77011 (by omega) ((bC_at (p := v77011) k77151 (fun _ => rfl) ew0 (((jw_ne e77151 (Or.inl (by decide))).trans ((jw_ne e77134 (Or.inl (by decide))).trans ((jw_ne e77132 (Or.inl (by decide))).trans ((jw_ne e77060 (Or.inl (by decide))).trans ((jw_ne e77058 (Or.inl (by decide))).trans ((jw_ne e77057 (Or.inl (by decide))).trans ((jw_ne e77056 (Or.inl (by decide))).trans ((kk77042.v rfl).trans ((jw_ne e77041 (Or.inl (by decide))).trans ev77024)))))))))) (by omega) (by omega)).trans (by omega)) (by rw [eQ77044]; show 0 ≤ v77045; omega) (by rw [eQ77044]; exact fun z => absurd ((bC_at (p := v77045) k77151 (fun _ => rfl) ew0 (((jw_ne e77151 (Or.inl (by decide))).trans ev77143)) (by omega) (by omega)).symm.trans z) (by omega)) (by rw [eQ77044]; show bC h v77045 ≠ 44 ∨ _; rw [(bC_at (p := v77045) k77151 (fun _ => rfl) ew0 (((jw_ne e77151 (Or.inl (by decide))).trans ev77143)) (by omega) (by omega))]; omega)).trans (by rw [eQ77044]))) (by omega) ((jw_eq e77151)) (by omega)⟩
                      · refine ev_aload_n rfl ?_
                        refine ev_dup (by decide) ?_
                        refine g_getv (r := 7) (v := v77045) g77134 ad7 (by decide) ft5_2 (((jw_ne e77134 (Or.inl (by decide))).trans ((jw_ne e77132 (Or.inl (by decide))).trans ((jw_ne e77060 (Or.inl (by decide))).trans ((jw_ne e77058 (Or.inl (by decide))).trans ((jw_ne e77057 (Or.inl (by decide))).trans ((jw_ne e77056 (Or.inl (by decide))).trans c377044))))))) ?_
                        refine ev_iconst ?_
                        refine ev_iadd (r := (v77045 + 1)) (by unfold w32; omega) ?_
                        refine g_putf (r := 7) g77134 ad7 (by decide) ft5_2 (by decide) (fun e => absurd e nz5_2) rf7_2 (by decide) (by omega) (by omega) (fun h77153 e77153 g77153 => ?_)
                        have k77153 := k77134.wr e77153 rfl
                        refine ev_goto f71_33 ?_
                        refine ev_ret rfl (by decide) (by decide) ?_
                        show jEv _ _ _ _ _ _ _ (_, [(2, 7), (2, 1), (0, a2), (0, a3), (0, x4), (0, x5), (0, v77009)], [], _, _, _)
                        refine ev_aload_n rfl ?_
                        refine g_getv (r := 7) (v := (-1)) g77153 ad7 (by decide) ft5_1 (((jw_ne e77153 (Or.inr (by decide))).trans ((jw_ne e77134 (Or.inl (by decide))).trans ((jw_ne e77132 (Or.inl (by decide))).trans ((jw_ne e77060 (Or.inl (by decide))).trans ((jw_ne e77058 (Or.inl (by decide))).trans ((jw_ne e77057 (Or.inl (by decide))).trans ((jw_ne e77056 (Or.inl (by decide))).trans c277044)))))))) ?_
                        refine ev_iflt f78_117 (fun c77154 => ?_) (fun c77154 => absurd c77154 (by omega))
                        refine ev_iload rfl ?_
                        exact ev_ret rfl (by decide) (by decide) ⟨_, rfl, g77153, k77153, by omega, by omega, Rp.good ((FrN.wr (i := x4) (FrN.wr (i := x4) (FrN.wr (i := x4) ((((FrN.tr ((H1.kp kk77008 (fun _ => rfl) (fun _ => rfl) (fun _ => rfl)).wn e77041 (by decide)) X77044.1 (by omega)).wn e77056 (by decide)).wn e77057 (by decide)).wn e77058 (by decide)) e77060 (Or.inr (by omega))) e77132 (Or.inr (by omega))) e77134 (Or.inr (by omega))).wn e77153 (by decide)) (((jw_ne e77153 (Or.inr (by decide))).trans ((jw_ne e77134 (Or.inl (by decide))).trans ((jw_ne e77132 (Or.inl (by decide))).trans ((jw_ne e77060 (Or.inl (by decide))).trans ((jw_ne e77058 (Or.inl (by decide))).trans ((jw_ne e77057 (Or.inl (by decide))).trans ((jw_ne e77056 (Or.inl (by decide))).trans ev77051)))))))) (by omega) (show (if bC h (w1 + 1) ≠ 40 ∨ 12 ≤ a2 then rF (w1 + 1) else chL (bC h) (RC h w4 K (q - 1) a3 (a2 + 1)) 4 (w1 + 2) 0 0 1) = (v77045 + 1, jor v77005 v77046, mxD v77006 v77047, v77004 + v77048) from s177003.trans ((chL_e (show 0 < (4 - x5).toNat by omega) ev77011 (by omega) ((bC_at (p := v77011) k77153 (fun _ => rfl) ew0 (((jw_ne e77153 (Or.inl (by decide))).trans ((jw_ne e77134 (Or.inl (by decide))).trans ((jw_ne e77132 (Or.inl (by decide))).trans ((jw_ne e77060 (Or.inl (by decide))).trans ((jw_ne e77058 (Or.inl (by decide))).trans ((jw_ne e77057 (Or.inl (by decide))).trans ((jw_ne e77056 (Or.inl (by decide))).trans ((kk77042.v rfl).trans ((jw_ne e77041 (Or.inl (by decide))).trans ev77024)))))))))) (by omega) (by omega)).trans (by omega)) (by rw [eQ77044]; show 0 ≤ v77045; omega) (by rw [eQ77044]; exact (bC_at (p := v77045) k77153 (fun _ => rfl) ew0 (((jw_ne e77153 (Or.inl (by decide))).trans ev77143)) (by omega) (by omega)).trans (by omega))).trans (by rw [eQ77044]))) (by omega) (((jw_ne e77153 (Or.inr (by decide))).trans ((jw_ne e77134 (Or.inl (by decide))).trans ((jw_ne e77132 (Or.inl (by decide))).trans ((jw_ne e77060 (Or.inl (by decide))).trans ((jw_ne e77058 (Or.inl (by decide))).trans ((jw_ne e77057 (Or.inl (by decide))).trans ((jw_ne e77056 (Or.inl (by decide))).trans c277044)))))))) ((jw_eq e77153)) (by omega) (by omega) (by omega) (by omega) (((jw_ne e77153 (Or.inl (by decide))).trans ((jw_ne e77134 (Or.inl (by decide))).trans ((jw_ne e77132 (Or.inl (by decide))).trans (jw_eq e77060))))) (ev77059).symm (((jw_ne e77153 (Or.inl (by decide))).trans ((jw_ne e77134 (Or.inl (by decide))).trans (jw_eq e77132)))) (by unfold mxD; split <;> omega) (((jw_ne e77153 (Or.inl (by decide))).trans (jw_eq e77134))) (mn_of s277003 ev77049 (by omega) (by omega) (by omega))⟩
                    · refine ev_iload rfl ?_
                      refine ev_iconst ?_
                      refine ev_icmpne f78_88 (fun c77155 => ?_) (fun c77155 => ?_)
                      · refine ev_aload_n rfl ?_
                        refine ev_bipush ?_
                        refine ev_in (d := (d + 2)) (a := 0) (b := 0) (cd' := c71_0) (m := 2) (L0 := [(2, 7), (0, 44)]) (jcall_v (A := [(0, 44)]) (S' := []) (r := 7) rfl (g77134.lt ad7) (g77134.tg ad7) (Nat.le_of_ble_eq_true rfl)) (by decide) ml71 pp71 (Nat.le_of_ble_eq_true rfl) rfl (by decide) (by decide) ?_
                        refine ev_aload_n rfl ?_
                        refine g_getv (r := 7) (v := (-1)) g77134 ad7 (by decide) ft5_1 (((jw_ne e77134 (Or.inl (by decide))).trans ((jw_ne e77132 (Or.inl (by decide))).trans ((jw_ne e77060 (Or.inl (by decide))).trans ((jw_ne e77058 (Or.inl (by decide))).trans ((jw_ne e77057 (Or.inl (by decide))).trans ((jw_ne e77056 (Or.inl (by decide))).trans c277044))))))) ?_
                        refine ev_iflt f71_8 (fun c77156 => ?_) (fun c77156 => absurd c77156 (by omega))
                        refine ev_aload_n rfl ?_
                        refine ev_in (d := (d + 1)) (a := 0) (b := 0) (cd' := c68_0) (m := 1) (L0 := [(2, 7)]) (jcall_v (A := []) (S' := []) (r := 7) rfl (g77134.lt ad7) (g77134.tg ad7) (Nat.le_of_ble_eq_true rfl)) (by decide) ml68 pp68 (Nat.le_of_ble_eq_true rfl) rfl (by decide) (by decide) ?_
                        refine ev_aload_n rfl ?_
                        refine g_getv (r := 7) (v := v77045) g77134 ad7 (by decide) ft5_2 (((jw_ne e77134 (Or.inl (by decide))).trans ((jw_ne e77132 (Or.inl (by decide))).trans ((jw_ne e77060 (Or.inl (by decide))).trans ((jw_ne e77058 (Or.inl (by decide))).trans ((jw_ne e77057 (Or.inl (by decide))).trans ((jw_ne e77056 (Or.inl (by decide))).trans c377044))))))) ?_
                        refine ev_aload_n rfl ?_
                        refine g_getv (r := 7) (v := w0) g77134 ad7 (by decide) ft5_0 (((jw_ne e77134 (Or.inl (by decide))).trans ((jw_ne e77132 (Or.inl (by decide))).trans ((jw_ne e77060 (Or.inl (by decide))).trans ((jw_ne e77058 (Or.inl (by decide))).trans ((jw_ne e77057 (Or.inl (by decide))).trans ((jw_ne e77056 (Or.inl (by decide))).trans ((kk77042.v (by decide)).trans ((jw_ne e77041 (Or.inr (by decide))).trans ((kk77008.v (by decide)).trans ((k1.v (by decide)).trans ew0))))))))))) ?_
                        refine ev_icmpge f68_27 (fun c77157 => absurd c77157 (by omega)) (fun c77157 => ?_)
                        refine ev_aload_n rfl ?_
                        refine g_getp (r := 7) (c := 8) g77134 ad7 (by decide) (by decide) rf7_5 ft5_5 ?_
                        refine ev_aload_n rfl ?_
                        refine g_getv (r := 7) (v := v77045) g77134 ad7 (by decide) ft5_2 (((jw_ne e77134 (Or.inl (by decide))).trans ((jw_ne e77132 (Or.inl (by decide))).trans ((jw_ne e77060 (Or.inl (by decide))).trans ((jw_ne e77058 (Or.inl (by decide))).trans ((jw_ne e77057 (Or.inl (by decide))).trans ((jw_ne e77056 (Or.inl (by decide))).trans c377044))))))) ?_
                        refine g_baldv (v := v77143) g77134 ad8 (by omega) (by omega) (ev77143) ?_
                        refine ev_sipush ?_
                        refine g_iandB (b := 255) (by omega) (by omega) (by decide) (fun v77158 ev77158 lv77158 uv77158 => ?_)
                        obtain rfl : v77144 = v77158 := by omega
                        refine ev_goto f68_28 ?_
                        refine ev_ret rfl (by decide) (by decide) ?_
                        show jEv _ _ _ _ _ _ _ (_, [(2, 7), (0, 44)], [(0, v77144)], _, _, _)
                        refine ev_iload_n rfl ?_
                        refine ev_icmpne f71_29 (fun c77159 => absurd c77159 (by omega)) (fun c77159 => ?_)
                        refine ev_aload_n rfl ?_
                        refine ev_dup (by decide) ?_
                        refine g_getv (r := 7) (v := v77045) g77134 ad7 (by decide) ft5_2 (((jw_ne e77134 (Or.inl (by decide))).trans ((jw_ne e77132 (Or.inl (by decide))).trans ((jw_ne e77060 (Or.inl (by decide))).trans ((jw_ne e77058 (Or.inl (by decide))).trans ((jw_ne e77057 (Or.inl (by decide))).trans ((jw_ne e77056 (Or.inl (by decide))).trans c377044))))))) ?_
                        refine ev_iconst ?_
                        refine ev_iadd (r := (v77045 + 1)) (by unfold w32; omega) ?_
                        refine g_putf (r := 7) g77134 ad7 (by decide) ft5_2 (by decide) (fun e => absurd e nz5_2) rf7_2 (by decide) (by omega) (by omega) (fun h77160 e77160 g77160 => ?_)
                        have k77160 := k77134.wr e77160 rfl
                        refine ev_goto f71_33 ?_
                        refine ev_ret rfl (by decide) (by decide) ?_
                        show jEv _ _ _ _ _ _ _ (_, [(2, 7), (2, 1), (0, a2), (0, a3), (0, x4), (0, x5), (0, v77009)], [], _, _, _)
                        refine ev_iinc (w := (x5 + 1)) (L' := [(2, 7), (2, 1), (0, a2), (0, a3), (0, x4), (0, (x5 + 1)), (0, v77009)]) rfl (by unfold w32; omega) rfl ?_
                        refine ev_goto f78_25 ?_
                        exact ih _ _ _ _ _ _ _ g77160 k77160 (by omega) (by omega) (by omega) (by omega) (by omega) (by omega) (by omega) (by omega) (by omega) (by omega) (by omega) (by omega) (((jw_ne e77160 (Or.inr (by decide))).trans ((jw_ne e77134 (Or.inl (by decide))).trans ((jw_ne e77132 (Or.inl (by decide))).trans ((jw_ne e77060 (Or.inl (by decide))).trans ((jw_ne e77058 (Or.inl (by decide))).trans ((jw_ne e77057 (Or.inl (by decide))).trans ((jw_ne e77056 (Or.inl (by decide))).trans c277044)))))))) (by omega) (by omega) ((jw_eq e77160)) (by omega) (by omega) (((jw_ne e77160 (Or.inr (by decide))).trans ((jw_ne e77134 (Or.inl (by decide))).trans ((jw_ne e77132 (Or.inl (by decide))).trans ((jw_ne e77060 (Or.inl (by decide))).trans ((jw_ne e77058 (Or.inl (by decide))).trans ((jw_ne e77057 (Or.inl (by decide))).trans ((jw_ne e77056 (Or.inl (by decide))).trans ev77051)))))))) (by omega) (by omega) (ci_ok (sz := v77004 + v77048) (show (if bC h (w1 + 1) ≠ 40 ∨ 12 ≤ a2 then rF (w1 + 1) else chL (bC h) (RC h w4 K (q - 1) a3 (a2 + 1)) 4 (w1 + 2) 0 0 1) = chL (bC h) (RC h w4 K (q - 1) a3 (a2 + 1)) ((4 - x5).toNat - 1) (v77045 + 1) (jor v77005 v77046) (mxD v77006 v77047) (v77004 + v77048) from s177003.trans ((chL_k (show 1 < (4 - x5).toNat by omega) ev77011 (by omega) ((bC_at (p := v77011) k77160 (fun _ => rfl) ew0 (((jw_ne e77160 (Or.inl (by decide))).trans ((jw_ne e77134 (Or.inl (by decide))).trans ((jw_ne e77132 (Or.inl (by decide))).trans ((jw_ne e77060 (Or.inl (by decide))).trans ((jw_ne e77058 (Or.inl (by decide))).trans ((jw_ne e77057 (Or.inl (by decide))).trans ((jw_ne e77056 (Or.inl (by decide))).trans ((kk77042.v rfl).trans ((jw_ne e77041 (Or.inl (by decide))).trans ev77024)))))))))) (by omega) (by omega)).trans (by omega)) (by rw [eQ77044]; show 0 ≤ v77045; omega) (by rw [eQ77044]; exact (bC_at (p := v77045) k77160 (fun _ => rfl) ew0 (((jw_ne e77160 (Or.inl (by decide))).trans ev77143)) (by omega) (by omega)).trans (by omega))).trans (by rw [eQ77044]))) (by omega) (by omega) (by omega) (by omega) (((jw_ne e77160 (Or.inl (by decide))).trans ((jw_ne e77134 (Or.inl (by decide))).trans ((jw_ne e77132 (Or.inl (by decide))).trans (jw_eq e77060))))) (ev77059).symm (((jw_ne e77160 (Or.inl (by decide))).trans ((jw_ne e77134 (Or.inl (by decide))).trans (jw_eq e77132)))) (by unfold mxD; split <;> omega) (((jw_ne e77160 (Or.inl (by decide))).trans (jw_eq e77134))) (mn_of s277003 ev77049 (by omega) (by omega) (by omega)) (by omega) (by omega) (by omega)) ((FrN.wr (i := x4) (FrN.wr (i := x4) (FrN.wr (i := x4) ((((FrN.tr ((H1.kp kk77008 (fun _ => rfl) (fun _ => rfl) (fun _ => rfl)).wn e77041 (by decide)) X77044.1 (by omega)).wn e77056 (by decide)).wn e77057 (by decide)).wn e77058 (by decide)) e77060 (Or.inr (by omega))) e77132 (Or.inr (by omega))) e77134 (Or.inr (by omega))).wn e77160 (by decide)) (by omega)
                      · refine ev_goto f78_100 ?_
                        refine ev_aload_n rfl ?_
                        refine ev_bipush ?_
                        refine ev_in (d := (d + 2)) (a := 0) (b := 0) (cd' := c71_0) (m := 2) (L0 := [(2, 7), (0, 41)]) (jcall_v (A := [(0, 41)]) (S' := []) (r := 7) rfl (g77134.lt ad7) (g77134.tg ad7) (Nat.le_of_ble_eq_true rfl)) (by decide) ml71 pp71 (Nat.le_of_ble_eq_true rfl) rfl (by decide) (by decide) ?_
                        refine ev_aload_n rfl ?_
                        refine g_getv (r := 7) (v := (-1)) g77134 ad7 (by decide) ft5_1 (((jw_ne e77134 (Or.inl (by decide))).trans ((jw_ne e77132 (Or.inl (by decide))).trans ((jw_ne e77060 (Or.inl (by decide))).trans ((jw_ne e77058 (Or.inl (by decide))).trans ((jw_ne e77057 (Or.inl (by decide))).trans ((jw_ne e77056 (Or.inl (by decide))).trans c277044))))))) ?_
                        refine ev_iflt f71_8 (fun c77161 => ?_) (fun c77161 => absurd c77161 (by omega))
                        refine ev_aload_n rfl ?_
                        refine ev_in (d := (d + 1)) (a := 0) (b := 0) (cd' := c68_0) (m := 1) (L0 := [(2, 7)]) (jcall_v (A := []) (S' := []) (r := 7) rfl (g77134.lt ad7) (g77134.tg ad7) (Nat.le_of_ble_eq_true rfl)) (by decide) ml68 pp68 (Nat.le_of_ble_eq_true rfl) rfl (by decide) (by decide) ?_
                        refine ev_aload_n rfl ?_
                        refine g_getv (r := 7) (v := v77045) g77134 ad7 (by decide) ft5_2 (((jw_ne e77134 (Or.inl (by decide))).trans ((jw_ne e77132 (Or.inl (by decide))).trans ((jw_ne e77060 (Or.inl (by decide))).trans ((jw_ne e77058 (Or.inl (by decide))).trans ((jw_ne e77057 (Or.inl (by decide))).trans ((jw_ne e77056 (Or.inl (by decide))).trans c377044))))))) ?_
                        refine ev_aload_n rfl ?_
                        refine g_getv (r := 7) (v := w0) g77134 ad7 (by decide) ft5_0 (((jw_ne e77134 (Or.inl (by decide))).trans ((jw_ne e77132 (Or.inl (by decide))).trans ((jw_ne e77060 (Or.inl (by decide))).trans ((jw_ne e77058 (Or.inl (by decide))).trans ((jw_ne e77057 (Or.inl (by decide))).trans ((jw_ne e77056 (Or.inl (by decide))).trans ((kk77042.v (by decide)).trans ((jw_ne e77041 (Or.inr (by decide))).trans ((kk77008.v (by decide)).trans ((k1.v (by decide)).trans ew0))))))))))) ?_
                        refine ev_icmpge f68_27 (fun c77162 => absurd c77162 (by omega)) (fun c77162 => ?_)
                        refine ev_aload_n rfl ?_
                        refine g_getp (r := 7) (c := 8) g77134 ad7 (by decide) (by decide) rf7_5 ft5_5 ?_
                        refine ev_aload_n rfl ?_
                        refine g_getv (r := 7) (v := v77045) g77134 ad7 (by decide) ft5_2 (((jw_ne e77134 (Or.inl (by decide))).trans ((jw_ne e77132 (Or.inl (by decide))).trans ((jw_ne e77060 (Or.inl (by decide))).trans ((jw_ne e77058 (Or.inl (by decide))).trans ((jw_ne e77057 (Or.inl (by decide))).trans ((jw_ne e77056 (Or.inl (by decide))).trans c377044))))))) ?_
                        refine g_baldv (v := v77143) g77134 ad8 (by omega) (by omega) (ev77143) ?_
                        refine ev_sipush ?_
                        refine g_iandB (b := 255) (by omega) (by omega) (by decide) (fun v77163 ev77163 lv77163 uv77163 => ?_)
                        obtain rfl : v77144 = v77163 := by omega
                        refine ev_goto f68_28 ?_
                        refine ev_ret rfl (by decide) (by decide) ?_
                        show jEv _ _ _ _ _ _ _ (_, [(2, 7), (0, 41)], [(0, v77144)], _, _, _)
                        refine ev_iload_n rfl ?_
                        refine ev_icmpne f71_29 (fun c77164 => ?_) (fun c77164 => absurd c77164 (by omega))
                        refine ev_aload_n rfl ?_
                        refine ev_in (d := (d + 1)) (a := 0) (b := 0) (cd' := c70_0) (m := 1) (L0 := [(2, 7)]) (jcall_v (A := []) (S' := []) (r := 7) rfl (g77134.lt ad7) (g77134.tg ad7) (Nat.le_of_ble_eq_true rfl)) (by decide) ml70 pp70 (Nat.le_of_ble_eq_true rfl) rfl (by decide) (by decide) ?_
                        refine ev_aload_n rfl ?_
                        refine g_getv (r := 7) (v := (-1)) g77134 ad7 (by decide) ft5_1 (((jw_ne e77134 (Or.inl (by decide))).trans ((jw_ne e77132 (Or.inl (by decide))).trans ((jw_ne e77060 (Or.inl (by decide))).trans ((jw_ne e77058 (Or.inl (by decide))).trans ((jw_ne e77057 (Or.inl (by decide))).trans ((jw_ne e77056 (Or.inl (by decide))).trans c277044))))))) ?_
                        refine ev_ifge f70_15 (fun c77165 => absurd c77165 (by omega)) (fun c77165 => ?_)
                        refine ev_aload_n rfl ?_
                        refine ev_aload_n rfl ?_
                        refine g_getv (r := 7) (v := v77045) g77134 ad7 (by decide) ft5_2 (((jw_ne e77134 (Or.inl (by decide))).trans ((jw_ne e77132 (Or.inl (by decide))).trans ((jw_ne e77060 (Or.inl (by decide))).trans ((jw_ne e77058 (Or.inl (by decide))).trans ((jw_ne e77057 (Or.inl (by decide))).trans ((jw_ne e77056 (Or.inl (by decide))).trans c377044))))))) ?_
                        refine g_putf (r := 7) g77134 ad7 (by decide) ft5_1 (by decide) (fun e => absurd e nz5_1) rf7_1 (by decide) (by omega) (by omega) (fun h77166 e77166 g77166 => ?_)
                        have k77166 := k77134.wr e77166 rfl
                        refine ev_ret rfl (by decide) (by decide) ?_
                        show jEv _ _ _ _ _ _ _ (_, [(2, 7), (0, 41)], [], _, _, _)
                        refine ev_ret rfl (by decide) (by decide) ?_
                        show jEv _ _ _ _ _ _ _ (_, [(2, 7), (2, 1), (0, a2), (0, a3), (0, x4), (0, x5), (0, v77009)], [], _, _, _)
                        refine ev_aload_n rfl ?_
                        refine g_getv (r := 7) (v := v77045) g77166 ad7 (by decide) ft5_1 ((jw_eq e77166)) ?_
                        refine ev_iflt f78_117 (fun c77167 => absurd c77167 (by omega)) (fun c77167 => ?_)
                        refine ev_iconst ?_
                        refine ev_goto f78_119 ?_
                        exact ev_ret rfl (by decide) (by decide) ⟨_, rfl, g77166, k77166, by omega, by omega, Rp.bad ((FrN.wr (i := x4) (FrN.wr (i := x4) (FrN.wr (i := x4) ((((FrN.tr ((H1.kp kk77008 (fun _ => rfl) (fun _ => rfl) (fun _ => rfl)).wn e77041 (by decide)) X77044.1 (by omega)).wn e77056 (by decide)).wn e77057 (by decide)).wn e77058 (by decide)) e77060 (Or.inr (by omega))) e77132 (Or.inr (by omega))) e77134 (Or.inr (by omega))).wn e77166 (by decide)) (((jw_ne e77166 (Or.inr (by decide))).trans ((jw_ne e77134 (Or.inl (by decide))).trans ((jw_ne e77132 (Or.inl (by decide))).trans ((jw_ne e77060 (Or.inl (by decide))).trans ((jw_ne e77058 (Or.inl (by decide))).trans ((jw_ne e77057 (Or.inl (by decide))).trans ((jw_ne e77056 (Or.inl (by decide))).trans ev77051)))))))) (by omega) (show (if bC h (w1 + 1) ≠ 40 ∨ 12 ≤ a2 then rF (w1 + 1) else chL (bC h) (RC h w4 K (q - 1) a3 (a2 + 1)) 4 (w1 + 2) 0 0 1) = rF v77045 from s177003.trans ((chL_x (show 0 < (4 - x5).toNat by omega) ev77011 (by omega) ((bC_at (p := v77011) k77166 (fun _ => rfl) ew0 (((jw_ne e77166 (Or.inl (by decide))).trans ((jw_ne e77134 (Or.inl (by decide))).trans ((jw_ne e77132 (Or.inl (by decide))).trans ((jw_ne e77060 (Or.inl (by decide))).trans ((jw_ne e77058 (Or.inl (by decide))).trans ((jw_ne e77057 (Or.inl (by decide))).trans ((jw_ne e77056 (Or.inl (by decide))).trans ((kk77042.v rfl).trans ((jw_ne e77041 (Or.inl (by decide))).trans ev77024)))))))))) (by omega) (by omega)).trans (by omega)) (by rw [eQ77044]; show 0 ≤ v77045; omega) (by rw [eQ77044]; exact fun z => absurd ((bC_at (p := v77045) k77166 (fun _ => rfl) ew0 (((jw_ne e77166 (Or.inl (by decide))).trans ev77143)) (by omega) (by omega)).symm.trans z) (by omega)) (by rw [eQ77044]; show bC h v77045 ≠ 44 ∨ _; rw [(bC_at (p := v77045) k77166 (fun _ => rfl) ew0 (((jw_ne e77166 (Or.inl (by decide))).trans ev77143)) (by omega) (by omega))]; omega)).trans (by rw [eQ77044]))) (by omega) ((jw_eq e77166)) (by omega)⟩
                · refine ev_iload_n rfl ?_
                  refine ev_goto f381_10 ?_
                  refine ev_ret rfl (by decide) (by decide) ?_
                  show jEv _ _ _ _ _ _ _ (_, [(2, 7), (0, x4), (0, x5), (0, v77009), (0, v77043)], [(0, 1000), (0, x4), (2, 17)], _, _, _)
                  refine g_iast g77132 ad17 rt17 (fun _ => rfl) (by omega) (by omega) (by omega) (by omega) (fun h77168 e77168 g77168 => ?_)
                  have k77168 := k77132.wr e77168 rfl
                  refine ev_ret rfl (by decide) (by decide) ?_
                  show jEv _ _ _ _ _ _ _ (_, [(2, 7), (2, 1), (0, a2), (0, a3), (0, x4), (0, x5), (0, v77009)], [], _, _, _)
                  refine ev_aload_n rfl ?_
                  refine ev_in (d := (d + 2)) (a := 0) (b := 0) (cd' := c68_0) (m := 1) (L0 := [(2, 7)]) (jcall_v (A := []) (S' := []) (r := 7) rfl (g77168.lt ad7) (g77168.tg ad7) (Nat.le_of_ble_eq_true rfl)) (by decide) ml68 pp68 (Nat.le_of_ble_eq_true rfl) rfl (by decide) (by decide) ?_
                  refine ev_aload_n rfl ?_
                  refine g_getv (r := 7) (v := v77045) g77168 ad7 (by decide) ft5_2 (((jw_ne e77168 (Or.inl (by decide))).trans ((jw_ne e77132 (Or.inl (by decide))).trans ((jw_ne e77060 (Or.inl (by decide))).trans ((jw_ne e77058 (Or.inl (by decide))).trans ((jw_ne e77057 (Or.inl (by decide))).trans ((jw_ne e77056 (Or.inl (by decide))).trans c377044))))))) ?_
                  refine ev_aload_n rfl ?_
                  refine g_getv (r := 7) (v := w0) g77168 ad7 (by decide) ft5_0 (((jw_ne e77168 (Or.inl (by decide))).trans ((jw_ne e77132 (Or.inl (by decide))).trans ((jw_ne e77060 (Or.inl (by decide))).trans ((jw_ne e77058 (Or.inl (by decide))).trans ((jw_ne e77057 (Or.inl (by decide))).trans ((jw_ne e77056 (Or.inl (by decide))).trans ((kk77042.v (by decide)).trans ((jw_ne e77041 (Or.inr (by decide))).trans ((kk77008.v (by decide)).trans ((k1.v (by decide)).trans ew0))))))))))) ?_
                  refine ev_icmpge f68_27 (fun c77169 => ?_) (fun c77169 => ?_)
                  · refine ev_iconst ?_
                    refine ev_ret rfl (by decide) (by decide) ?_
                    show jEv _ _ _ _ _ _ _ (_, [(2, 7), (2, 1), (0, a2), (0, a3), (0, x4), (0, x5), (0, v77009)], [(0, (-1))], _, _, _)
                    refine ev_bipush ?_
                    refine ev_icmpne f78_100 (fun c77170 => ?_) (fun c77170 => absurd c77170 (by omega))
                    refine ev_aload_n rfl ?_
                    refine ev_bipush ?_
                    refine ev_in (d := (d + 2)) (a := 0) (b := 0) (cd' := c71_0) (m := 2) (L0 := [(2, 7), (0, 41)]) (jcall_v (A := [(0, 41)]) (S' := []) (r := 7) rfl (g77168.lt ad7) (g77168.tg ad7) (Nat.le_of_ble_eq_true rfl)) (by decide) ml71 pp71 (Nat.le_of_ble_eq_true rfl) rfl (by decide) (by decide) ?_
                    refine ev_aload_n rfl ?_
                    refine g_getv (r := 7) (v := (-1)) g77168 ad7 (by decide) ft5_1 (((jw_ne e77168 (Or.inl (by decide))).trans ((jw_ne e77132 (Or.inl (by decide))).trans ((jw_ne e77060 (Or.inl (by decide))).trans ((jw_ne e77058 (Or.inl (by decide))).trans ((jw_ne e77057 (Or.inl (by decide))).trans ((jw_ne e77056 (Or.inl (by decide))).trans c277044))))))) ?_
                    refine ev_iflt f71_8 (fun c77171 => ?_) (fun c77171 => absurd c77171 (by omega))
                    refine ev_aload_n rfl ?_
                    refine ev_in (d := (d + 1)) (a := 0) (b := 0) (cd' := c68_0) (m := 1) (L0 := [(2, 7)]) (jcall_v (A := []) (S' := []) (r := 7) rfl (g77168.lt ad7) (g77168.tg ad7) (Nat.le_of_ble_eq_true rfl)) (by decide) ml68 pp68 (Nat.le_of_ble_eq_true rfl) rfl (by decide) (by decide) ?_
                    refine ev_aload_n rfl ?_
                    refine g_getv (r := 7) (v := v77045) g77168 ad7 (by decide) ft5_2 (((jw_ne e77168 (Or.inl (by decide))).trans ((jw_ne e77132 (Or.inl (by decide))).trans ((jw_ne e77060 (Or.inl (by decide))).trans ((jw_ne e77058 (Or.inl (by decide))).trans ((jw_ne e77057 (Or.inl (by decide))).trans ((jw_ne e77056 (Or.inl (by decide))).trans c377044))))))) ?_
                    refine ev_aload_n rfl ?_
                    refine g_getv (r := 7) (v := w0) g77168 ad7 (by decide) ft5_0 (((jw_ne e77168 (Or.inl (by decide))).trans ((jw_ne e77132 (Or.inl (by decide))).trans ((jw_ne e77060 (Or.inl (by decide))).trans ((jw_ne e77058 (Or.inl (by decide))).trans ((jw_ne e77057 (Or.inl (by decide))).trans ((jw_ne e77056 (Or.inl (by decide))).trans ((kk77042.v (by decide)).trans ((jw_ne e77041 (Or.inr (by decide))).trans ((kk77008.v (by decide)).trans ((k1.v (by decide)).trans ew0))))))))))) ?_
                    refine ev_icmpge f68_27 (fun c77172 => ?_) (fun c77172 => absurd c77172 (by omega))
                    refine ev_iconst ?_
                    refine ev_ret rfl (by decide) (by decide) ?_
                    show jEv _ _ _ _ _ _ _ (_, [(2, 7), (0, 41)], [(0, (-1))], _, _, _)
                    refine ev_iload_n rfl ?_
                    refine ev_icmpne f71_29 (fun c77173 => ?_) (fun c77173 => absurd c77173 (by omega))
                    refine ev_aload_n rfl ?_
                    refine ev_in (d := (d + 1)) (a := 0) (b := 0) (cd' := c70_0) (m := 1) (L0 := [(2, 7)]) (jcall_v (A := []) (S' := []) (r := 7) rfl (g77168.lt ad7) (g77168.tg ad7) (Nat.le_of_ble_eq_true rfl)) (by decide) ml70 pp70 (Nat.le_of_ble_eq_true rfl) rfl (by decide) (by decide) ?_
                    refine ev_aload_n rfl ?_
                    refine g_getv (r := 7) (v := (-1)) g77168 ad7 (by decide) ft5_1 (((jw_ne e77168 (Or.inl (by decide))).trans ((jw_ne e77132 (Or.inl (by decide))).trans ((jw_ne e77060 (Or.inl (by decide))).trans ((jw_ne e77058 (Or.inl (by decide))).trans ((jw_ne e77057 (Or.inl (by decide))).trans ((jw_ne e77056 (Or.inl (by decide))).trans c277044))))))) ?_
                    refine ev_ifge f70_15 (fun c77174 => absurd c77174 (by omega)) (fun c77174 => ?_)
                    refine ev_aload_n rfl ?_
                    refine ev_aload_n rfl ?_
                    refine g_getv (r := 7) (v := v77045) g77168 ad7 (by decide) ft5_2 (((jw_ne e77168 (Or.inl (by decide))).trans ((jw_ne e77132 (Or.inl (by decide))).trans ((jw_ne e77060 (Or.inl (by decide))).trans ((jw_ne e77058 (Or.inl (by decide))).trans ((jw_ne e77057 (Or.inl (by decide))).trans ((jw_ne e77056 (Or.inl (by decide))).trans c377044))))))) ?_
                    refine g_putf (r := 7) g77168 ad7 (by decide) ft5_1 (by decide) (fun e => absurd e nz5_1) rf7_1 (by decide) (by omega) (by omega) (fun h77175 e77175 g77175 => ?_)
                    have k77175 := k77168.wr e77175 rfl
                    refine ev_ret rfl (by decide) (by decide) ?_
                    show jEv _ _ _ _ _ _ _ (_, [(2, 7), (0, 41)], [], _, _, _)
                    refine ev_ret rfl (by decide) (by decide) ?_
                    show jEv _ _ _ _ _ _ _ (_, [(2, 7), (2, 1), (0, a2), (0, a3), (0, x4), (0, x5), (0, v77009)], [], _, _, _)
                    refine ev_aload_n rfl ?_
                    refine g_getv (r := 7) (v := v77045) g77175 ad7 (by decide) ft5_1 ((jw_eq e77175)) ?_
                    refine ev_iflt f78_117 (fun c77176 => absurd c77176 (by omega)) (fun c77176 => ?_)
                    refine ev_iconst ?_
                    refine ev_goto f78_119 ?_
                    exact ev_ret rfl (by decide) (by decide) ⟨_, rfl, g77175, k77175, by omega, by omega, Rp.bad ((FrN.wr (i := x4) (FrN.wr (i := x4) (FrN.wr (i := x4) ((((FrN.tr ((H1.kp kk77008 (fun _ => rfl) (fun _ => rfl) (fun _ => rfl)).wn e77041 (by decide)) X77044.1 (by omega)).wn e77056 (by decide)).wn e77057 (by decide)).wn e77058 (by decide)) e77060 (Or.inr (by omega))) e77132 (Or.inr (by omega))) e77168 (Or.inr (by omega))).wn e77175 (by decide)) (((jw_ne e77175 (Or.inr (by decide))).trans ((jw_ne e77168 (Or.inl (by decide))).trans ((jw_ne e77132 (Or.inl (by decide))).trans ((jw_ne e77060 (Or.inl (by decide))).trans ((jw_ne e77058 (Or.inl (by decide))).trans ((jw_ne e77057 (Or.inl (by decide))).trans ((jw_ne e77056 (Or.inl (by decide))).trans ev77051)))))))) (by omega) (show (if bC h (w1 + 1) ≠ 40 ∨ 12 ≤ a2 then rF (w1 + 1) else chL (bC h) (RC h w4 K (q - 1) a3 (a2 + 1)) 4 (w1 + 2) 0 0 1) = rF v77045 from s177003.trans ((chL_x (show 0 < (4 - x5).toNat by omega) ev77011 (by omega) ((bC_at (p := v77011) k77175 (fun _ => rfl) ew0 (((jw_ne e77175 (Or.inl (by decide))).trans ((jw_ne e77168 (Or.inl (by decide))).trans ((jw_ne e77132 (Or.inl (by decide))).trans ((jw_ne e77060 (Or.inl (by decide))).trans ((jw_ne e77058 (Or.inl (by decide))).trans ((jw_ne e77057 (Or.inl (by decide))).trans ((jw_ne e77056 (Or.inl (by decide))).trans ((kk77042.v rfl).trans ((jw_ne e77041 (Or.inl (by decide))).trans ev77024)))))))))) (by omega) (by omega)).trans (by omega)) (by rw [eQ77044]; show 0 ≤ v77045; omega) (by rw [eQ77044]; exact fun z => absurd ((bC_end (p := v77045) ew0 (by omega)).symm.trans z) (by omega)) (by rw [eQ77044]; show bC h v77045 ≠ 44 ∨ _; rw [(bC_end (p := v77045) ew0 (by omega))]; omega)).trans (by rw [eQ77044]))) (by omega) ((jw_eq e77175)) (by omega)⟩
                  · refine ev_aload_n rfl ?_
                    refine g_getp (r := 7) (c := 8) g77168 ad7 (by decide) (by decide) rf7_5 ft5_5 ?_
                    refine ev_aload_n rfl ?_
                    refine g_getv (r := 7) (v := v77045) g77168 ad7 (by decide) ft5_2 (((jw_ne e77168 (Or.inl (by decide))).trans ((jw_ne e77132 (Or.inl (by decide))).trans ((jw_ne e77060 (Or.inl (by decide))).trans ((jw_ne e77058 (Or.inl (by decide))).trans ((jw_ne e77057 (Or.inl (by decide))).trans ((jw_ne e77056 (Or.inl (by decide))).trans c377044))))))) ?_
                    refine g_bald g77168 ad8 rt8 (by omega) (by omega) (fun v77177 ev77177 lv77177 uv77177 => ?_)
                    refine ev_sipush ?_
                    refine g_iandB (b := 255) (by omega) (by omega) (by decide) (fun v77178 ev77178 lv77178 uv77178 => ?_)
                    have zv77178 := sgn ev77178 (by omega) (by omega)
                    refine ev_goto f68_28 ?_
                    refine ev_ret rfl (by decide) (by decide) ?_
                    show jEv _ _ _ _ _ _ _ (_, [(2, 7), (2, 1), (0, a2), (0, a3), (0, x4), (0, x5), (0, v77009)], [(0, v77178)], _, _, _)
                    refine ev_bipush ?_
                    refine ev_icmpne f78_100 (fun c77179 => ?_) (fun c77179 => ?_)
                    · refine ev_aload_n rfl ?_
                      refine ev_bipush ?_
                      refine ev_in (d := (d + 2)) (a := 0) (b := 0) (cd' := c71_0) (m := 2) (L0 := [(2, 7), (0, 41)]) (jcall_v (A := [(0, 41)]) (S' := []) (r := 7) rfl (g77168.lt ad7) (g77168.tg ad7) (Nat.le_of_ble_eq_true rfl)) (by decide) ml71 pp71 (Nat.le_of_ble_eq_true rfl) rfl (by decide) (by decide) ?_
                      refine ev_aload_n rfl ?_
                      refine g_getv (r := 7) (v := (-1)) g77168 ad7 (by decide) ft5_1 (((jw_ne e77168 (Or.inl (by decide))).trans ((jw_ne e77132 (Or.inl (by decide))).trans ((jw_ne e77060 (Or.inl (by decide))).trans ((jw_ne e77058 (Or.inl (by decide))).trans ((jw_ne e77057 (Or.inl (by decide))).trans ((jw_ne e77056 (Or.inl (by decide))).trans c277044))))))) ?_
                      refine ev_iflt f71_8 (fun c77180 => ?_) (fun c77180 => absurd c77180 (by omega))
                      refine ev_aload_n rfl ?_
                      refine ev_in (d := (d + 1)) (a := 0) (b := 0) (cd' := c68_0) (m := 1) (L0 := [(2, 7)]) (jcall_v (A := []) (S' := []) (r := 7) rfl (g77168.lt ad7) (g77168.tg ad7) (Nat.le_of_ble_eq_true rfl)) (by decide) ml68 pp68 (Nat.le_of_ble_eq_true rfl) rfl (by decide) (by decide) ?_
                      refine ev_aload_n rfl ?_
                      refine g_getv (r := 7) (v := v77045) g77168 ad7 (by decide) ft5_2 (((jw_ne e77168 (Or.inl (by decide))).trans ((jw_ne e77132 (Or.inl (by decide))).trans ((jw_ne e77060 (Or.inl (by decide))).trans ((jw_ne e77058 (Or.inl (by decide))).trans ((jw_ne e77057 (Or.inl (by decide))).trans ((jw_ne e77056 (Or.inl (by decide))).trans c377044))))))) ?_
                      refine ev_aload_n rfl ?_
                      refine g_getv (r := 7) (v := w0) g77168 ad7 (by decide) ft5_0 (((jw_ne e77168 (Or.inl (by decide))).trans ((jw_ne e77132 (Or.inl (by decide))).trans ((jw_ne e77060 (Or.inl (by decide))).trans ((jw_ne e77058 (Or.inl (by decide))).trans ((jw_ne e77057 (Or.inl (by decide))).trans ((jw_ne e77056 (Or.inl (by decide))).trans ((kk77042.v (by decide)).trans ((jw_ne e77041 (Or.inr (by decide))).trans ((kk77008.v (by decide)).trans ((k1.v (by decide)).trans ew0))))))))))) ?_
                      refine ev_icmpge f68_27 (fun c77181 => absurd c77181 (by omega)) (fun c77181 => ?_)
                      refine ev_aload_n rfl ?_
                      refine g_getp (r := 7) (c := 8) g77168 ad7 (by decide) (by decide) rf7_5 ft5_5 ?_
                      refine ev_aload_n rfl ?_
                      refine g_getv (r := 7) (v := v77045) g77168 ad7 (by decide) ft5_2 (((jw_ne e77168 (Or.inl (by decide))).trans ((jw_ne e77132 (Or.inl (by decide))).trans ((jw_ne e77060 (Or.inl (by decide))).trans ((jw_ne e77058 (Or.inl (by decide))).trans ((jw_ne e77057 (Or.inl (by decide))).trans ((jw_ne e77056 (Or.inl (by decide))).trans c377044))))))) ?_
                      refine g_baldv (v := v77177) g77168 ad8 (by omega) (by omega) (ev77177) ?_
                      refine ev_sipush ?_
                      refine g_iandB (b := 255) (by omega) (by omega) (by decide) (fun v77182 ev77182 lv77182 uv77182 => ?_)
                      obtain rfl : v77178 = v77182 := by omega
                      refine ev_goto f68_28 ?_
                      refine ev_ret rfl (by decide) (by decide) ?_
                      show jEv _ _ _ _ _ _ _ (_, [(2, 7), (0, 41)], [(0, v77178)], _, _, _)
                      refine ev_iload_n rfl ?_
                      refine ev_icmpne f71_29 (fun c77183 => ?_) (fun c77183 => ?_)
                      · refine ev_aload_n rfl ?_
                        refine ev_in (d := (d + 1)) (a := 0) (b := 0) (cd' := c70_0) (m := 1) (L0 := [(2, 7)]) (jcall_v (A := []) (S' := []) (r := 7) rfl (g77168.lt ad7) (g77168.tg ad7) (Nat.le_of_ble_eq_true rfl)) (by decide) ml70 pp70 (Nat.le_of_ble_eq_true rfl) rfl (by decide) (by decide) ?_
                        refine ev_aload_n rfl ?_
                        refine g_getv (r := 7) (v := (-1)) g77168 ad7 (by decide) ft5_1 (((jw_ne e77168 (Or.inl (by decide))).trans ((jw_ne e77132 (Or.inl (by decide))).trans ((jw_ne e77060 (Or.inl (by decide))).trans ((jw_ne e77058 (Or.inl (by decide))).trans ((jw_ne e77057 (Or.inl (by decide))).trans ((jw_ne e77056 (Or.inl (by decide))).trans c277044))))))) ?_
                        refine ev_ifge f70_15 (fun c77184 => absurd c77184 (by omega)) (fun c77184 => ?_)
                        refine ev_aload_n rfl ?_
                        refine ev_aload_n rfl ?_
                        refine g_getv (r := 7) (v := v77045) g77168 ad7 (by decide) ft5_2 (((jw_ne e77168 (Or.inl (by decide))).trans ((jw_ne e77132 (Or.inl (by decide))).trans ((jw_ne e77060 (Or.inl (by decide))).trans ((jw_ne e77058 (Or.inl (by decide))).trans ((jw_ne e77057 (Or.inl (by decide))).trans ((jw_ne e77056 (Or.inl (by decide))).trans c377044))))))) ?_
                        refine g_putf (r := 7) g77168 ad7 (by decide) ft5_1 (by decide) (fun e => absurd e nz5_1) rf7_1 (by decide) (by omega) (by omega) (fun h77185 e77185 g77185 => ?_)
                        have k77185 := k77168.wr e77185 rfl
                        refine ev_ret rfl (by decide) (by decide) ?_
                        show jEv _ _ _ _ _ _ _ (_, [(2, 7), (0, 41)], [], _, _, _)
                        refine ev_ret rfl (by decide) (by decide) ?_
                        show jEv _ _ _ _ _ _ _ (_, [(2, 7), (2, 1), (0, a2), (0, a3), (0, x4), (0, x5), (0, v77009)], [], _, _, _)
                        refine ev_aload_n rfl ?_
                        refine g_getv (r := 7) (v := v77045) g77185 ad7 (by decide) ft5_1 ((jw_eq e77185)) ?_
                        refine ev_iflt f78_117 (fun c77186 => absurd c77186 (by omega)) (fun c77186 => ?_)
                        refine ev_iconst ?_
                        refine ev_goto f78_119 ?_
                        exact ev_ret rfl (by decide) (by decide) ⟨_, rfl, g77185, k77185, by omega, by omega, Rp.bad ((FrN.wr (i := x4) (FrN.wr (i := x4) (FrN.wr (i := x4) ((((FrN.tr ((H1.kp kk77008 (fun _ => rfl) (fun _ => rfl) (fun _ => rfl)).wn e77041 (by decide)) X77044.1 (by omega)).wn e77056 (by decide)).wn e77057 (by decide)).wn e77058 (by decide)) e77060 (Or.inr (by omega))) e77132 (Or.inr (by omega))) e77168 (Or.inr (by omega))).wn e77185 (by decide)) (((jw_ne e77185 (Or.inr (by decide))).trans ((jw_ne e77168 (Or.inl (by decide))).trans ((jw_ne e77132 (Or.inl (by decide))).trans ((jw_ne e77060 (Or.inl (by decide))).trans ((jw_ne e77058 (Or.inl (by decide))).trans ((jw_ne e77057 (Or.inl (by decide))).trans ((jw_ne e77056 (Or.inl (by decide))).trans ev77051)))))))) (by omega) (show (if bC h (w1 + 1) ≠ 40 ∨ 12 ≤ a2 then rF (w1 + 1) else chL (bC h) (RC h w4 K (q - 1) a3 (a2 + 1)) 4 (w1 + 2) 0 0 1) = rF v77045 from s177003.trans ((chL_x (show 0 < (4 - x5).toNat by omega) ev77011 (by omega) ((bC_at (p := v77011) k77185 (fun _ => rfl) ew0 (((jw_ne e77185 (Or.inl (by decide))).trans ((jw_ne e77168 (Or.inl (by decide))).trans ((jw_ne e77132 (Or.inl (by decide))).trans ((jw_ne e77060 (Or.inl (by decide))).trans ((jw_ne e77058 (Or.inl (by decide))).trans ((jw_ne e77057 (Or.inl (by decide))).trans ((jw_ne e77056 (Or.inl (by decide))).trans ((kk77042.v rfl).trans ((jw_ne e77041 (Or.inl (by decide))).trans ev77024)))))))))) (by omega) (by omega)).trans (by omega)) (by rw [eQ77044]; show 0 ≤ v77045; omega) (by rw [eQ77044]; exact fun z => absurd ((bC_at (p := v77045) k77185 (fun _ => rfl) ew0 (((jw_ne e77185 (Or.inl (by decide))).trans ev77177)) (by omega) (by omega)).symm.trans z) (by omega)) (by rw [eQ77044]; show bC h v77045 ≠ 44 ∨ _; rw [(bC_at (p := v77045) k77185 (fun _ => rfl) ew0 (((jw_ne e77185 (Or.inl (by decide))).trans ev77177)) (by omega) (by omega))]; omega)).trans (by rw [eQ77044]))) (by omega) ((jw_eq e77185)) (by omega)⟩
                      · refine ev_aload_n rfl ?_
                        refine ev_dup (by decide) ?_
                        refine g_getv (r := 7) (v := v77045) g77168 ad7 (by decide) ft5_2 (((jw_ne e77168 (Or.inl (by decide))).trans ((jw_ne e77132 (Or.inl (by decide))).trans ((jw_ne e77060 (Or.inl (by decide))).trans ((jw_ne e77058 (Or.inl (by decide))).trans ((jw_ne e77057 (Or.inl (by decide))).trans ((jw_ne e77056 (Or.inl (by decide))).trans c377044))))))) ?_
                        refine ev_iconst ?_
                        refine ev_iadd (r := (v77045 + 1)) (by unfold w32; omega) ?_
                        refine g_putf (r := 7) g77168 ad7 (by decide) ft5_2 (by decide) (fun e => absurd e nz5_2) rf7_2 (by decide) (by omega) (by omega) (fun h77187 e77187 g77187 => ?_)
                        have k77187 := k77168.wr e77187 rfl
                        refine ev_goto f71_33 ?_
                        refine ev_ret rfl (by decide) (by decide) ?_
                        show jEv _ _ _ _ _ _ _ (_, [(2, 7), (2, 1), (0, a2), (0, a3), (0, x4), (0, x5), (0, v77009)], [], _, _, _)
                        refine ev_aload_n rfl ?_
                        refine g_getv (r := 7) (v := (-1)) g77187 ad7 (by decide) ft5_1 (((jw_ne e77187 (Or.inr (by decide))).trans ((jw_ne e77168 (Or.inl (by decide))).trans ((jw_ne e77132 (Or.inl (by decide))).trans ((jw_ne e77060 (Or.inl (by decide))).trans ((jw_ne e77058 (Or.inl (by decide))).trans ((jw_ne e77057 (Or.inl (by decide))).trans ((jw_ne e77056 (Or.inl (by decide))).trans c277044)))))))) ?_
                        refine ev_iflt f78_117 (fun c77188 => ?_) (fun c77188 => absurd c77188 (by omega))
                        refine ev_iload rfl ?_
                        exact ev_ret rfl (by decide) (by decide) ⟨_, rfl, g77187, k77187, by omega, by omega, Rp.good ((FrN.wr (i := x4) (FrN.wr (i := x4) (FrN.wr (i := x4) ((((FrN.tr ((H1.kp kk77008 (fun _ => rfl) (fun _ => rfl) (fun _ => rfl)).wn e77041 (by decide)) X77044.1 (by omega)).wn e77056 (by decide)).wn e77057 (by decide)).wn e77058 (by decide)) e77060 (Or.inr (by omega))) e77132 (Or.inr (by omega))) e77168 (Or.inr (by omega))).wn e77187 (by decide)) (((jw_ne e77187 (Or.inr (by decide))).trans ((jw_ne e77168 (Or.inl (by decide))).trans ((jw_ne e77132 (Or.inl (by decide))).trans ((jw_ne e77060 (Or.inl (by decide))).trans ((jw_ne e77058 (Or.inl (by decide))).trans ((jw_ne e77057 (Or.inl (by decide))).trans ((jw_ne e77056 (Or.inl (by decide))).trans ev77051)))))))) (by omega) (show (if bC h (w1 + 1) ≠ 40 ∨ 12 ≤ a2 then rF (w1 + 1) else chL (bC h) (RC h w4 K (q - 1) a3 (a2 + 1)) 4 (w1 + 2) 0 0 1) = (v77045 + 1, jor v77005 v77046, mxD v77006 v77047, v77004 + v77048) from s177003.trans ((chL_e (show 0 < (4 - x5).toNat by omega) ev77011 (by omega) ((bC_at (p := v77011) k77187 (fun _ => rfl) ew0 (((jw_ne e77187 (Or.inl (by decide))).trans ((jw_ne e77168 (Or.inl (by decide))).trans ((jw_ne e77132 (Or.inl (by decide))).trans ((jw_ne e77060 (Or.inl (by decide))).trans ((jw_ne e77058 (Or.inl (by decide))).trans ((jw_ne e77057 (Or.inl (by decide))).trans ((jw_ne e77056 (Or.inl (by decide))).trans ((kk77042.v rfl).trans ((jw_ne e77041 (Or.inl (by decide))).trans ev77024)))))))))) (by omega) (by omega)).trans (by omega)) (by rw [eQ77044]; show 0 ≤ v77045; omega) (by rw [eQ77044]; exact (bC_at (p := v77045) k77187 (fun _ => rfl) ew0 (((jw_ne e77187 (Or.inl (by decide))).trans ev77177)) (by omega) (by omega)).trans (by omega))).trans (by rw [eQ77044]))) (by omega) (((jw_ne e77187 (Or.inr (by decide))).trans ((jw_ne e77168 (Or.inl (by decide))).trans ((jw_ne e77132 (Or.inl (by decide))).trans ((jw_ne e77060 (Or.inl (by decide))).trans ((jw_ne e77058 (Or.inl (by decide))).trans ((jw_ne e77057 (Or.inl (by decide))).trans ((jw_ne e77056 (Or.inl (by decide))).trans c277044)))))))) ((jw_eq e77187)) (by omega) (by omega) (by omega) (by omega) (((jw_ne e77187 (Or.inl (by decide))).trans ((jw_ne e77168 (Or.inl (by decide))).trans ((jw_ne e77132 (Or.inl (by decide))).trans (jw_eq e77060))))) (ev77059).symm (((jw_ne e77187 (Or.inl (by decide))).trans ((jw_ne e77168 (Or.inl (by decide))).trans (jw_eq e77132)))) (by unfold mxD; split <;> omega) (((jw_ne e77187 (Or.inl (by decide))).trans (jw_eq e77168))) (mn_of s277003 ev77049 (by omega) (by omega) (by omega))⟩
                    · refine ev_iload rfl ?_
                      refine ev_iconst ?_
                      refine ev_icmpne f78_88 (fun c77189 => ?_) (fun c77189 => ?_)
                      · refine ev_aload_n rfl ?_
                        refine ev_bipush ?_
                        refine ev_in (d := (d + 2)) (a := 0) (b := 0) (cd' := c71_0) (m := 2) (L0 := [(2, 7), (0, 44)]) (jcall_v (A := [(0, 44)]) (S' := []) (r := 7) rfl (g77168.lt ad7) (g77168.tg ad7) (Nat.le_of_ble_eq_true rfl)) (by decide) ml71 pp71 (Nat.le_of_ble_eq_true rfl) rfl (by decide) (by decide) ?_
                        refine ev_aload_n rfl ?_
                        refine g_getv (r := 7) (v := (-1)) g77168 ad7 (by decide) ft5_1 (((jw_ne e77168 (Or.inl (by decide))).trans ((jw_ne e77132 (Or.inl (by decide))).trans ((jw_ne e77060 (Or.inl (by decide))).trans ((jw_ne e77058 (Or.inl (by decide))).trans ((jw_ne e77057 (Or.inl (by decide))).trans ((jw_ne e77056 (Or.inl (by decide))).trans c277044))))))) ?_
                        refine ev_iflt f71_8 (fun c77190 => ?_) (fun c77190 => absurd c77190 (by omega))
                        refine ev_aload_n rfl ?_
                        refine ev_in (d := (d + 1)) (a := 0) (b := 0) (cd' := c68_0) (m := 1) (L0 := [(2, 7)]) (jcall_v (A := []) (S' := []) (r := 7) rfl (g77168.lt ad7) (g77168.tg ad7) (Nat.le_of_ble_eq_true rfl)) (by decide) ml68 pp68 (Nat.le_of_ble_eq_true rfl) rfl (by decide) (by decide) ?_
                        refine ev_aload_n rfl ?_
                        refine g_getv (r := 7) (v := v77045) g77168 ad7 (by decide) ft5_2 (((jw_ne e77168 (Or.inl (by decide))).trans ((jw_ne e77132 (Or.inl (by decide))).trans ((jw_ne e77060 (Or.inl (by decide))).trans ((jw_ne e77058 (Or.inl (by decide))).trans ((jw_ne e77057 (Or.inl (by decide))).trans ((jw_ne e77056 (Or.inl (by decide))).trans c377044))))))) ?_
                        refine ev_aload_n rfl ?_
                        refine g_getv (r := 7) (v := w0) g77168 ad7 (by decide) ft5_0 (((jw_ne e77168 (Or.inl (by decide))).trans ((jw_ne e77132 (Or.inl (by decide))).trans ((jw_ne e77060 (Or.inl (by decide))).trans ((jw_ne e77058 (Or.inl (by decide))).trans ((jw_ne e77057 (Or.inl (by decide))).trans ((jw_ne e77056 (Or.inl (by decide))).trans ((kk77042.v (by decide)).trans ((jw_ne e77041 (Or.inr (by decide))).trans ((kk77008.v (by decide)).trans ((k1.v (by decide)).trans ew0))))))))))) ?_
                        refine ev_icmpge f68_27 (fun c77191 => absurd c77191 (by omega)) (fun c77191 => ?_)
                        refine ev_aload_n rfl ?_
                        refine g_getp (r := 7) (c := 8) g77168 ad7 (by decide) (by decide) rf7_5 ft5_5 ?_
                        refine ev_aload_n rfl ?_
                        refine g_getv (r := 7) (v := v77045) g77168 ad7 (by decide) ft5_2 (((jw_ne e77168 (Or.inl (by decide))).trans ((jw_ne e77132 (Or.inl (by decide))).trans ((jw_ne e77060 (Or.inl (by decide))).trans ((jw_ne e77058 (Or.inl (by decide))).trans ((jw_ne e77057 (Or.inl (by decide))).trans ((jw_ne e77056 (Or.inl (by decide))).trans c377044))))))) ?_
                        refine g_baldv (v := v77177) g77168 ad8 (by omega) (by omega) (ev77177) ?_
                        refine ev_sipush ?_
                        refine g_iandB (b := 255) (by omega) (by omega) (by decide) (fun v77192 ev77192 lv77192 uv77192 => ?_)
                        obtain rfl : v77178 = v77192 := by omega
                        refine ev_goto f68_28 ?_
                        refine ev_ret rfl (by decide) (by decide) ?_
                        show jEv _ _ _ _ _ _ _ (_, [(2, 7), (0, 44)], [(0, v77178)], _, _, _)
                        refine ev_iload_n rfl ?_
                        refine ev_icmpne f71_29 (fun c77193 => absurd c77193 (by omega)) (fun c77193 => ?_)
                        refine ev_aload_n rfl ?_
                        refine ev_dup (by decide) ?_
                        refine g_getv (r := 7) (v := v77045) g77168 ad7 (by decide) ft5_2 (((jw_ne e77168 (Or.inl (by decide))).trans ((jw_ne e77132 (Or.inl (by decide))).trans ((jw_ne e77060 (Or.inl (by decide))).trans ((jw_ne e77058 (Or.inl (by decide))).trans ((jw_ne e77057 (Or.inl (by decide))).trans ((jw_ne e77056 (Or.inl (by decide))).trans c377044))))))) ?_
                        refine ev_iconst ?_
                        refine ev_iadd (r := (v77045 + 1)) (by unfold w32; omega) ?_
                        refine g_putf (r := 7) g77168 ad7 (by decide) ft5_2 (by decide) (fun e => absurd e nz5_2) rf7_2 (by decide) (by omega) (by omega) (fun h77194 e77194 g77194 => ?_)
                        have k77194 := k77168.wr e77194 rfl
                        refine ev_goto f71_33 ?_
                        refine ev_ret rfl (by decide) (by decide) ?_
                        show jEv _ _ _ _ _ _ _ (_, [(2, 7), (2, 1), (0, a2), (0, a3), (0, x4), (0, x5), (0, v77009)], [], _, _, _)
                        refine ev_iinc (w := (x5 + 1)) (L' := [(2, 7), (2, 1), (0, a2), (0, a3), (0, x4), (0, (x5 + 1)), (0, v77009)]) rfl (by unfold w32; omega) rfl ?_
                        refine ev_goto f78_25 ?_
                        exact ih _ _ _ _ _ _ _ g77194 k77194 (by omega) (by omega) (by omega) (by omega) (by omega) (by omega) (by omega) (by omega) (by omega) (by omega) (by omega) (by omega) (((jw_ne e77194 (Or.inr (by decide))).trans ((jw_ne e77168 (Or.inl (by decide))).trans ((jw_ne e77132 (Or.inl (by decide))).trans ((jw_ne e77060 (Or.inl (by decide))).trans ((jw_ne e77058 (Or.inl (by decide))).trans ((jw_ne e77057 (Or.inl (by decide))).trans ((jw_ne e77056 (Or.inl (by decide))).trans c277044)))))))) (by omega) (by omega) ((jw_eq e77194)) (by omega) (by omega) (((jw_ne e77194 (Or.inr (by decide))).trans ((jw_ne e77168 (Or.inl (by decide))).trans ((jw_ne e77132 (Or.inl (by decide))).trans ((jw_ne e77060 (Or.inl (by decide))).trans ((jw_ne e77058 (Or.inl (by decide))).trans ((jw_ne e77057 (Or.inl (by decide))).trans ((jw_ne e77056 (Or.inl (by decide))).trans ev77051)))))))) (by omega) (by omega) (ci_ok (sz := v77004 + v77048) (show (if bC h (w1 + 1) ≠ 40 ∨ 12 ≤ a2 then rF (w1 + 1) else chL (bC h) (RC h w4 K (q - 1) a3 (a2 + 1)) 4 (w1 + 2) 0 0 1) = chL (bC h) (RC h w4 K (q - 1) a3 (a2 + 1)) ((4 - x5).toNat - 1) (v77045 + 1) (jor v77005 v77046) (mxD v77006 v77047) (v77004 + v77048) from s177003.trans ((chL_k (show 1 < (4 - x5).toNat by omega) ev77011 (by omega) ((bC_at (p := v77011) k77194 (fun _ => rfl) ew0 (((jw_ne e77194 (Or.inl (by decide))).trans ((jw_ne e77168 (Or.inl (by decide))).trans ((jw_ne e77132 (Or.inl (by decide))).trans ((jw_ne e77060 (Or.inl (by decide))).trans ((jw_ne e77058 (Or.inl (by decide))).trans ((jw_ne e77057 (Or.inl (by decide))).trans ((jw_ne e77056 (Or.inl (by decide))).trans ((kk77042.v rfl).trans ((jw_ne e77041 (Or.inl (by decide))).trans ev77024)))))))))) (by omega) (by omega)).trans (by omega)) (by rw [eQ77044]; show 0 ≤ v77045; omega) (by rw [eQ77044]; exact (bC_at (p := v77045) k77194 (fun _ => rfl) ew0 (((jw_ne e77194 (Or.inl (by decide))).trans ev77177)) (by omega) (by omega)).trans (by omega))).trans (by rw [eQ77044]))) (by omega) (by omega) (by omega) (by omega) (((jw_ne e77194 (Or.inl (by decide))).trans ((jw_ne e77168 (Or.inl (by decide))).trans ((jw_ne e77132 (Or.inl (by decide))).trans (jw_eq e77060))))) (ev77059).symm (((jw_ne e77194 (Or.inl (by decide))).trans ((jw_ne e77168 (Or.inl (by decide))).trans (jw_eq e77132)))) (by unfold mxD; split <;> omega) (((jw_ne e77194 (Or.inl (by decide))).trans (jw_eq e77168))) (mn_of s277003 ev77049 (by omega) (by omega) (by omega)) (by omega) (by omega) (by omega)) ((FrN.wr (i := x4) (FrN.wr (i := x4) (FrN.wr (i := x4) ((((FrN.tr ((H1.kp kk77008 (fun _ => rfl) (fun _ => rfl) (fun _ => rfl)).wn e77041 (by decide)) X77044.1 (by omega)).wn e77056 (by decide)).wn e77057 (by decide)).wn e77058 (by decide)) e77060 (Or.inr (by omega))) e77132 (Or.inr (by omega))) e77168 (Or.inr (by omega))).wn e77194 (by decide)) (by omega)
                      · refine ev_goto f78_100 ?_
                        refine ev_aload_n rfl ?_
                        refine ev_bipush ?_
                        refine ev_in (d := (d + 2)) (a := 0) (b := 0) (cd' := c71_0) (m := 2) (L0 := [(2, 7), (0, 41)]) (jcall_v (A := [(0, 41)]) (S' := []) (r := 7) rfl (g77168.lt ad7) (g77168.tg ad7) (Nat.le_of_ble_eq_true rfl)) (by decide) ml71 pp71 (Nat.le_of_ble_eq_true rfl) rfl (by decide) (by decide) ?_
                        refine ev_aload_n rfl ?_
                        refine g_getv (r := 7) (v := (-1)) g77168 ad7 (by decide) ft5_1 (((jw_ne e77168 (Or.inl (by decide))).trans ((jw_ne e77132 (Or.inl (by decide))).trans ((jw_ne e77060 (Or.inl (by decide))).trans ((jw_ne e77058 (Or.inl (by decide))).trans ((jw_ne e77057 (Or.inl (by decide))).trans ((jw_ne e77056 (Or.inl (by decide))).trans c277044))))))) ?_
                        refine ev_iflt f71_8 (fun c77195 => ?_) (fun c77195 => absurd c77195 (by omega))
                        refine ev_aload_n rfl ?_
                        refine ev_in (d := (d + 1)) (a := 0) (b := 0) (cd' := c68_0) (m := 1) (L0 := [(2, 7)]) (jcall_v (A := []) (S' := []) (r := 7) rfl (g77168.lt ad7) (g77168.tg ad7) (Nat.le_of_ble_eq_true rfl)) (by decide) ml68 pp68 (Nat.le_of_ble_eq_true rfl) rfl (by decide) (by decide) ?_
                        refine ev_aload_n rfl ?_
                        refine g_getv (r := 7) (v := v77045) g77168 ad7 (by decide) ft5_2 (((jw_ne e77168 (Or.inl (by decide))).trans ((jw_ne e77132 (Or.inl (by decide))).trans ((jw_ne e77060 (Or.inl (by decide))).trans ((jw_ne e77058 (Or.inl (by decide))).trans ((jw_ne e77057 (Or.inl (by decide))).trans ((jw_ne e77056 (Or.inl (by decide))).trans c377044))))))) ?_
                        refine ev_aload_n rfl ?_
                        refine g_getv (r := 7) (v := w0) g77168 ad7 (by decide) ft5_0 (((jw_ne e77168 (Or.inl (by decide))).trans ((jw_ne e77132 (Or.inl (by decide))).trans ((jw_ne e77060 (Or.inl (by decide))).trans ((jw_ne e77058 (Or.inl (by decide))).trans ((jw_ne e77057 (Or.inl (by decide))).trans ((jw_ne e77056 (Or.inl (by decide))).trans ((kk77042.v (by decide)).trans ((jw_ne e77041 (Or.inr (by decide))).trans ((kk77008.v (by decide)).trans ((k1.v (by decide)).trans ew0))))))))))) ?_
                        refine ev_icmpge f68_27 (fun c77196 => absurd c77196 (by omega)) (fun c77196 => ?_)
                        refine ev_aload_n rfl ?_
                        refine g_getp (r := 7) (c := 8) g77168 ad7 (by decide) (by decide) rf7_5 ft5_5 ?_
                        refine ev_aload_n rfl ?_
                        refine g_getv (r := 7) (v := v77045) g77168 ad7 (by decide) ft5_2 (((jw_ne e77168 (Or.inl (by decide))).trans ((jw_ne e77132 (Or.inl (by decide))).trans ((jw_ne e77060 (Or.inl (by decide))).trans ((jw_ne e77058 (Or.inl (by decide))).trans ((jw_ne e77057 (Or.inl (by decide))).trans ((jw_ne e77056 (Or.inl (by decide))).trans c377044))))))) ?_
                        refine g_baldv (v := v77177) g77168 ad8 (by omega) (by omega) (ev77177) ?_
                        refine ev_sipush ?_
                        refine g_iandB (b := 255) (by omega) (by omega) (by decide) (fun v77197 ev77197 lv77197 uv77197 => ?_)
                        obtain rfl : v77178 = v77197 := by omega
                        refine ev_goto f68_28 ?_
                        refine ev_ret rfl (by decide) (by decide) ?_
                        show jEv _ _ _ _ _ _ _ (_, [(2, 7), (0, 41)], [(0, v77178)], _, _, _)
                        refine ev_iload_n rfl ?_
                        refine ev_icmpne f71_29 (fun c77198 => ?_) (fun c77198 => absurd c77198 (by omega))
                        refine ev_aload_n rfl ?_
                        refine ev_in (d := (d + 1)) (a := 0) (b := 0) (cd' := c70_0) (m := 1) (L0 := [(2, 7)]) (jcall_v (A := []) (S' := []) (r := 7) rfl (g77168.lt ad7) (g77168.tg ad7) (Nat.le_of_ble_eq_true rfl)) (by decide) ml70 pp70 (Nat.le_of_ble_eq_true rfl) rfl (by decide) (by decide) ?_
                        refine ev_aload_n rfl ?_
                        refine g_getv (r := 7) (v := (-1)) g77168 ad7 (by decide) ft5_1 (((jw_ne e77168 (Or.inl (by decide))).trans ((jw_ne e77132 (Or.inl (by decide))).trans ((jw_ne e77060 (Or.inl (by decide))).trans ((jw_ne e77058 (Or.inl (by decide))).trans ((jw_ne e77057 (Or.inl (by decide))).trans ((jw_ne e77056 (Or.inl (by decide))).trans c277044))))))) ?_
                        refine ev_ifge f70_15 (fun c77199 => absurd c77199 (by omega)) (fun c77199 => ?_)
                        refine ev_aload_n rfl ?_
                        refine ev_aload_n rfl ?_
                        refine g_getv (r := 7) (v := v77045) g77168 ad7 (by decide) ft5_2 (((jw_ne e77168 (Or.inl (by decide))).trans ((jw_ne e77132 (Or.inl (by decide))).trans ((jw_ne e77060 (Or.inl (by decide))).trans ((jw_ne e77058 (Or.inl (by decide))).trans ((jw_ne e77057 (Or.inl (by decide))).trans ((jw_ne e77056 (Or.inl (by decide))).trans c377044))))))) ?_
                        refine g_putf (r := 7) g77168 ad7 (by decide) ft5_1 (by decide) (fun e => absurd e nz5_1) rf7_1 (by decide) (by omega) (by omega) (fun h77200 e77200 g77200 => ?_)
                        have k77200 := k77168.wr e77200 rfl
                        refine ev_ret rfl (by decide) (by decide) ?_
                        show jEv _ _ _ _ _ _ _ (_, [(2, 7), (0, 41)], [], _, _, _)
                        refine ev_ret rfl (by decide) (by decide) ?_
                        show jEv _ _ _ _ _ _ _ (_, [(2, 7), (2, 1), (0, a2), (0, a3), (0, x4), (0, x5), (0, v77009)], [], _, _, _)
                        refine ev_aload_n rfl ?_
                        refine g_getv (r := 7) (v := v77045) g77200 ad7 (by decide) ft5_1 ((jw_eq e77200)) ?_
                        refine ev_iflt f78_117 (fun c77201 => absurd c77201 (by omega)) (fun c77201 => ?_)
                        refine ev_iconst ?_
                        refine ev_goto f78_119 ?_
                        exact ev_ret rfl (by decide) (by decide) ⟨_, rfl, g77200, k77200, by omega, by omega, Rp.bad ((FrN.wr (i := x4) (FrN.wr (i := x4) (FrN.wr (i := x4) ((((FrN.tr ((H1.kp kk77008 (fun _ => rfl) (fun _ => rfl) (fun _ => rfl)).wn e77041 (by decide)) X77044.1 (by omega)).wn e77056 (by decide)).wn e77057 (by decide)).wn e77058 (by decide)) e77060 (Or.inr (by omega))) e77132 (Or.inr (by omega))) e77168 (Or.inr (by omega))).wn e77200 (by decide)) (((jw_ne e77200 (Or.inr (by decide))).trans ((jw_ne e77168 (Or.inl (by decide))).trans ((jw_ne e77132 (Or.inl (by decide))).trans ((jw_ne e77060 (Or.inl (by decide))).trans ((jw_ne e77058 (Or.inl (by decide))).trans ((jw_ne e77057 (Or.inl (by decide))).trans ((jw_ne e77056 (Or.inl (by decide))).trans ev77051)))))))) (by omega) (show (if bC h (w1 + 1) ≠ 40 ∨ 12 ≤ a2 then rF (w1 + 1) else chL (bC h) (RC h w4 K (q - 1) a3 (a2 + 1)) 4 (w1 + 2) 0 0 1) = rF v77045 from s177003.trans ((chL_x (show 0 < (4 - x5).toNat by omega) ev77011 (by omega) ((bC_at (p := v77011) k77200 (fun _ => rfl) ew0 (((jw_ne e77200 (Or.inl (by decide))).trans ((jw_ne e77168 (Or.inl (by decide))).trans ((jw_ne e77132 (Or.inl (by decide))).trans ((jw_ne e77060 (Or.inl (by decide))).trans ((jw_ne e77058 (Or.inl (by decide))).trans ((jw_ne e77057 (Or.inl (by decide))).trans ((jw_ne e77056 (Or.inl (by decide))).trans ((kk77042.v rfl).trans ((jw_ne e77041 (Or.inl (by decide))).trans ev77024)))))))))) (by omega) (by omega)).trans (by omega)) (by rw [eQ77044]; show 0 ≤ v77045; omega) (by rw [eQ77044]; exact fun z => absurd ((bC_at (p := v77045) k77200 (fun _ => rfl) ew0 (((jw_ne e77200 (Or.inl (by decide))).trans ev77177)) (by omega) (by omega)).symm.trans z) (by omega)) (by rw [eQ77044]; show bC h v77045 ≠ 44 ∨ _; rw [(bC_at (p := v77045) k77200 (fun _ => rfl) ew0 (((jw_ne e77200 (Or.inl (by decide))).trans ev77177)) (by omega) (by omega))]; omega)).trans (by rw [eQ77044]))) (by omega) ((jw_eq e77200)) (by omega)⟩
            · obtain ⟨v77050, ev77050⟩ : ∃ z : Int, -1 - Q77044.1 = z := ⟨_, rfl⟩
              rw [ev77050] at c277044
              have bv77050 := g77042.rg ad7 (i := 1) (by decide) rf7_1
              rw [c277044] at bv77050
              obtain ⟨v77202, ev77202, lv77202, uv77202⟩ := g77042.rd ad7 (show 3 < 15 by decide) rf7_3
              have m377044 := X77044.2.1
              rw [ev77202] at m377044
              refine ev_in (d := (d + 2)) (a := 0) (b := 0) (cd' := c80_0) (m := 5) (L0 := [(2, 7), (0, x4), (0, x5), (0, v77009), (0, v77043)]) (jcall_v (A := [(0, v77043), (0, v77009), (0, x5), (0, x4)]) (S' := []) (r := 7) rfl (g77042.lt ad7) (g77042.tg ad7) (Nat.le_of_ble_eq_true rfl)) (by decide) ml80 pp80 (Nat.le_of_ble_eq_true rfl) rfl (by decide) (by decide) ?_
              refine ev_aload_n rfl ?_
              refine g_getv (r := 7) (v := v77050) g77042 ad7 (by decide) ft5_1 (c277044) ?_
              refine ev_ifge f80_21 (fun c77203 => ?_) (fun c77203 => absurd c77203 (by omega))
              refine ev_ret rfl (by decide) (by decide) ?_
              show jEv _ _ _ _ _ _ _ (_, [(2, 7), (2, 1), (0, a2), (0, a3), (0, x4), (0, x5), (0, v77009)], [], _, _, _)
              refine ev_aload_n rfl ?_
              refine ev_in (d := (d + 2)) (a := 0) (b := 0) (cd' := c68_0) (m := 1) (L0 := [(2, 7)]) (jcall_v (A := []) (S' := []) (r := 7) rfl (g77042.lt ad7) (g77042.tg ad7) (Nat.le_of_ble_eq_true rfl)) (by decide) ml68 pp68 (Nat.le_of_ble_eq_true rfl) rfl (by decide) (by decide) ?_
              refine ev_aload_n rfl ?_
              obtain ⟨v77204, ev77204, lv77204, uv77204⟩ := g77042.rd ad7 (show 2 < 15 by decide) rf7_2
              refine g_getv (r := 7) (v := v77204) g77042 ad7 (by decide) ft5_2 ev77204 ?_
              refine ev_aload_n rfl ?_
              refine g_getv (r := 7) (v := w0) g77042 ad7 (by decide) ft5_0 (((kk77042.v (by decide)).trans ((jw_ne e77041 (Or.inr (by decide))).trans ((kk77008.v (by decide)).trans ((k1.v (by decide)).trans ew0))))) ?_
              refine ev_icmpge f68_27 (fun c77205 => ?_) (fun c77205 => ?_)
              · refine ev_iconst ?_
                refine ev_ret rfl (by decide) (by decide) ?_
                show jEv _ _ _ _ _ _ _ (_, [(2, 7), (2, 1), (0, a2), (0, a3), (0, x4), (0, x5), (0, v77009)], [(0, (-1))], _, _, _)
                refine ev_bipush ?_
                refine ev_icmpne f78_100 (fun c77206 => ?_) (fun c77206 => absurd c77206 (by omega))
                refine ev_aload_n rfl ?_
                refine ev_bipush ?_
                refine ev_in (d := (d + 2)) (a := 0) (b := 0) (cd' := c71_0) (m := 2) (L0 := [(2, 7), (0, 41)]) (jcall_v (A := [(0, 41)]) (S' := []) (r := 7) rfl (g77042.lt ad7) (g77042.tg ad7) (Nat.le_of_ble_eq_true rfl)) (by decide) ml71 pp71 (Nat.le_of_ble_eq_true rfl) rfl (by decide) (by decide) ?_
                refine ev_aload_n rfl ?_
                refine g_getv (r := 7) (v := v77050) g77042 ad7 (by decide) ft5_1 (c277044) ?_
                refine ev_iflt f71_8 (fun c77207 => absurd c77207 (by omega)) (fun c77207 => ?_)
                refine ev_ret rfl (by decide) (by decide) ?_
                show jEv _ _ _ _ _ _ _ (_, [(2, 7), (2, 1), (0, a2), (0, a3), (0, x4), (0, x5), (0, v77009)], [], _, _, _)
                refine ev_aload_n rfl ?_
                refine g_getv (r := 7) (v := v77050) g77042 ad7 (by decide) ft5_1 (c277044) ?_
                refine ev_iflt f78_117 (fun c77208 => absurd c77208 (by omega)) (fun c77208 => ?_)
                refine ev_iconst ?_
                refine ev_goto f78_119 ?_
                exact ev_ret rfl (by decide) (by decide) ⟨_, rfl, g77042, k77042, by omega, by omega, Rp.bad2 (FrN.tr ((H1.kp kk77008 (fun _ => rfl) (fun _ => rfl) (fun _ => rfl)).wn e77041 (by decide)) X77044.1 (by omega)) (ev77202) (by omega) (show ((if bC h (w1 + 1) ≠ 40 ∨ 12 ≤ a2 then rF (w1 + 1) else chL (bC h) (RC h w4 K (q - 1) a3 (a2 + 1)) 4 (w1 + 2) 0 0 1)).1 = Q77044.1 by rw [(show (if bC h (w1 + 1) ≠ 40 ∨ 12 ≤ a2 then rF (w1 + 1) else chL (bC h) (RC h w4 K (q - 1) a3 (a2 + 1)) 4 (w1 + 2) 0 0 1) = (Q77044.1, 0, 0, 0) from s177003.trans ((chL_f (show 0 < (4 - x5).toNat by omega) ev77011 (by omega) ((bC_at (p := v77011) k77042 (fun _ => rfl) ew0 (((kk77042.v rfl).trans ((jw_ne e77041 (Or.inl (by decide))).trans ev77024))) (by omega) (by omega)).trans (by omega)) (by rw [eQ77044]; exact c177044)).trans (by rw [eQ77044])))]) c177044 (c277044) (by omega)⟩
              · refine ev_aload_n rfl ?_
                refine g_getp (r := 7) (c := 8) g77042 ad7 (by decide) (by decide) rf7_5 ft5_5 ?_
                refine ev_aload_n rfl ?_
                refine g_getv (r := 7) (v := v77204) g77042 ad7 (by decide) ft5_2 (ev77204) ?_
                refine g_bald g77042 ad8 rt8 (by omega) (by omega) (fun v77209 ev77209 lv77209 uv77209 => ?_)
                refine ev_sipush ?_
                refine g_iandB (b := 255) (by omega) (by omega) (by decide) (fun v77210 ev77210 lv77210 uv77210 => ?_)
                have zv77210 := sgn ev77210 (by omega) (by omega)
                refine ev_goto f68_28 ?_
                refine ev_ret rfl (by decide) (by decide) ?_
                show jEv _ _ _ _ _ _ _ (_, [(2, 7), (2, 1), (0, a2), (0, a3), (0, x4), (0, x5), (0, v77009)], [(0, v77210)], _, _, _)
                refine ev_bipush ?_
                refine ev_icmpne f78_100 (fun c77211 => ?_) (fun c77211 => ?_)
                · refine ev_aload_n rfl ?_
                  refine ev_bipush ?_
                  refine ev_in (d := (d + 2)) (a := 0) (b := 0) (cd' := c71_0) (m := 2) (L0 := [(2, 7), (0, 41)]) (jcall_v (A := [(0, 41)]) (S' := []) (r := 7) rfl (g77042.lt ad7) (g77042.tg ad7) (Nat.le_of_ble_eq_true rfl)) (by decide) ml71 pp71 (Nat.le_of_ble_eq_true rfl) rfl (by decide) (by decide) ?_
                  refine ev_aload_n rfl ?_
                  refine g_getv (r := 7) (v := v77050) g77042 ad7 (by decide) ft5_1 (c277044) ?_
                  refine ev_iflt f71_8 (fun c77212 => absurd c77212 (by omega)) (fun c77212 => ?_)
                  refine ev_ret rfl (by decide) (by decide) ?_
                  show jEv _ _ _ _ _ _ _ (_, [(2, 7), (2, 1), (0, a2), (0, a3), (0, x4), (0, x5), (0, v77009)], [], _, _, _)
                  refine ev_aload_n rfl ?_
                  refine g_getv (r := 7) (v := v77050) g77042 ad7 (by decide) ft5_1 (c277044) ?_
                  refine ev_iflt f78_117 (fun c77213 => absurd c77213 (by omega)) (fun c77213 => ?_)
                  refine ev_iconst ?_
                  refine ev_goto f78_119 ?_
                  exact ev_ret rfl (by decide) (by decide) ⟨_, rfl, g77042, k77042, by omega, by omega, Rp.bad2 (FrN.tr ((H1.kp kk77008 (fun _ => rfl) (fun _ => rfl) (fun _ => rfl)).wn e77041 (by decide)) X77044.1 (by omega)) (ev77202) (by omega) (show ((if bC h (w1 + 1) ≠ 40 ∨ 12 ≤ a2 then rF (w1 + 1) else chL (bC h) (RC h w4 K (q - 1) a3 (a2 + 1)) 4 (w1 + 2) 0 0 1)).1 = Q77044.1 by rw [(show (if bC h (w1 + 1) ≠ 40 ∨ 12 ≤ a2 then rF (w1 + 1) else chL (bC h) (RC h w4 K (q - 1) a3 (a2 + 1)) 4 (w1 + 2) 0 0 1) = (Q77044.1, 0, 0, 0) from s177003.trans ((chL_f (show 0 < (4 - x5).toNat by omega) ev77011 (by omega) ((bC_at (p := v77011) k77042 (fun _ => rfl) ew0 (((kk77042.v rfl).trans ((jw_ne e77041 (Or.inl (by decide))).trans ev77024))) (by omega) (by omega)).trans (by omega)) (by rw [eQ77044]; exact c177044)).trans (by rw [eQ77044])))]) c177044 (c277044) (by omega)⟩
                · refine ev_iload rfl ?_
                  refine ev_iconst ?_
                  refine ev_icmpne f78_88 (fun c77214 => ?_) (fun c77214 => ?_)
                  · refine ev_aload_n rfl ?_
                    refine ev_bipush ?_
                    refine ev_in (d := (d + 2)) (a := 0) (b := 0) (cd' := c71_0) (m := 2) (L0 := [(2, 7), (0, 44)]) (jcall_v (A := [(0, 44)]) (S' := []) (r := 7) rfl (g77042.lt ad7) (g77042.tg ad7) (Nat.le_of_ble_eq_true rfl)) (by decide) ml71 pp71 (Nat.le_of_ble_eq_true rfl) rfl (by decide) (by decide) ?_
                    refine ev_aload_n rfl ?_
                    refine g_getv (r := 7) (v := v77050) g77042 ad7 (by decide) ft5_1 (c277044) ?_
                    refine ev_iflt f71_8 (fun c77215 => absurd c77215 (by omega)) (fun c77215 => ?_)
                    refine ev_ret rfl (by decide) (by decide) ?_
                    show jEv _ _ _ _ _ _ _ (_, [(2, 7), (2, 1), (0, a2), (0, a3), (0, x4), (0, x5), (0, v77009)], [], _, _, _)
                    refine ev_iinc (w := (x5 + 1)) (L' := [(2, 7), (2, 1), (0, a2), (0, a3), (0, x4), (0, (x5 + 1)), (0, v77009)]) rfl (by unfold w32; omega) rfl ?_
                    refine ev_goto f78_25 ?_
                    exact ih _ _ _ _ _ _ _ g77042 k77042 (by omega) (by omega) (by omega) (by omega) (by omega) (by omega) (by omega) (by omega) (by omega) (by omega) (by omega) (by omega) (c277044) (by omega) (by omega) (ev77204) (by omega) (by omega) (ev77202) (by omega) (by omega) (ci_bad (show (if bC h (w1 + 1) ≠ 40 ∨ 12 ≤ a2 then rF (w1 + 1) else chL (bC h) (RC h w4 K (q - 1) a3 (a2 + 1)) 4 (w1 + 2) 0 0 1) = (Q77044.1, 0, 0, 0) from s177003.trans ((chL_f (show 0 < (4 - x5).toNat by omega) ev77011 (by omega) ((bC_at (p := v77011) k77042 (fun _ => rfl) ew0 (((kk77042.v rfl).trans ((jw_ne e77041 (Or.inl (by decide))).trans ev77024))) (by omega) (by omega)).trans (by omega)) (by rw [eQ77044]; exact c177044)).trans (by rw [eQ77044]))) (by omega) (by show Q77044.1 = _; omega)) (FrN.tr ((H1.kp kk77008 (fun _ => rfl) (fun _ => rfl) (fun _ => rfl)).wn e77041 (by decide)) X77044.1 (by omega)) (by omega)
                  · refine ev_goto f78_100 ?_
                    refine ev_aload_n rfl ?_
                    refine ev_bipush ?_
                    refine ev_in (d := (d + 2)) (a := 0) (b := 0) (cd' := c71_0) (m := 2) (L0 := [(2, 7), (0, 41)]) (jcall_v (A := [(0, 41)]) (S' := []) (r := 7) rfl (g77042.lt ad7) (g77042.tg ad7) (Nat.le_of_ble_eq_true rfl)) (by decide) ml71 pp71 (Nat.le_of_ble_eq_true rfl) rfl (by decide) (by decide) ?_
                    refine ev_aload_n rfl ?_
                    refine g_getv (r := 7) (v := v77050) g77042 ad7 (by decide) ft5_1 (c277044) ?_
                    refine ev_iflt f71_8 (fun c77216 => absurd c77216 (by omega)) (fun c77216 => ?_)
                    refine ev_ret rfl (by decide) (by decide) ?_
                    show jEv _ _ _ _ _ _ _ (_, [(2, 7), (2, 1), (0, a2), (0, a3), (0, x4), (0, x5), (0, v77009)], [], _, _, _)
                    refine ev_aload_n rfl ?_
                    refine g_getv (r := 7) (v := v77050) g77042 ad7 (by decide) ft5_1 (c277044) ?_
                    refine ev_iflt f78_117 (fun c77217 => absurd c77217 (by omega)) (fun c77217 => ?_)
                    refine ev_iconst ?_
                    refine ev_goto f78_119 ?_
                    exact ev_ret rfl (by decide) (by decide) ⟨_, rfl, g77042, k77042, by omega, by omega, Rp.bad2 (FrN.tr ((H1.kp kk77008 (fun _ => rfl) (fun _ => rfl) (fun _ => rfl)).wn e77041 (by decide)) X77044.1 (by omega)) (ev77202) (by omega) (show ((if bC h (w1 + 1) ≠ 40 ∨ 12 ≤ a2 then rF (w1 + 1) else chL (bC h) (RC h w4 K (q - 1) a3 (a2 + 1)) 4 (w1 + 2) 0 0 1)).1 = Q77044.1 by rw [(show (if bC h (w1 + 1) ≠ 40 ∨ 12 ≤ a2 then rF (w1 + 1) else chL (bC h) (RC h w4 K (q - 1) a3 (a2 + 1)) 4 (w1 + 2) 0 0 1) = (Q77044.1, 0, 0, 0) from s177003.trans ((chL_f (show 0 < (4 - x5).toNat by omega) ev77011 (by omega) ((bC_at (p := v77011) k77042 (fun _ => rfl) ew0 (((kk77042.v rfl).trans ((jw_ne e77041 (Or.inl (by decide))).trans ev77024))) (by omega) (by omega)).trans (by omega)) (by rw [eQ77044]; exact c177044)).trans (by rw [eQ77044])))]) c177044 (c277044) (by omega)⟩
      · refine ev_istore (L' := [(2, 7), (2, 1), (0, a2), (0, a3), (0, x4), (0, x5), (0, v77009)]) (Nat.le_of_ble_eq_true rfl) rfl ?_
        refine ev_aload_n rfl ?_
        refine ev_bipush ?_
        refine ev_in (d := (d + 2)) (a := 0) (b := 0) (cd' := c71_0) (m := 2) (L0 := [(2, 7), (0, 58)]) (jcall_v (A := [(0, 58)]) (S' := []) (r := 7) rfl (g77008.lt ad7) (g77008.tg ad7) (Nat.le_of_ble_eq_true rfl)) (by decide) ml71 pp71 (Nat.le_of_ble_eq_true rfl) rfl (by decide) (by decide) ?_
        refine ev_aload_n rfl ?_
        refine g_getv (r := 7) (v := y1) g77008 ad7 (by decide) ft5_1 (A77010) ?_
        refine ev_iflt f71_8 (fun c77218 => absurd c77218 (by omega)) (fun c77218 => ?_)
        refine ev_ret rfl (by decide) (by decide) ?_
        show jEv _ _ _ _ _ _ _ (_, [(2, 7), (2, 1), (0, a2), (0, a3), (0, x4), (0, x5), (0, v77009)], [], _, _, _)
        refine ev_aload_n rfl ?_
        refine ev_iload rfl ?_
        refine ev_iload rfl ?_
        refine ev_iload rfl ?_
        refine ev_aload_n rfl ?_
        refine ev_aload_n rfl ?_
        refine ev_iload_n rfl ?_
        refine ev_iconst ?_
        refine ev_iadd (r := (a2 + 1)) (by unfold w32; omega) ?_
        refine ev_iload_n rfl ?_
        refine ev_call (jcall_v (A := [(0, a3), (0, (a2 + 1)), (2, 1)]) (S' := [(0, v77009), (0, x5), (0, x4), (2, 7)]) (r := 7) rfl (g77008.lt ad7) (g77008.tg ad7) (Nat.le_of_ble_eq_true rfl)) (jOk_le (by omega) (t74z g77008 (by omega) (by omega) (by omega) (by omega) (A77010) (by omega) (by omega))) (by decide) (by decide) (fun w77219 h77219 q77219 => ?_)
        obtain ⟨v77220, rfl, g77219, kk77219, lv77220, uv77220, X77219⟩ := q77219
        have k77219 := k77008.tr kk77219 (by decide)
        show jEv _ _ _ _ _ _ _ (_, [(2, 7), (2, 1), (0, a2), (0, a3), (0, x4), (0, x5), (0, v77009)], [(0, v77220), (0, v77009), (0, x5), (0, x4), (2, 7)], _, _, _)
        refine ev_in (d := (d + 2)) (a := 0) (b := 0) (cd' := c80_0) (m := 5) (L0 := [(2, 7), (0, x4), (0, x5), (0, v77009), (0, v77220)]) (jcall_v (A := [(0, v77220), (0, v77009), (0, x5), (0, x4)]) (S' := []) (r := 7) rfl (g77219.lt ad7) (g77219.tg ad7) (Nat.le_of_ble_eq_true rfl)) (by decide) ml80 pp80 (Nat.le_of_ble_eq_true rfl) rfl (by decide) (by decide) ?_
        refine ev_aload_n rfl ?_
        refine g_getv (r := 7) (v := y1) g77219 ad7 (by decide) ft5_1 (((kk77219.v (by decide)).trans A77010)) ?_
        refine ev_ifge f80_21 (fun c77221 => ?_) (fun c77221 => absurd c77221 (by omega))
        refine ev_ret rfl (by decide) (by decide) ?_
        show jEv _ _ _ _ _ _ _ (_, [(2, 7), (2, 1), (0, a2), (0, a3), (0, x4), (0, x5), (0, v77009)], [], _, _, _)
        refine ev_aload_n rfl ?_
        refine ev_in (d := (d + 2)) (a := 0) (b := 0) (cd' := c68_0) (m := 1) (L0 := [(2, 7)]) (jcall_v (A := []) (S' := []) (r := 7) rfl (g77219.lt ad7) (g77219.tg ad7) (Nat.le_of_ble_eq_true rfl)) (by decide) ml68 pp68 (Nat.le_of_ble_eq_true rfl) rfl (by decide) (by decide) ?_
        refine ev_aload_n rfl ?_
        obtain ⟨v77222, ev77222, lv77222, uv77222⟩ := g77219.rd ad7 (show 2 < 15 by decide) rf7_2
        refine g_getv (r := 7) (v := v77222) g77219 ad7 (by decide) ft5_2 ev77222 ?_
        refine ev_aload_n rfl ?_
        refine g_getv (r := 7) (v := w0) g77219 ad7 (by decide) ft5_0 (((kk77219.v (by decide)).trans ((kk77008.v (by decide)).trans ((k1.v (by decide)).trans ew0)))) ?_
        refine ev_icmpge f68_27 (fun c77223 => ?_) (fun c77223 => ?_)
        · refine ev_iconst ?_
          refine ev_ret rfl (by decide) (by decide) ?_
          show jEv _ _ _ _ _ _ _ (_, [(2, 7), (2, 1), (0, a2), (0, a3), (0, x4), (0, x5), (0, v77009)], [(0, (-1))], _, _, _)
          refine ev_bipush ?_
          refine ev_icmpne f78_100 (fun c77224 => ?_) (fun c77224 => absurd c77224 (by omega))
          refine ev_aload_n rfl ?_
          refine ev_bipush ?_
          refine ev_in (d := (d + 2)) (a := 0) (b := 0) (cd' := c71_0) (m := 2) (L0 := [(2, 7), (0, 41)]) (jcall_v (A := [(0, 41)]) (S' := []) (r := 7) rfl (g77219.lt ad7) (g77219.tg ad7) (Nat.le_of_ble_eq_true rfl)) (by decide) ml71 pp71 (Nat.le_of_ble_eq_true rfl) rfl (by decide) (by decide) ?_
          refine ev_aload_n rfl ?_
          refine g_getv (r := 7) (v := y1) g77219 ad7 (by decide) ft5_1 (((kk77219.v (by decide)).trans A77010)) ?_
          refine ev_iflt f71_8 (fun c77225 => absurd c77225 (by omega)) (fun c77225 => ?_)
          refine ev_ret rfl (by decide) (by decide) ?_
          show jEv _ _ _ _ _ _ _ (_, [(2, 7), (2, 1), (0, a2), (0, a3), (0, x4), (0, x5), (0, v77009)], [], _, _, _)
          refine ev_aload_n rfl ?_
          refine g_getv (r := 7) (v := y1) g77219 ad7 (by decide) ft5_1 (((kk77219.v (by decide)).trans A77010)) ?_
          refine ev_iflt f78_117 (fun c77226 => absurd c77226 (by omega)) (fun c77226 => ?_)
          refine ev_iconst ?_
          refine ev_goto f78_119 ?_
          exact ev_ret rfl (by decide) (by decide) ⟨_, rfl, g77219, k77219, by omega, by omega, Rp.bad ((H1.kp kk77008 (fun _ => rfl) (fun _ => rfl) (fun _ => rfl)).kp kk77219 (fun _ => rfl) (fun _ => rfl) (fun _ => rfl)) (((kk77219.v (by decide)).trans ((kk77008.v (by decide)).trans ey2))) (by omega) (s177003.trans (chL_n (show 0 < (4 - x5).toNat by omega) (by rw [F77010]; omega))) (by omega) (((kk77219.v (by decide)).trans A77010)) (by omega)⟩
        · refine ev_aload_n rfl ?_
          refine g_getp (r := 7) (c := 8) g77219 ad7 (by decide) (by decide) rf7_5 ft5_5 ?_
          refine ev_aload_n rfl ?_
          refine g_getv (r := 7) (v := v77222) g77219 ad7 (by decide) ft5_2 (ev77222) ?_
          refine g_bald g77219 ad8 rt8 (by omega) (by omega) (fun v77227 ev77227 lv77227 uv77227 => ?_)
          refine ev_sipush ?_
          refine g_iandB (b := 255) (by omega) (by omega) (by decide) (fun v77228 ev77228 lv77228 uv77228 => ?_)
          have zv77228 := sgn ev77228 (by omega) (by omega)
          refine ev_goto f68_28 ?_
          refine ev_ret rfl (by decide) (by decide) ?_
          show jEv _ _ _ _ _ _ _ (_, [(2, 7), (2, 1), (0, a2), (0, a3), (0, x4), (0, x5), (0, v77009)], [(0, v77228)], _, _, _)
          refine ev_bipush ?_
          refine ev_icmpne f78_100 (fun c77229 => ?_) (fun c77229 => ?_)
          · refine ev_aload_n rfl ?_
            refine ev_bipush ?_
            refine ev_in (d := (d + 2)) (a := 0) (b := 0) (cd' := c71_0) (m := 2) (L0 := [(2, 7), (0, 41)]) (jcall_v (A := [(0, 41)]) (S' := []) (r := 7) rfl (g77219.lt ad7) (g77219.tg ad7) (Nat.le_of_ble_eq_true rfl)) (by decide) ml71 pp71 (Nat.le_of_ble_eq_true rfl) rfl (by decide) (by decide) ?_
            refine ev_aload_n rfl ?_
            refine g_getv (r := 7) (v := y1) g77219 ad7 (by decide) ft5_1 (((kk77219.v (by decide)).trans A77010)) ?_
            refine ev_iflt f71_8 (fun c77230 => absurd c77230 (by omega)) (fun c77230 => ?_)
            refine ev_ret rfl (by decide) (by decide) ?_
            show jEv _ _ _ _ _ _ _ (_, [(2, 7), (2, 1), (0, a2), (0, a3), (0, x4), (0, x5), (0, v77009)], [], _, _, _)
            refine ev_aload_n rfl ?_
            refine g_getv (r := 7) (v := y1) g77219 ad7 (by decide) ft5_1 (((kk77219.v (by decide)).trans A77010)) ?_
            refine ev_iflt f78_117 (fun c77231 => absurd c77231 (by omega)) (fun c77231 => ?_)
            refine ev_iconst ?_
            refine ev_goto f78_119 ?_
            exact ev_ret rfl (by decide) (by decide) ⟨_, rfl, g77219, k77219, by omega, by omega, Rp.bad ((H1.kp kk77008 (fun _ => rfl) (fun _ => rfl) (fun _ => rfl)).kp kk77219 (fun _ => rfl) (fun _ => rfl) (fun _ => rfl)) (((kk77219.v (by decide)).trans ((kk77008.v (by decide)).trans ey2))) (by omega) (s177003.trans (chL_n (show 0 < (4 - x5).toNat by omega) (by rw [F77010]; omega))) (by omega) (((kk77219.v (by decide)).trans A77010)) (by omega)⟩
          · refine ev_iload rfl ?_
            refine ev_iconst ?_
            refine ev_icmpne f78_88 (fun c77232 => ?_) (fun c77232 => ?_)
            · refine ev_aload_n rfl ?_
              refine ev_bipush ?_
              refine ev_in (d := (d + 2)) (a := 0) (b := 0) (cd' := c71_0) (m := 2) (L0 := [(2, 7), (0, 44)]) (jcall_v (A := [(0, 44)]) (S' := []) (r := 7) rfl (g77219.lt ad7) (g77219.tg ad7) (Nat.le_of_ble_eq_true rfl)) (by decide) ml71 pp71 (Nat.le_of_ble_eq_true rfl) rfl (by decide) (by decide) ?_
              refine ev_aload_n rfl ?_
              refine g_getv (r := 7) (v := y1) g77219 ad7 (by decide) ft5_1 (((kk77219.v (by decide)).trans A77010)) ?_
              refine ev_iflt f71_8 (fun c77233 => absurd c77233 (by omega)) (fun c77233 => ?_)
              refine ev_ret rfl (by decide) (by decide) ?_
              show jEv _ _ _ _ _ _ _ (_, [(2, 7), (2, 1), (0, a2), (0, a3), (0, x4), (0, x5), (0, v77009)], [], _, _, _)
              refine ev_iinc (w := (x5 + 1)) (L' := [(2, 7), (2, 1), (0, a2), (0, a3), (0, x4), (0, (x5 + 1)), (0, v77009)]) rfl (by unfold w32; omega) rfl ?_
              refine ev_goto f78_25 ?_
              exact ih _ _ _ _ _ _ _ g77219 k77219 (by omega) (by omega) (by omega) (by omega) (by omega) (by omega) (by omega) (by omega) (by omega) (by omega) (by omega) (by omega) (((kk77219.v (by decide)).trans A77010)) (by omega) (by omega) (ev77222) (by omega) (by omega) (((kk77219.v (by decide)).trans ((kk77008.v (by decide)).trans ey2))) (by omega) (by omega) (ci_bad ((s177003.trans (chL_n (show 0 < (4 - x5).toNat by omega) (by rw [F77010]; omega)))) (by omega) (by show -1 - _ = _; omega)) ((H1.kp kk77008 (fun _ => rfl) (fun _ => rfl) (fun _ => rfl)).kp kk77219 (fun _ => rfl) (fun _ => rfl) (fun _ => rfl)) (by omega)
            · refine ev_goto f78_100 ?_
              refine ev_aload_n rfl ?_
              refine ev_bipush ?_
              refine ev_in (d := (d + 2)) (a := 0) (b := 0) (cd' := c71_0) (m := 2) (L0 := [(2, 7), (0, 41)]) (jcall_v (A := [(0, 41)]) (S' := []) (r := 7) rfl (g77219.lt ad7) (g77219.tg ad7) (Nat.le_of_ble_eq_true rfl)) (by decide) ml71 pp71 (Nat.le_of_ble_eq_true rfl) rfl (by decide) (by decide) ?_
              refine ev_aload_n rfl ?_
              refine g_getv (r := 7) (v := y1) g77219 ad7 (by decide) ft5_1 (((kk77219.v (by decide)).trans A77010)) ?_
              refine ev_iflt f71_8 (fun c77234 => absurd c77234 (by omega)) (fun c77234 => ?_)
              refine ev_ret rfl (by decide) (by decide) ?_
              show jEv _ _ _ _ _ _ _ (_, [(2, 7), (2, 1), (0, a2), (0, a3), (0, x4), (0, x5), (0, v77009)], [], _, _, _)
              refine ev_aload_n rfl ?_
              refine g_getv (r := 7) (v := y1) g77219 ad7 (by decide) ft5_1 (((kk77219.v (by decide)).trans A77010)) ?_
              refine ev_iflt f78_117 (fun c77235 => absurd c77235 (by omega)) (fun c77235 => ?_)
              refine ev_iconst ?_
              refine ev_goto f78_119 ?_
              exact ev_ret rfl (by decide) (by decide) ⟨_, rfl, g77219, k77219, by omega, by omega, Rp.bad ((H1.kp kk77008 (fun _ => rfl) (fun _ => rfl) (fun _ => rfl)).kp kk77219 (fun _ => rfl) (fun _ => rfl) (fun _ => rfl)) (((kk77219.v (by decide)).trans ((kk77008.v (by decide)).trans ey2))) (by omega) (s177003.trans (chL_n (show 0 < (4 - x5).toNat by omega) (by rw [F77010]; omega))) (by omega) (((kk77219.v (by decide)).trans A77010)) (by omega)⟩
set_option maxHeartbeats 4000000 in
theorem t78_s {G : GH} {h : JH} (g : Gd G h) {a2 : Int} (la2 : 0 ≤ a2) (ua2 : a2 ≤ 12) {a3 : Int} (la3 : 0 ≤ a3) (ua3 : a3 ≤ 15) {w0 : Int} (ew0 : h.2.2 7 0 = w0) (lw0 : 0 ≤ w0) (uw0 : w0 ≤ 200) {w1 : Int} (ew1 : h.2.2 7 2 = w1) (lw1 : 0 ≤ w1) (uw1 : w1 ≤ 200) (ew2 : h.2.2 7 1 = (-1)) {w3 : Int} (ew3 : h.2.2 7 3 = w3) (lw3 : 0 ≤ w3) (uw3 : w3 ≤ 200) {w4 : Int} (ew4 : h.2.2 7 4 = w4) (lw4 : 0 ≤ w4) (uw4 : w4 ≤ 6) (F0 : ((-w1) + w3) ≤ 0) (F1 : ((-w0) + w1) ≤ (-1)) {K : Int → Int × Int × Int} {q : Nat} (hK : KoC h w4 K) (hq : 13 - a2 = q) (hb : bC h w1 = 63) {M : Int} (hM : M = a2) {d : Nat} (hd : 3 ≤ d) (rih : ∀ {G : GH} {h : JH} (g : Gd G h) {a2 : Int} (la2 : 0 ≤ a2) (ua2 : a2 ≤ 12) {a3 : Int} (la3 : 0 ≤ a3) (ua3 : a3 ≤ 15) {w0 : Int} (ew0 : h.2.2 7 0 = w0) (lw0 : 0 ≤ w0) (uw0 : w0 ≤ 200) {w1 : Int} (ew1 : h.2.2 7 2 = w1) (lw1 : 0 ≤ w1) (uw1 : w1 ≤ 200) (ew2 : h.2.2 7 1 = (-1)) {w3 : Int} (ew3 : h.2.2 7 3 = w3) (lw3 : 0 ≤ w3) (uw3 : w3 ≤ 200) {w4 : Int} (ew4 : h.2.2 7 4 = w4) (lw4 : 0 ≤ w4) (uw4 : w4 ≤ 6) (F0 : ((-w1) + w3) ≤ 0) {K : Int → Int × Int × Int} {q : Nat} (hK : KoC h w4 K) (hq : 13 - a2 = q) (hm : M + 1 ≤ a2), jOk d 0 0 74 [(2, 7), (2, 1), (0, a2), (0, a3)] h (fun v h' => ∃ r : Int, v = some (0, r) ∧ Gd G h' ∧ Kp [(7, 2), (7, 3), (7, 4), (10, 0), (11, 0), (12, 0), (13, 0), (14, 0), (15, 0), (16, 0), (17, 0)] h h' ∧ (-1) ≤ r ∧ r ≤ 199 ∧ Rp h h' w3 (RC h w4 K q a3 a2 w1) r)) : jOk (d + 4) 0 0 78 [(2, 7), (2, 1), (0, a2), (0, a3)] h (fun v h' => ∃ r : Int, v = some (0, r) ∧ Gd G h' ∧ Kp [(7, 2), (7, 3), (7, 4), (10, 0), (11, 0), (12, 0), (13, 0), (14, 0), (15, 0), (16, 0), (17, 0)] h h' ∧ (-1) ≤ r ∧ r ≤ 199 ∧ Rp h h' w3 (if bC h (w1 + 1) ≠ 40 ∨ 12 ≤ a2 then rF (w1 + 1) else chL (bC h) (RC h w4 K (q - 1) a3 (a2 + 1)) 4 (w1 + 2) 0 0 1) r) := by
  refine ⟨by decide, by rw [ml78]; exact Nat.le_of_ble_eq_true rfl, ?_⟩
  rw [ml78, pp78]
  show jEv _ none _ c78_0 0 0 _ (c78_0, [(2, 7), (2, 1), (0, a2), (0, a3), (9, 0), (9, 0), (9, 0)], [], h, 0, 0)
  have k0 := Kp.rf [(7, 2), (7, 3), (7, 4), (10, 0), (11, 0), (12, 0), (13, 0), (14, 0), (15, 0), (16, 0), (17, 0)] h
  refine ev_aload_n rfl ?_
  refine ev_dup (by decide) ?_
  refine g_getv (r := 7) (v := w1) g ad7 (by decide) ft5_2 (ew1) ?_
  refine ev_iconst ?_
  refine ev_iadd (r := (w1 + 1)) (by unfold w32; omega) ?_
  refine g_putf (r := 7) g ad7 (by decide) ft5_2 (by decide) (fun e => absurd e nz5_2) rf7_2 (by decide) (by omega) (by omega) (fun h77236 e77236 g77236 => ?_)
  have k77236 := k0.wr e77236 rfl
  refine ev_aload_n rfl ?_
  refine ev_iload_n rfl ?_
  refine ev_in (d := (d + 2)) (a := 0) (b := 0) (cd' := c72_0) (m := 2) (L0 := [(2, 7), (0, a2)]) (jcall_v (A := [(0, a2)]) (S' := []) (r := 7) rfl (g77236.lt ad7) (g77236.tg ad7) (Nat.le_of_ble_eq_true rfl)) (by decide) ml72 pp72 (Nat.le_of_ble_eq_true rfl) rfl (by decide) (by decide) ?_
  refine ev_iload_n rfl ?_
  refine ev_bipush ?_
  refine ev_icmplt f72_10 (fun c77237 => ?_) (fun c77237 => ?_)
  · refine ev_aload_n rfl ?_
    refine ev_bipush ?_
    refine ev_in (d := (d + 1)) (a := 0) (b := 0) (cd' := c71_0) (m := 2) (L0 := [(2, 7), (0, 40)]) (jcall_v (A := [(0, 40)]) (S' := []) (r := 7) rfl (g77236.lt ad7) (g77236.tg ad7) (Nat.le_of_ble_eq_true rfl)) (by decide) ml71 pp71 (Nat.le_of_ble_eq_true rfl) rfl (by decide) (by decide) ?_
    refine ev_aload_n rfl ?_
    refine g_getv (r := 7) (v := (-1)) g77236 ad7 (by decide) ft5_1 (((jw_ne e77236 (Or.inr (by decide))).trans ew2)) ?_
    refine ev_iflt f71_8 (fun c77238 => ?_) (fun c77238 => absurd c77238 (by omega))
    refine ev_aload_n rfl ?_
    refine ev_in (d := (d + 0)) (a := 0) (b := 0) (cd' := c68_0) (m := 1) (L0 := [(2, 7)]) (jcall_v (A := []) (S' := []) (r := 7) rfl (g77236.lt ad7) (g77236.tg ad7) (Nat.le_of_ble_eq_true rfl)) (by decide) ml68 pp68 (Nat.le_of_ble_eq_true rfl) rfl (by decide) (by decide) ?_
    refine ev_aload_n rfl ?_
    refine g_getv (r := 7) (v := (w1 + 1)) g77236 ad7 (by decide) ft5_2 ((jw_eq e77236)) ?_
    refine ev_aload_n rfl ?_
    refine g_getv (r := 7) (v := w0) g77236 ad7 (by decide) ft5_0 (((jw_ne e77236 (Or.inr (by decide))).trans ew0)) ?_
    refine ev_icmpge f68_27 (fun c77239 => ?_) (fun c77239 => ?_)
    · refine ev_iconst ?_
      refine ev_ret rfl (by decide) (by decide) ?_
      show jEv _ _ _ _ _ _ _ (_, [(2, 7), (0, 40)], [(0, (-1))], _, _, _)
      refine ev_iload_n rfl ?_
      refine ev_icmpne f71_29 (fun c77240 => ?_) (fun c77240 => absurd c77240 (by omega))
      refine ev_aload_n rfl ?_
      refine ev_in (d := (d + 0)) (a := 0) (b := 0) (cd' := c70_0) (m := 1) (L0 := [(2, 7)]) (jcall_v (A := []) (S' := []) (r := 7) rfl (g77236.lt ad7) (g77236.tg ad7) (Nat.le_of_ble_eq_true rfl)) (by decide) ml70 pp70 (Nat.le_of_ble_eq_true rfl) rfl (by decide) (by decide) ?_
      refine ev_aload_n rfl ?_
      refine g_getv (r := 7) (v := (-1)) g77236 ad7 (by decide) ft5_1 (((jw_ne e77236 (Or.inr (by decide))).trans ew2)) ?_
      refine ev_ifge f70_15 (fun c77241 => absurd c77241 (by omega)) (fun c77241 => ?_)
      refine ev_aload_n rfl ?_
      refine ev_aload_n rfl ?_
      refine g_getv (r := 7) (v := (w1 + 1)) g77236 ad7 (by decide) ft5_2 ((jw_eq e77236)) ?_
      refine g_putf (r := 7) g77236 ad7 (by decide) ft5_1 (by decide) (fun e => absurd e nz5_1) rf7_1 (by decide) (by omega) (by omega) (fun h77242 e77242 g77242 => ?_)
      have k77242 := k77236.wr e77242 rfl
      refine ev_ret rfl (by decide) (by decide) ?_
      show jEv _ _ _ _ _ _ _ (_, [(2, 7), (0, 40)], [], _, _, _)
      refine ev_ret rfl (by decide) (by decide) ?_
      show jEv _ _ _ _ _ _ _ (_, [(2, 7), (0, a2)], [], _, _, _)
      refine ev_ret rfl (by decide) (by decide) ?_
      show jEv _ _ _ _ _ _ _ (_, [(2, 7), (2, 1), (0, a2), (0, a3), (9, 0), (9, 0), (9, 0)], [], _, _, _)
      refine ev_aload_n rfl ?_
      refine ev_iconst ?_
      refine ev_in (d := (d + 2)) (a := 0) (b := 0) (cd' := c73_0) (m := 2) (L0 := [(2, 7), (0, 1)]) (jcall_v (A := [(0, 1)]) (S' := []) (r := 7) rfl (g77242.lt ad7) (g77242.tg ad7) (Nat.le_of_ble_eq_true rfl)) (by decide) ml73 pp73 (Nat.le_of_ble_eq_true rfl) rfl (by decide) (by decide) ?_
      refine ev_aload_n rfl ?_
      refine g_getv (r := 7) (v := w3) g77242 ad7 (by decide) ft5_3 (((jw_ne e77242 (Or.inr (by decide))).trans ((jw_ne e77236 (Or.inr (by decide))).trans ew3))) ?_
      refine ev_sipush ?_
      refine ev_icmplt f73_16 (fun c77243 => ?_) (fun c77243 => absurd c77243 (by omega))
      refine ev_aload_n rfl ?_
      refine g_getp (r := 7) (c := 10) g77242 ad7 (by decide) (by decide) rf7_7 ft5_7 ?_
      refine ev_aload_n rfl ?_
      refine g_getv (r := 7) (v := w3) g77242 ad7 (by decide) ft5_3 (((jw_ne e77242 (Or.inr (by decide))).trans ((jw_ne e77236 (Or.inr (by decide))).trans ew3))) ?_
      refine ev_iload_n rfl ?_
      refine g_iast g77242 ad10 rt10 (fun _ => rfl) (by omega) (by omega) (by omega) (by omega) (fun h77244 e77244 g77244 => ?_)
      have k77244 := k77242.wr e77244 rfl
      refine ev_aload_n rfl ?_
      refine g_getp (r := 7) (c := 11) g77244 ad7 (by decide) (by decide) rf7_8 ft5_8 ?_
      refine ev_aload_n rfl ?_
      refine g_getv (r := 7) (v := w3) g77244 ad7 (by decide) ft5_3 (((jw_ne e77244 (Or.inl (by decide))).trans ((jw_ne e77242 (Or.inr (by decide))).trans ((jw_ne e77236 (Or.inr (by decide))).trans ew3)))) ?_
      refine ev_iconst ?_
      refine g_iast g77244 ad11 rt11 (fun _ => rfl) (by omega) (by omega) (by omega) (by omega) (fun h77245 e77245 g77245 => ?_)
      have k77245 := k77244.wr e77245 rfl
      refine ev_aload_n rfl ?_
      refine g_getp (r := 7) (c := 12) g77245 ad7 (by decide) (by decide) rf7_9 ft5_9 ?_
      refine ev_aload_n rfl ?_
      refine g_getv (r := 7) (v := w3) g77245 ad7 (by decide) ft5_3 (((jw_ne e77245 (Or.inl (by decide))).trans ((jw_ne e77244 (Or.inl (by decide))).trans ((jw_ne e77242 (Or.inr (by decide))).trans ((jw_ne e77236 (Or.inr (by decide))).trans ew3))))) ?_
      refine ev_iconst ?_
      refine g_iast g77245 ad12 rt12 (fun _ => rfl) (by omega) (by omega) (by omega) (by omega) (fun h77246 e77246 g77246 => ?_)
      have k77246 := k77245.wr e77246 rfl
      refine ev_aload_n rfl ?_
      refine g_getp (r := 7) (c := 15) g77246 ad7 (by decide) (by decide) rf7_12 ft5_12 ?_
      refine ev_aload_n rfl ?_
      refine g_getv (r := 7) (v := w3) g77246 ad7 (by decide) ft5_3 (((jw_ne e77246 (Or.inl (by decide))).trans ((jw_ne e77245 (Or.inl (by decide))).trans ((jw_ne e77244 (Or.inl (by decide))).trans ((jw_ne e77242 (Or.inr (by decide))).trans ((jw_ne e77236 (Or.inr (by decide))).trans ew3)))))) ?_
      refine ev_iconst ?_
      refine g_iast g77246 ad15 rt15 (fun _ => rfl) (by omega) (by omega) (by omega) (by omega) (fun h77247 e77247 g77247 => ?_)
      have k77247 := k77246.wr e77247 rfl
      refine ev_aload_n rfl ?_
      refine g_getp (r := 7) (c := 16) g77247 ad7 (by decide) (by decide) rf7_13 ft5_13 ?_
      refine ev_aload_n rfl ?_
      refine g_getv (r := 7) (v := w3) g77247 ad7 (by decide) ft5_3 (((jw_ne e77247 (Or.inl (by decide))).trans ((jw_ne e77246 (Or.inl (by decide))).trans ((jw_ne e77245 (Or.inl (by decide))).trans ((jw_ne e77244 (Or.inl (by decide))).trans ((jw_ne e77242 (Or.inr (by decide))).trans ((jw_ne e77236 (Or.inr (by decide))).trans ew3))))))) ?_
      refine ev_iconst ?_
      refine g_iast g77247 ad16 rt16 (fun _ => rfl) (by omega) (by omega) (by omega) (by omega) (fun h77248 e77248 g77248 => ?_)
      have k77248 := k77247.wr e77248 rfl
      refine ev_aload_n rfl ?_
      refine g_getp (r := 7) (c := 17) g77248 ad7 (by decide) (by decide) rf7_14 ft5_14 ?_
      refine ev_aload_n rfl ?_
      refine g_getv (r := 7) (v := w3) g77248 ad7 (by decide) ft5_3 (((jw_ne e77248 (Or.inl (by decide))).trans ((jw_ne e77247 (Or.inl (by decide))).trans ((jw_ne e77246 (Or.inl (by decide))).trans ((jw_ne e77245 (Or.inl (by decide))).trans ((jw_ne e77244 (Or.inl (by decide))).trans ((jw_ne e77242 (Or.inr (by decide))).trans ((jw_ne e77236 (Or.inr (by decide))).trans ew3)))))))) ?_
      refine ev_iconst ?_
      refine g_iast g77248 ad17 rt17 (fun _ => rfl) (by omega) (by omega) (by omega) (by omega) (fun h77249 e77249 g77249 => ?_)
      have k77249 := k77248.wr e77249 rfl
      refine ev_aload_n rfl ?_
      refine ev_dup (by decide) ?_
      refine g_getv (r := 7) (v := w3) g77249 ad7 (by decide) ft5_3 (((jw_ne e77249 (Or.inl (by decide))).trans ((jw_ne e77248 (Or.inl (by decide))).trans ((jw_ne e77247 (Or.inl (by decide))).trans ((jw_ne e77246 (Or.inl (by decide))).trans ((jw_ne e77245 (Or.inl (by decide))).trans ((jw_ne e77244 (Or.inl (by decide))).trans ((jw_ne e77242 (Or.inr (by decide))).trans ((jw_ne e77236 (Or.inr (by decide))).trans ew3))))))))) ?_
      refine ev_iconst ?_
      refine ev_iadd (r := (w3 + 1)) (by unfold w32; omega) ?_
      refine g_putf (r := 7) g77249 ad7 (by decide) ft5_3 (by decide) (fun e => absurd e nz5_3) rf7_3 (by decide) (by omega) (by omega) (fun h77250 e77250 g77250 => ?_)
      have k77250 := k77249.wr e77250 rfl
      refine ev_aload_n rfl ?_
      refine g_getv (r := 7) (v := (w3 + 1)) g77250 ad7 (by decide) ft5_3 ((jw_eq e77250)) ?_
      refine ev_iconst ?_
      refine ev_isub (r := w3) (by unfold w32; omega) ?_
      refine ev_ret rfl (by decide) (by decide) ?_
      show jEv _ _ _ _ _ _ _ (_, [(2, 7), (2, 1), (0, a2), (0, a3), (9, 0), (9, 0), (9, 0)], [(0, w3)], _, _, _)
      refine ev_istore (L' := [(2, 7), (2, 1), (0, a2), (0, a3), (0, w3), (9, 0), (9, 0)]) (Nat.le_of_ble_eq_true rfl) rfl ?_
      refine ev_iconst ?_
      refine ev_istore (L' := [(2, 7), (2, 1), (0, a2), (0, a3), (0, w3), (0, 0), (9, 0)]) (Nat.le_of_ble_eq_true rfl) rfl ?_
      exact (t78_s_l la2 ua2 la3 ua3 ew0 lw0 uw0 ew1 lw1 uw1 ew2 ew3 lw3 uw3 ew4 lw4 uw4 F0 F1 hK hq hb hM hd rih 8) _ _ _ _ _ _ _ g77250 k77250 (by omega) (by omega) (by omega) (by omega) (by omega) (by omega) (by omega) (by omega) (by omega) (by omega) (by omega) (by omega) (((jw_ne e77250 (Or.inr (by decide))).trans ((jw_ne e77249 (Or.inl (by decide))).trans ((jw_ne e77248 (Or.inl (by decide))).trans ((jw_ne e77247 (Or.inl (by decide))).trans ((jw_ne e77246 (Or.inl (by decide))).trans ((jw_ne e77245 (Or.inl (by decide))).trans ((jw_ne e77244 (Or.inl (by decide))).trans (jw_eq e77242))))))))) (by omega) (by omega) (((jw_ne e77250 (Or.inr (by decide))).trans ((jw_ne e77249 (Or.inl (by decide))).trans ((jw_ne e77248 (Or.inl (by decide))).trans ((jw_ne e77247 (Or.inl (by decide))).trans ((jw_ne e77246 (Or.inl (by decide))).trans ((jw_ne e77245 (Or.inl (by decide))).trans ((jw_ne e77244 (Or.inl (by decide))).trans ((jw_ne e77242 (Or.inr (by decide))).trans (jw_eq e77236)))))))))) (by omega) (by omega) ((jw_eq e77250)) (by omega) (by omega) (ci_bad (show (if bC h (w1 + 1) ≠ 40 ∨ 12 ≤ a2 then rF (w1 + 1) else chL (bC h) (RC h w4 K (q - 1) a3 (a2 + 1)) 4 (w1 + 2) 0 0 1) = rF (w1 + 1) by rw [if_pos (Or.inl (fun z => absurd ((bC_end (p := (w1 + 1)) ew0 (by omega)).symm.trans z) (by omega)))]) (by omega) (by show -1 - _ = _; omega)) ((FrN.wr (i := w3) (FrN.wr (i := w3) (FrN.wr (i := w3) ((((((FrN.rf _ _).wn e77236 (by decide)).wn e77242 (by decide)).wn e77244 (by decide)).wn e77245 (by decide)).wn e77246 (by decide)) e77247 (Or.inr (by omega))) e77248 (Or.inr (by omega))) e77249 (Or.inr (by omega))).wn e77250 (by decide)) (by omega)
    · refine ev_aload_n rfl ?_
      refine g_getp (r := 7) (c := 8) g77236 ad7 (by decide) (by decide) rf7_5 ft5_5 ?_
      refine ev_aload_n rfl ?_
      refine g_getv (r := 7) (v := (w1 + 1)) g77236 ad7 (by decide) ft5_2 ((jw_eq e77236)) ?_
      refine g_bald g77236 ad8 rt8 (by omega) (by omega) (fun v77251 ev77251 lv77251 uv77251 => ?_)
      refine ev_sipush ?_
      refine g_iandB (b := 255) (by omega) (by omega) (by decide) (fun v77252 ev77252 lv77252 uv77252 => ?_)
      have zv77252 := sgn ev77252 (by omega) (by omega)
      refine ev_goto f68_28 ?_
      refine ev_ret rfl (by decide) (by decide) ?_
      show jEv _ _ _ _ _ _ _ (_, [(2, 7), (0, 40)], [(0, v77252)], _, _, _)
      refine ev_iload_n rfl ?_
      refine ev_icmpne f71_29 (fun c77253 => ?_) (fun c77253 => ?_)
      · refine ev_aload_n rfl ?_
        refine ev_in (d := (d + 0)) (a := 0) (b := 0) (cd' := c70_0) (m := 1) (L0 := [(2, 7)]) (jcall_v (A := []) (S' := []) (r := 7) rfl (g77236.lt ad7) (g77236.tg ad7) (Nat.le_of_ble_eq_true rfl)) (by decide) ml70 pp70 (Nat.le_of_ble_eq_true rfl) rfl (by decide) (by decide) ?_
        refine ev_aload_n rfl ?_
        refine g_getv (r := 7) (v := (-1)) g77236 ad7 (by decide) ft5_1 (((jw_ne e77236 (Or.inr (by decide))).trans ew2)) ?_
        refine ev_ifge f70_15 (fun c77254 => absurd c77254 (by omega)) (fun c77254 => ?_)
        refine ev_aload_n rfl ?_
        refine ev_aload_n rfl ?_
        refine g_getv (r := 7) (v := (w1 + 1)) g77236 ad7 (by decide) ft5_2 ((jw_eq e77236)) ?_
        refine g_putf (r := 7) g77236 ad7 (by decide) ft5_1 (by decide) (fun e => absurd e nz5_1) rf7_1 (by decide) (by omega) (by omega) (fun h77255 e77255 g77255 => ?_)
        have k77255 := k77236.wr e77255 rfl
        refine ev_ret rfl (by decide) (by decide) ?_
        show jEv _ _ _ _ _ _ _ (_, [(2, 7), (0, 40)], [], _, _, _)
        refine ev_ret rfl (by decide) (by decide) ?_
        show jEv _ _ _ _ _ _ _ (_, [(2, 7), (0, a2)], [], _, _, _)
        refine ev_ret rfl (by decide) (by decide) ?_
        show jEv _ _ _ _ _ _ _ (_, [(2, 7), (2, 1), (0, a2), (0, a3), (9, 0), (9, 0), (9, 0)], [], _, _, _)
        refine ev_aload_n rfl ?_
        refine ev_iconst ?_
        refine ev_in (d := (d + 2)) (a := 0) (b := 0) (cd' := c73_0) (m := 2) (L0 := [(2, 7), (0, 1)]) (jcall_v (A := [(0, 1)]) (S' := []) (r := 7) rfl (g77255.lt ad7) (g77255.tg ad7) (Nat.le_of_ble_eq_true rfl)) (by decide) ml73 pp73 (Nat.le_of_ble_eq_true rfl) rfl (by decide) (by decide) ?_
        refine ev_aload_n rfl ?_
        refine g_getv (r := 7) (v := w3) g77255 ad7 (by decide) ft5_3 (((jw_ne e77255 (Or.inr (by decide))).trans ((jw_ne e77236 (Or.inr (by decide))).trans ew3))) ?_
        refine ev_sipush ?_
        refine ev_icmplt f73_16 (fun c77256 => ?_) (fun c77256 => absurd c77256 (by omega))
        refine ev_aload_n rfl ?_
        refine g_getp (r := 7) (c := 10) g77255 ad7 (by decide) (by decide) rf7_7 ft5_7 ?_
        refine ev_aload_n rfl ?_
        refine g_getv (r := 7) (v := w3) g77255 ad7 (by decide) ft5_3 (((jw_ne e77255 (Or.inr (by decide))).trans ((jw_ne e77236 (Or.inr (by decide))).trans ew3))) ?_
        refine ev_iload_n rfl ?_
        refine g_iast g77255 ad10 rt10 (fun _ => rfl) (by omega) (by omega) (by omega) (by omega) (fun h77257 e77257 g77257 => ?_)
        have k77257 := k77255.wr e77257 rfl
        refine ev_aload_n rfl ?_
        refine g_getp (r := 7) (c := 11) g77257 ad7 (by decide) (by decide) rf7_8 ft5_8 ?_
        refine ev_aload_n rfl ?_
        refine g_getv (r := 7) (v := w3) g77257 ad7 (by decide) ft5_3 (((jw_ne e77257 (Or.inl (by decide))).trans ((jw_ne e77255 (Or.inr (by decide))).trans ((jw_ne e77236 (Or.inr (by decide))).trans ew3)))) ?_
        refine ev_iconst ?_
        refine g_iast g77257 ad11 rt11 (fun _ => rfl) (by omega) (by omega) (by omega) (by omega) (fun h77258 e77258 g77258 => ?_)
        have k77258 := k77257.wr e77258 rfl
        refine ev_aload_n rfl ?_
        refine g_getp (r := 7) (c := 12) g77258 ad7 (by decide) (by decide) rf7_9 ft5_9 ?_
        refine ev_aload_n rfl ?_
        refine g_getv (r := 7) (v := w3) g77258 ad7 (by decide) ft5_3 (((jw_ne e77258 (Or.inl (by decide))).trans ((jw_ne e77257 (Or.inl (by decide))).trans ((jw_ne e77255 (Or.inr (by decide))).trans ((jw_ne e77236 (Or.inr (by decide))).trans ew3))))) ?_
        refine ev_iconst ?_
        refine g_iast g77258 ad12 rt12 (fun _ => rfl) (by omega) (by omega) (by omega) (by omega) (fun h77259 e77259 g77259 => ?_)
        have k77259 := k77258.wr e77259 rfl
        refine ev_aload_n rfl ?_
        refine g_getp (r := 7) (c := 15) g77259 ad7 (by decide) (by decide) rf7_12 ft5_12 ?_
        refine ev_aload_n rfl ?_
        refine g_getv (r := 7) (v := w3) g77259 ad7 (by decide) ft5_3 (((jw_ne e77259 (Or.inl (by decide))).trans ((jw_ne e77258 (Or.inl (by decide))).trans ((jw_ne e77257 (Or.inl (by decide))).trans ((jw_ne e77255 (Or.inr (by decide))).trans ((jw_ne e77236 (Or.inr (by decide))).trans ew3)))))) ?_
        refine ev_iconst ?_
        refine g_iast g77259 ad15 rt15 (fun _ => rfl) (by omega) (by omega) (by omega) (by omega) (fun h77260 e77260 g77260 => ?_)
        have k77260 := k77259.wr e77260 rfl
        refine ev_aload_n rfl ?_
        refine g_getp (r := 7) (c := 16) g77260 ad7 (by decide) (by decide) rf7_13 ft5_13 ?_
        refine ev_aload_n rfl ?_
        refine g_getv (r := 7) (v := w3) g77260 ad7 (by decide) ft5_3 (((jw_ne e77260 (Or.inl (by decide))).trans ((jw_ne e77259 (Or.inl (by decide))).trans ((jw_ne e77258 (Or.inl (by decide))).trans ((jw_ne e77257 (Or.inl (by decide))).trans ((jw_ne e77255 (Or.inr (by decide))).trans ((jw_ne e77236 (Or.inr (by decide))).trans ew3))))))) ?_
        refine ev_iconst ?_
        refine g_iast g77260 ad16 rt16 (fun _ => rfl) (by omega) (by omega) (by omega) (by omega) (fun h77261 e77261 g77261 => ?_)
        have k77261 := k77260.wr e77261 rfl
        refine ev_aload_n rfl ?_
        refine g_getp (r := 7) (c := 17) g77261 ad7 (by decide) (by decide) rf7_14 ft5_14 ?_
        refine ev_aload_n rfl ?_
        refine g_getv (r := 7) (v := w3) g77261 ad7 (by decide) ft5_3 (((jw_ne e77261 (Or.inl (by decide))).trans ((jw_ne e77260 (Or.inl (by decide))).trans ((jw_ne e77259 (Or.inl (by decide))).trans ((jw_ne e77258 (Or.inl (by decide))).trans ((jw_ne e77257 (Or.inl (by decide))).trans ((jw_ne e77255 (Or.inr (by decide))).trans ((jw_ne e77236 (Or.inr (by decide))).trans ew3)))))))) ?_
        refine ev_iconst ?_
        refine g_iast g77261 ad17 rt17 (fun _ => rfl) (by omega) (by omega) (by omega) (by omega) (fun h77262 e77262 g77262 => ?_)
        have k77262 := k77261.wr e77262 rfl
        refine ev_aload_n rfl ?_
        refine ev_dup (by decide) ?_
        refine g_getv (r := 7) (v := w3) g77262 ad7 (by decide) ft5_3 (((jw_ne e77262 (Or.inl (by decide))).trans ((jw_ne e77261 (Or.inl (by decide))).trans ((jw_ne e77260 (Or.inl (by decide))).trans ((jw_ne e77259 (Or.inl (by decide))).trans ((jw_ne e77258 (Or.inl (by decide))).trans ((jw_ne e77257 (Or.inl (by decide))).trans ((jw_ne e77255 (Or.inr (by decide))).trans ((jw_ne e77236 (Or.inr (by decide))).trans ew3))))))))) ?_
        refine ev_iconst ?_
        refine ev_iadd (r := (w3 + 1)) (by unfold w32; omega) ?_
        refine g_putf (r := 7) g77262 ad7 (by decide) ft5_3 (by decide) (fun e => absurd e nz5_3) rf7_3 (by decide) (by omega) (by omega) (fun h77263 e77263 g77263 => ?_)
        have k77263 := k77262.wr e77263 rfl
        refine ev_aload_n rfl ?_
        refine g_getv (r := 7) (v := (w3 + 1)) g77263 ad7 (by decide) ft5_3 ((jw_eq e77263)) ?_
        refine ev_iconst ?_
        refine ev_isub (r := w3) (by unfold w32; omega) ?_
        refine ev_ret rfl (by decide) (by decide) ?_
        show jEv _ _ _ _ _ _ _ (_, [(2, 7), (2, 1), (0, a2), (0, a3), (9, 0), (9, 0), (9, 0)], [(0, w3)], _, _, _)
        refine ev_istore (L' := [(2, 7), (2, 1), (0, a2), (0, a3), (0, w3), (9, 0), (9, 0)]) (Nat.le_of_ble_eq_true rfl) rfl ?_
        refine ev_iconst ?_
        refine ev_istore (L' := [(2, 7), (2, 1), (0, a2), (0, a3), (0, w3), (0, 0), (9, 0)]) (Nat.le_of_ble_eq_true rfl) rfl ?_
        exact (t78_s_l la2 ua2 la3 ua3 ew0 lw0 uw0 ew1 lw1 uw1 ew2 ew3 lw3 uw3 ew4 lw4 uw4 F0 F1 hK hq hb hM hd rih 8) _ _ _ _ _ _ _ g77263 k77263 (by omega) (by omega) (by omega) (by omega) (by omega) (by omega) (by omega) (by omega) (by omega) (by omega) (by omega) (by omega) (((jw_ne e77263 (Or.inr (by decide))).trans ((jw_ne e77262 (Or.inl (by decide))).trans ((jw_ne e77261 (Or.inl (by decide))).trans ((jw_ne e77260 (Or.inl (by decide))).trans ((jw_ne e77259 (Or.inl (by decide))).trans ((jw_ne e77258 (Or.inl (by decide))).trans ((jw_ne e77257 (Or.inl (by decide))).trans (jw_eq e77255))))))))) (by omega) (by omega) (((jw_ne e77263 (Or.inr (by decide))).trans ((jw_ne e77262 (Or.inl (by decide))).trans ((jw_ne e77261 (Or.inl (by decide))).trans ((jw_ne e77260 (Or.inl (by decide))).trans ((jw_ne e77259 (Or.inl (by decide))).trans ((jw_ne e77258 (Or.inl (by decide))).trans ((jw_ne e77257 (Or.inl (by decide))).trans ((jw_ne e77255 (Or.inr (by decide))).trans (jw_eq e77236)))))))))) (by omega) (by omega) ((jw_eq e77263)) (by omega) (by omega) (ci_bad (show (if bC h (w1 + 1) ≠ 40 ∨ 12 ≤ a2 then rF (w1 + 1) else chL (bC h) (RC h w4 K (q - 1) a3 (a2 + 1)) 4 (w1 + 2) 0 0 1) = rF (w1 + 1) by rw [if_pos (Or.inl (fun z => absurd ((bC_at (p := (w1 + 1)) k77263 (fun _ => rfl) ew0 (((jw_ne e77263 (Or.inl (by decide))).trans ((jw_ne e77262 (Or.inl (by decide))).trans ((jw_ne e77261 (Or.inl (by decide))).trans ((jw_ne e77260 (Or.inl (by decide))).trans ((jw_ne e77259 (Or.inl (by decide))).trans ((jw_ne e77258 (Or.inl (by decide))).trans ((jw_ne e77257 (Or.inl (by decide))).trans ((jw_ne e77255 (Or.inl (by decide))).trans ev77251))))))))) (by omega) (by omega)).symm.trans z) (by omega)))]) (by omega) (by show -1 - _ = _; omega)) ((FrN.wr (i := w3) (FrN.wr (i := w3) (FrN.wr (i := w3) ((((((FrN.rf _ _).wn e77236 (by decide)).wn e77255 (by decide)).wn e77257 (by decide)).wn e77258 (by decide)).wn e77259 (by decide)) e77260 (Or.inr (by omega))) e77261 (Or.inr (by omega))) e77262 (Or.inr (by omega))).wn e77263 (by decide)) (by omega)
      · refine ev_aload_n rfl ?_
        refine ev_dup (by decide) ?_
        refine g_getv (r := 7) (v := (w1 + 1)) g77236 ad7 (by decide) ft5_2 ((jw_eq e77236)) ?_
        refine ev_iconst ?_
        refine ev_iadd (r := (w1 + 2)) (by unfold w32; omega) ?_
        refine g_putf (r := 7) g77236 ad7 (by decide) ft5_2 (by decide) (fun e => absurd e nz5_2) rf7_2 (by decide) (by omega) (by omega) (fun h77264 e77264 g77264 => ?_)
        have k77264 := k77236.wr e77264 rfl
        refine ev_goto f71_33 ?_
        refine ev_ret rfl (by decide) (by decide) ?_
        show jEv _ _ _ _ _ _ _ (_, [(2, 7), (0, a2)], [], _, _, _)
        refine ev_ret rfl (by decide) (by decide) ?_
        show jEv _ _ _ _ _ _ _ (_, [(2, 7), (2, 1), (0, a2), (0, a3), (9, 0), (9, 0), (9, 0)], [], _, _, _)
        refine ev_aload_n rfl ?_
        refine ev_iconst ?_
        refine ev_in (d := (d + 2)) (a := 0) (b := 0) (cd' := c73_0) (m := 2) (L0 := [(2, 7), (0, 1)]) (jcall_v (A := [(0, 1)]) (S' := []) (r := 7) rfl (g77264.lt ad7) (g77264.tg ad7) (Nat.le_of_ble_eq_true rfl)) (by decide) ml73 pp73 (Nat.le_of_ble_eq_true rfl) rfl (by decide) (by decide) ?_
        refine ev_aload_n rfl ?_
        refine g_getv (r := 7) (v := w3) g77264 ad7 (by decide) ft5_3 (((jw_ne e77264 (Or.inr (by decide))).trans ((jw_ne e77236 (Or.inr (by decide))).trans ew3))) ?_
        refine ev_sipush ?_
        refine ev_icmplt f73_16 (fun c77265 => ?_) (fun c77265 => absurd c77265 (by omega))
        refine ev_aload_n rfl ?_
        refine g_getp (r := 7) (c := 10) g77264 ad7 (by decide) (by decide) rf7_7 ft5_7 ?_
        refine ev_aload_n rfl ?_
        refine g_getv (r := 7) (v := w3) g77264 ad7 (by decide) ft5_3 (((jw_ne e77264 (Or.inr (by decide))).trans ((jw_ne e77236 (Or.inr (by decide))).trans ew3))) ?_
        refine ev_iload_n rfl ?_
        refine g_iast g77264 ad10 rt10 (fun _ => rfl) (by omega) (by omega) (by omega) (by omega) (fun h77266 e77266 g77266 => ?_)
        have k77266 := k77264.wr e77266 rfl
        refine ev_aload_n rfl ?_
        refine g_getp (r := 7) (c := 11) g77266 ad7 (by decide) (by decide) rf7_8 ft5_8 ?_
        refine ev_aload_n rfl ?_
        refine g_getv (r := 7) (v := w3) g77266 ad7 (by decide) ft5_3 (((jw_ne e77266 (Or.inl (by decide))).trans ((jw_ne e77264 (Or.inr (by decide))).trans ((jw_ne e77236 (Or.inr (by decide))).trans ew3)))) ?_
        refine ev_iconst ?_
        refine g_iast g77266 ad11 rt11 (fun _ => rfl) (by omega) (by omega) (by omega) (by omega) (fun h77267 e77267 g77267 => ?_)
        have k77267 := k77266.wr e77267 rfl
        refine ev_aload_n rfl ?_
        refine g_getp (r := 7) (c := 12) g77267 ad7 (by decide) (by decide) rf7_9 ft5_9 ?_
        refine ev_aload_n rfl ?_
        refine g_getv (r := 7) (v := w3) g77267 ad7 (by decide) ft5_3 (((jw_ne e77267 (Or.inl (by decide))).trans ((jw_ne e77266 (Or.inl (by decide))).trans ((jw_ne e77264 (Or.inr (by decide))).trans ((jw_ne e77236 (Or.inr (by decide))).trans ew3))))) ?_
        refine ev_iconst ?_
        refine g_iast g77267 ad12 rt12 (fun _ => rfl) (by omega) (by omega) (by omega) (by omega) (fun h77268 e77268 g77268 => ?_)
        have k77268 := k77267.wr e77268 rfl
        refine ev_aload_n rfl ?_
        refine g_getp (r := 7) (c := 15) g77268 ad7 (by decide) (by decide) rf7_12 ft5_12 ?_
        refine ev_aload_n rfl ?_
        refine g_getv (r := 7) (v := w3) g77268 ad7 (by decide) ft5_3 (((jw_ne e77268 (Or.inl (by decide))).trans ((jw_ne e77267 (Or.inl (by decide))).trans ((jw_ne e77266 (Or.inl (by decide))).trans ((jw_ne e77264 (Or.inr (by decide))).trans ((jw_ne e77236 (Or.inr (by decide))).trans ew3)))))) ?_
        refine ev_iconst ?_
        refine g_iast g77268 ad15 rt15 (fun _ => rfl) (by omega) (by omega) (by omega) (by omega) (fun h77269 e77269 g77269 => ?_)
        have k77269 := k77268.wr e77269 rfl
        refine ev_aload_n rfl ?_
        refine g_getp (r := 7) (c := 16) g77269 ad7 (by decide) (by decide) rf7_13 ft5_13 ?_
        refine ev_aload_n rfl ?_
        refine g_getv (r := 7) (v := w3) g77269 ad7 (by decide) ft5_3 (((jw_ne e77269 (Or.inl (by decide))).trans ((jw_ne e77268 (Or.inl (by decide))).trans ((jw_ne e77267 (Or.inl (by decide))).trans ((jw_ne e77266 (Or.inl (by decide))).trans ((jw_ne e77264 (Or.inr (by decide))).trans ((jw_ne e77236 (Or.inr (by decide))).trans ew3))))))) ?_
        refine ev_iconst ?_
        refine g_iast g77269 ad16 rt16 (fun _ => rfl) (by omega) (by omega) (by omega) (by omega) (fun h77270 e77270 g77270 => ?_)
        have k77270 := k77269.wr e77270 rfl
        refine ev_aload_n rfl ?_
        refine g_getp (r := 7) (c := 17) g77270 ad7 (by decide) (by decide) rf7_14 ft5_14 ?_
        refine ev_aload_n rfl ?_
        refine g_getv (r := 7) (v := w3) g77270 ad7 (by decide) ft5_3 (((jw_ne e77270 (Or.inl (by decide))).trans ((jw_ne e77269 (Or.inl (by decide))).trans ((jw_ne e77268 (Or.inl (by decide))).trans ((jw_ne e77267 (Or.inl (by decide))).trans ((jw_ne e77266 (Or.inl (by decide))).trans ((jw_ne e77264 (Or.inr (by decide))).trans ((jw_ne e77236 (Or.inr (by decide))).trans ew3)))))))) ?_
        refine ev_iconst ?_
        refine g_iast g77270 ad17 rt17 (fun _ => rfl) (by omega) (by omega) (by omega) (by omega) (fun h77271 e77271 g77271 => ?_)
        have k77271 := k77270.wr e77271 rfl
        refine ev_aload_n rfl ?_
        refine ev_dup (by decide) ?_
        refine g_getv (r := 7) (v := w3) g77271 ad7 (by decide) ft5_3 (((jw_ne e77271 (Or.inl (by decide))).trans ((jw_ne e77270 (Or.inl (by decide))).trans ((jw_ne e77269 (Or.inl (by decide))).trans ((jw_ne e77268 (Or.inl (by decide))).trans ((jw_ne e77267 (Or.inl (by decide))).trans ((jw_ne e77266 (Or.inl (by decide))).trans ((jw_ne e77264 (Or.inr (by decide))).trans ((jw_ne e77236 (Or.inr (by decide))).trans ew3))))))))) ?_
        refine ev_iconst ?_
        refine ev_iadd (r := (w3 + 1)) (by unfold w32; omega) ?_
        refine g_putf (r := 7) g77271 ad7 (by decide) ft5_3 (by decide) (fun e => absurd e nz5_3) rf7_3 (by decide) (by omega) (by omega) (fun h77272 e77272 g77272 => ?_)
        have k77272 := k77271.wr e77272 rfl
        refine ev_aload_n rfl ?_
        refine g_getv (r := 7) (v := (w3 + 1)) g77272 ad7 (by decide) ft5_3 ((jw_eq e77272)) ?_
        refine ev_iconst ?_
        refine ev_isub (r := w3) (by unfold w32; omega) ?_
        refine ev_ret rfl (by decide) (by decide) ?_
        show jEv _ _ _ _ _ _ _ (_, [(2, 7), (2, 1), (0, a2), (0, a3), (9, 0), (9, 0), (9, 0)], [(0, w3)], _, _, _)
        refine ev_istore (L' := [(2, 7), (2, 1), (0, a2), (0, a3), (0, w3), (9, 0), (9, 0)]) (Nat.le_of_ble_eq_true rfl) rfl ?_
        refine ev_iconst ?_
        refine ev_istore (L' := [(2, 7), (2, 1), (0, a2), (0, a3), (0, w3), (0, 0), (9, 0)]) (Nat.le_of_ble_eq_true rfl) rfl ?_
        exact (t78_s_l la2 ua2 la3 ua3 ew0 lw0 uw0 ew1 lw1 uw1 ew2 ew3 lw3 uw3 ew4 lw4 uw4 F0 F1 hK hq hb hM hd rih 8) _ _ _ _ _ _ _ g77272 k77272 (by omega) (by omega) (by omega) (by omega) (by omega) (by omega) (by omega) (by omega) (by omega) (by omega) (by omega) (by omega) (((jw_ne e77272 (Or.inr (by decide))).trans ((jw_ne e77271 (Or.inl (by decide))).trans ((jw_ne e77270 (Or.inl (by decide))).trans ((jw_ne e77269 (Or.inl (by decide))).trans ((jw_ne e77268 (Or.inl (by decide))).trans ((jw_ne e77267 (Or.inl (by decide))).trans ((jw_ne e77266 (Or.inl (by decide))).trans ((jw_ne e77264 (Or.inr (by decide))).trans ((jw_ne e77236 (Or.inr (by decide))).trans ew2)))))))))) (by omega) (by omega) (((jw_ne e77272 (Or.inr (by decide))).trans ((jw_ne e77271 (Or.inl (by decide))).trans ((jw_ne e77270 (Or.inl (by decide))).trans ((jw_ne e77269 (Or.inl (by decide))).trans ((jw_ne e77268 (Or.inl (by decide))).trans ((jw_ne e77267 (Or.inl (by decide))).trans ((jw_ne e77266 (Or.inl (by decide))).trans (jw_eq e77264))))))))) (by omega) (by omega) ((jw_eq e77272)) (by omega) (by omega) (ci_start (show (if bC h (w1 + 1) ≠ 40 ∨ 12 ≤ a2 then rF (w1 + 1) else chL (bC h) (RC h w4 K (q - 1) a3 (a2 + 1)) 4 (w1 + 2) 0 0 1) = chL (bC h) (RC h w4 K (q - 1) a3 (a2 + 1)) 4 (w1 + 2) 0 0 1 by rw [if_neg (by rw [(bC_at (p := (w1 + 1)) k77272 (fun _ => rfl) ew0 (((jw_ne e77272 (Or.inl (by decide))).trans ((jw_ne e77271 (Or.inl (by decide))).trans ((jw_ne e77270 (Or.inl (by decide))).trans ((jw_ne e77269 (Or.inl (by decide))).trans ((jw_ne e77268 (Or.inl (by decide))).trans ((jw_ne e77267 (Or.inl (by decide))).trans ((jw_ne e77266 (Or.inl (by decide))).trans ((jw_ne e77264 (Or.inl (by decide))).trans ev77251))))))))) (by omega) (by omega))]; omega)]) (by omega) (by omega) (by omega) (((jw_ne e77272 (Or.inl (by decide))).trans ((jw_ne e77271 (Or.inl (by decide))).trans ((jw_ne e77270 (Or.inl (by decide))).trans (jw_eq e77269))))) (((jw_ne e77272 (Or.inl (by decide))).trans ((jw_ne e77271 (Or.inl (by decide))).trans (jw_eq e77270)))) (((jw_ne e77272 (Or.inl (by decide))).trans (jw_eq e77271)))) ((FrN.wr (i := w3) (FrN.wr (i := w3) (FrN.wr (i := w3) ((((((FrN.rf _ _).wn e77236 (by decide)).wn e77264 (by decide)).wn e77266 (by decide)).wn e77267 (by decide)).wn e77268 (by decide)) e77269 (Or.inr (by omega))) e77270 (Or.inr (by omega))) e77271 (Or.inr (by omega))).wn e77272 (by decide)) (by omega)
  · refine ev_aload_n rfl ?_
    refine ev_in (d := (d + 1)) (a := 0) (b := 0) (cd' := c70_0) (m := 1) (L0 := [(2, 7)]) (jcall_v (A := []) (S' := []) (r := 7) rfl (g77236.lt ad7) (g77236.tg ad7) (Nat.le_of_ble_eq_true rfl)) (by decide) ml70 pp70 (Nat.le_of_ble_eq_true rfl) rfl (by decide) (by decide) ?_
    refine ev_aload_n rfl ?_
    refine g_getv (r := 7) (v := (-1)) g77236 ad7 (by decide) ft5_1 (((jw_ne e77236 (Or.inr (by decide))).trans ew2)) ?_
    refine ev_ifge f70_15 (fun c77273 => absurd c77273 (by omega)) (fun c77273 => ?_)
    refine ev_aload_n rfl ?_
    refine ev_aload_n rfl ?_
    refine g_getv (r := 7) (v := (w1 + 1)) g77236 ad7 (by decide) ft5_2 ((jw_eq e77236)) ?_
    refine g_putf (r := 7) g77236 ad7 (by decide) ft5_1 (by decide) (fun e => absurd e nz5_1) rf7_1 (by decide) (by omega) (by omega) (fun h77274 e77274 g77274 => ?_)
    have k77274 := k77236.wr e77274 rfl
    refine ev_ret rfl (by decide) (by decide) ?_
    show jEv _ _ _ _ _ _ _ (_, [(2, 7), (0, a2)], [], _, _, _)
    refine ev_aload_n rfl ?_
    refine ev_bipush ?_
    refine ev_in (d := (d + 1)) (a := 0) (b := 0) (cd' := c71_0) (m := 2) (L0 := [(2, 7), (0, 40)]) (jcall_v (A := [(0, 40)]) (S' := []) (r := 7) rfl (g77274.lt ad7) (g77274.tg ad7) (Nat.le_of_ble_eq_true rfl)) (by decide) ml71 pp71 (Nat.le_of_ble_eq_true rfl) rfl (by decide) (by decide) ?_
    refine ev_aload_n rfl ?_
    refine g_getv (r := 7) (v := (w1 + 1)) g77274 ad7 (by decide) ft5_1 ((jw_eq e77274)) ?_
    refine ev_iflt f71_8 (fun c77275 => absurd c77275 (by omega)) (fun c77275 => ?_)
    refine ev_ret rfl (by decide) (by decide) ?_
    show jEv _ _ _ _ _ _ _ (_, [(2, 7), (0, a2)], [], _, _, _)
    refine ev_ret rfl (by decide) (by decide) ?_
    show jEv _ _ _ _ _ _ _ (_, [(2, 7), (2, 1), (0, a2), (0, a3), (9, 0), (9, 0), (9, 0)], [], _, _, _)
    refine ev_aload_n rfl ?_
    refine ev_iconst ?_
    refine ev_in (d := (d + 2)) (a := 0) (b := 0) (cd' := c73_0) (m := 2) (L0 := [(2, 7), (0, 1)]) (jcall_v (A := [(0, 1)]) (S' := []) (r := 7) rfl (g77274.lt ad7) (g77274.tg ad7) (Nat.le_of_ble_eq_true rfl)) (by decide) ml73 pp73 (Nat.le_of_ble_eq_true rfl) rfl (by decide) (by decide) ?_
    refine ev_aload_n rfl ?_
    refine g_getv (r := 7) (v := w3) g77274 ad7 (by decide) ft5_3 (((jw_ne e77274 (Or.inr (by decide))).trans ((jw_ne e77236 (Or.inr (by decide))).trans ew3))) ?_
    refine ev_sipush ?_
    refine ev_icmplt f73_16 (fun c77276 => ?_) (fun c77276 => absurd c77276 (by omega))
    refine ev_aload_n rfl ?_
    refine g_getp (r := 7) (c := 10) g77274 ad7 (by decide) (by decide) rf7_7 ft5_7 ?_
    refine ev_aload_n rfl ?_
    refine g_getv (r := 7) (v := w3) g77274 ad7 (by decide) ft5_3 (((jw_ne e77274 (Or.inr (by decide))).trans ((jw_ne e77236 (Or.inr (by decide))).trans ew3))) ?_
    refine ev_iload_n rfl ?_
    refine g_iast g77274 ad10 rt10 (fun _ => rfl) (by omega) (by omega) (by omega) (by omega) (fun h77277 e77277 g77277 => ?_)
    have k77277 := k77274.wr e77277 rfl
    refine ev_aload_n rfl ?_
    refine g_getp (r := 7) (c := 11) g77277 ad7 (by decide) (by decide) rf7_8 ft5_8 ?_
    refine ev_aload_n rfl ?_
    refine g_getv (r := 7) (v := w3) g77277 ad7 (by decide) ft5_3 (((jw_ne e77277 (Or.inl (by decide))).trans ((jw_ne e77274 (Or.inr (by decide))).trans ((jw_ne e77236 (Or.inr (by decide))).trans ew3)))) ?_
    refine ev_iconst ?_
    refine g_iast g77277 ad11 rt11 (fun _ => rfl) (by omega) (by omega) (by omega) (by omega) (fun h77278 e77278 g77278 => ?_)
    have k77278 := k77277.wr e77278 rfl
    refine ev_aload_n rfl ?_
    refine g_getp (r := 7) (c := 12) g77278 ad7 (by decide) (by decide) rf7_9 ft5_9 ?_
    refine ev_aload_n rfl ?_
    refine g_getv (r := 7) (v := w3) g77278 ad7 (by decide) ft5_3 (((jw_ne e77278 (Or.inl (by decide))).trans ((jw_ne e77277 (Or.inl (by decide))).trans ((jw_ne e77274 (Or.inr (by decide))).trans ((jw_ne e77236 (Or.inr (by decide))).trans ew3))))) ?_
    refine ev_iconst ?_
    refine g_iast g77278 ad12 rt12 (fun _ => rfl) (by omega) (by omega) (by omega) (by omega) (fun h77279 e77279 g77279 => ?_)
    have k77279 := k77278.wr e77279 rfl
    refine ev_aload_n rfl ?_
    refine g_getp (r := 7) (c := 15) g77279 ad7 (by decide) (by decide) rf7_12 ft5_12 ?_
    refine ev_aload_n rfl ?_
    refine g_getv (r := 7) (v := w3) g77279 ad7 (by decide) ft5_3 (((jw_ne e77279 (Or.inl (by decide))).trans ((jw_ne e77278 (Or.inl (by decide))).trans ((jw_ne e77277 (Or.inl (by decide))).trans ((jw_ne e77274 (Or.inr (by decide))).trans ((jw_ne e77236 (Or.inr (by decide))).trans ew3)))))) ?_
    refine ev_iconst ?_
    refine g_iast g77279 ad15 rt15 (fun _ => rfl) (by omega) (by omega) (by omega) (by omega) (fun h77280 e77280 g77280 => ?_)
    have k77280 := k77279.wr e77280 rfl
    refine ev_aload_n rfl ?_
    refine g_getp (r := 7) (c := 16) g77280 ad7 (by decide) (by decide) rf7_13 ft5_13 ?_
    refine ev_aload_n rfl ?_
    refine g_getv (r := 7) (v := w3) g77280 ad7 (by decide) ft5_3 (((jw_ne e77280 (Or.inl (by decide))).trans ((jw_ne e77279 (Or.inl (by decide))).trans ((jw_ne e77278 (Or.inl (by decide))).trans ((jw_ne e77277 (Or.inl (by decide))).trans ((jw_ne e77274 (Or.inr (by decide))).trans ((jw_ne e77236 (Or.inr (by decide))).trans ew3))))))) ?_
    refine ev_iconst ?_
    refine g_iast g77280 ad16 rt16 (fun _ => rfl) (by omega) (by omega) (by omega) (by omega) (fun h77281 e77281 g77281 => ?_)
    have k77281 := k77280.wr e77281 rfl
    refine ev_aload_n rfl ?_
    refine g_getp (r := 7) (c := 17) g77281 ad7 (by decide) (by decide) rf7_14 ft5_14 ?_
    refine ev_aload_n rfl ?_
    refine g_getv (r := 7) (v := w3) g77281 ad7 (by decide) ft5_3 (((jw_ne e77281 (Or.inl (by decide))).trans ((jw_ne e77280 (Or.inl (by decide))).trans ((jw_ne e77279 (Or.inl (by decide))).trans ((jw_ne e77278 (Or.inl (by decide))).trans ((jw_ne e77277 (Or.inl (by decide))).trans ((jw_ne e77274 (Or.inr (by decide))).trans ((jw_ne e77236 (Or.inr (by decide))).trans ew3)))))))) ?_
    refine ev_iconst ?_
    refine g_iast g77281 ad17 rt17 (fun _ => rfl) (by omega) (by omega) (by omega) (by omega) (fun h77282 e77282 g77282 => ?_)
    have k77282 := k77281.wr e77282 rfl
    refine ev_aload_n rfl ?_
    refine ev_dup (by decide) ?_
    refine g_getv (r := 7) (v := w3) g77282 ad7 (by decide) ft5_3 (((jw_ne e77282 (Or.inl (by decide))).trans ((jw_ne e77281 (Or.inl (by decide))).trans ((jw_ne e77280 (Or.inl (by decide))).trans ((jw_ne e77279 (Or.inl (by decide))).trans ((jw_ne e77278 (Or.inl (by decide))).trans ((jw_ne e77277 (Or.inl (by decide))).trans ((jw_ne e77274 (Or.inr (by decide))).trans ((jw_ne e77236 (Or.inr (by decide))).trans ew3))))))))) ?_
    refine ev_iconst ?_
    refine ev_iadd (r := (w3 + 1)) (by unfold w32; omega) ?_
    refine g_putf (r := 7) g77282 ad7 (by decide) ft5_3 (by decide) (fun e => absurd e nz5_3) rf7_3 (by decide) (by omega) (by omega) (fun h77283 e77283 g77283 => ?_)
    have k77283 := k77282.wr e77283 rfl
    refine ev_aload_n rfl ?_
    refine g_getv (r := 7) (v := (w3 + 1)) g77283 ad7 (by decide) ft5_3 ((jw_eq e77283)) ?_
    refine ev_iconst ?_
    refine ev_isub (r := w3) (by unfold w32; omega) ?_
    refine ev_ret rfl (by decide) (by decide) ?_
    show jEv _ _ _ _ _ _ _ (_, [(2, 7), (2, 1), (0, a2), (0, a3), (9, 0), (9, 0), (9, 0)], [(0, w3)], _, _, _)
    refine ev_istore (L' := [(2, 7), (2, 1), (0, a2), (0, a3), (0, w3), (9, 0), (9, 0)]) (Nat.le_of_ble_eq_true rfl) rfl ?_
    refine ev_iconst ?_
    refine ev_istore (L' := [(2, 7), (2, 1), (0, a2), (0, a3), (0, w3), (0, 0), (9, 0)]) (Nat.le_of_ble_eq_true rfl) rfl ?_
    exact (t78_s_l la2 ua2 la3 ua3 ew0 lw0 uw0 ew1 lw1 uw1 ew2 ew3 lw3 uw3 ew4 lw4 uw4 F0 F1 hK hq hb hM hd rih 8) _ _ _ _ _ _ _ g77283 k77283 (by omega) (by omega) (by omega) (by omega) (by omega) (by omega) (by omega) (by omega) (by omega) (by omega) (by omega) (by omega) (((jw_ne e77283 (Or.inr (by decide))).trans ((jw_ne e77282 (Or.inl (by decide))).trans ((jw_ne e77281 (Or.inl (by decide))).trans ((jw_ne e77280 (Or.inl (by decide))).trans ((jw_ne e77279 (Or.inl (by decide))).trans ((jw_ne e77278 (Or.inl (by decide))).trans ((jw_ne e77277 (Or.inl (by decide))).trans (jw_eq e77274))))))))) (by omega) (by omega) (((jw_ne e77283 (Or.inr (by decide))).trans ((jw_ne e77282 (Or.inl (by decide))).trans ((jw_ne e77281 (Or.inl (by decide))).trans ((jw_ne e77280 (Or.inl (by decide))).trans ((jw_ne e77279 (Or.inl (by decide))).trans ((jw_ne e77278 (Or.inl (by decide))).trans ((jw_ne e77277 (Or.inl (by decide))).trans ((jw_ne e77274 (Or.inr (by decide))).trans (jw_eq e77236)))))))))) (by omega) (by omega) ((jw_eq e77283)) (by omega) (by omega) (ci_bad (show (if bC h (w1 + 1) ≠ 40 ∨ 12 ≤ a2 then rF (w1 + 1) else chL (bC h) (RC h w4 K (q - 1) a3 (a2 + 1)) 4 (w1 + 2) 0 0 1) = rF (w1 + 1) by rw [if_pos (Or.inr (by omega))]) (by omega) (by show -1 - _ = _; omega)) ((FrN.wr (i := w3) (FrN.wr (i := w3) (FrN.wr (i := w3) ((((((FrN.rf _ _).wn e77236 (by decide)).wn e77274 (by decide)).wn e77277 (by decide)).wn e77278 (by decide)).wn e77279 (by decide)) e77280 (Or.inr (by omega))) e77281 (Or.inr (by omega))) e77282 (Or.inr (by omega))).wn e77283 (by decide)) (by omega)
