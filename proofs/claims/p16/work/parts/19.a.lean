def Up (h h' : JH) (a : Nat) (i v : Int) : Prop := h'.2.2 a i.toNat = v ∧ ∀ j : Nat, j ≠ i.toNat → h'.2.2 a j = h.2.2 a j
theorem Up.mk2 {h h' : JH} {a : Nat} {i i' v v' : Int} (e : h' = jwr h a i.toNat v) (hi : i' = i) (hv : v' = v) : Up h h' a i' v' := by
  subst hi
  subst hv
  exact ⟨jw_eq e, fun j hj => jw_ne e (Or.inr hj)⟩
theorem Up.kp {W : List (Nat × Nat)} {h h1 h2 : JH} {a : Nat} {i v : Int} (u : Up h h1 a i v) (k : Kp W h1 h2) (c : ∀ j, inW W a j = false) : Up h h2 a i v := ⟨(k.v (c _)).trans u.1, fun j hj => (k.v (c _)).trans (u.2 j hj)⟩
theorem Up.pk {W : List (Nat × Nat)} {h h1 h2 : JH} {a : Nat} {i v : Int} (k : Kp W h h1) (c : ∀ j, inW W a j = false) (u : Up h1 h2 a i v) : Up h h2 a i v := ⟨u.1, fun j hj => (u.2 j hj).trans (k.v (c _))⟩
def Sm (h h' : JH) (a : Nat) : Prop := ∀ j : Nat, h'.2.2 a j = h.2.2 a j
def kdT (t : Nat) : Int := if t = 0 then 0 else if t = 1 then 1 else if t = 2 then 2 else if t = 3 then 4 else if t = 6 then 3 else 5
def lC (h : JH) (c : Int) : Nat → Int
  | 0 => 100
  | k + 1 => if h.2.2 20 k ≤ c then h.2.2 21 k else lC h c k
def bR (h : JH) (c : Int) : Nat → Int
  | 0 => -1
  | k + 1 => if h.2.2 62 k ≤ c ∧ (bR h c k < 0 ∨ h.2.2 62 (bR h c k).toNat ≤ h.2.2 62 k) then (k : Int) else bR h c k
def cR (h : JH) (m : Nat) (c : Int) : Int := if bR h c m < 0 then 100 else 10 * h.2.2 63 (bR h c m).toNat
def Ss (h : JH) (u : Nat) : Prop := (∀ i j : Nat, i < j → j < u → h.2.2 20 i < h.2.2 20 j) ∧ ∀ i : Nat, i < u → -9999 ≤ h.2.2 20 i ∧ h.2.2 20 i ≤ 9999 ∧ 0 ≤ h.2.2 21 i ∧ h.2.2 21 i ≤ 90
def S1 (h : JH) (u m : Nat) : Prop := ∀ j : Nat, j < u → ∃ k : Nat, k < m ∧ h.2.2 62 k = h.2.2 20 j ∧ h.2.2 21 j = 10 * h.2.2 63 k ∧ ∀ k' : Nat, k < k' → k' < m → h.2.2 62 k' ≠ h.2.2 20 j
def S2 (h : JH) (u m : Nat) : Prop := ∀ k : Nat, k < m → ∃ j : Nat, j < u ∧ h.2.2 20 j = h.2.2 62 k
theorem lC_sp (h : JH) (c : Int) (u : Nat) : ((∀ j : Nat, j < u → c < h.2.2 20 j) ∧ lC h c u = 100) ∨ ∃ j : Nat, j < u ∧ h.2.2 20 j ≤ c ∧ (∀ i : Nat, j < i → i < u → c < h.2.2 20 i) ∧ lC h c u = h.2.2 21 j := by
  induction u with
  | zero => exact Or.inl ⟨fun j hj => absurd hj (Nat.not_lt_zero _), rfl⟩
  | succ k ih =>
    unfold lC
    by_cases z : h.2.2 20 k ≤ c
    · rw [if_pos z]
      exact Or.inr ⟨k, by omega, z, fun i a b => by omega, rfl⟩
    · rw [if_neg z]
      rcases ih with ⟨a, b⟩ | ⟨j, a, b, d, e⟩
      · refine Or.inl ⟨fun j hj => ?_, b⟩
        rcases Decidable.em (j = k) with r | r
        · rw [r]; omega
        · exact a j (by omega)
      · refine Or.inr ⟨j, by omega, b, fun i p q => ?_, e⟩
        rcases Decidable.em (i = k) with r | r
        · rw [r]; omega
        · exact d i p (by omega)
theorem bR_sp (h : JH) (c : Int) (m : Nat) : (bR h c m = -1 ∧ ∀ k : Nat, k < m → c < h.2.2 62 k) ∨ ∃ b : Nat, b < m ∧ bR h c m = (b : Int) ∧ h.2.2 62 b ≤ c ∧ (∀ k : Nat, k < m → h.2.2 62 k ≤ c → h.2.2 62 k ≤ h.2.2 62 b) ∧ ∀ k : Nat, b < k → k < m → h.2.2 62 k ≤ c → h.2.2 62 k < h.2.2 62 b := by
  induction m with
  | zero => exact Or.inl ⟨rfl, fun j hj => absurd hj (Nat.not_lt_zero _)⟩
  | succ n ih =>
    unfold bR
    rcases ih with ⟨a, b⟩ | ⟨b, b1, b2, b3, b4, b5⟩
    · rw [a]
      by_cases z : h.2.2 62 n ≤ c
      · rw [if_pos ⟨z, Or.inl (by decide)⟩]
        refine Or.inr ⟨n, by omega, rfl, z, fun k hk kc => ?_, fun k p q => by omega⟩
        rcases Decidable.em (k = n) with r | r
        · rw [r]; exact Int.le_refl _
        · have := b k (by omega); omega
      · rw [if_neg (fun w => z w.1)]
        refine Or.inl ⟨rfl, fun k hk => ?_⟩
        rcases Decidable.em (k = n) with r | r
        · rw [r]; omega
        · exact b k (by omega)
    · rw [b2, show ((b : Nat) : Int).toNat = b by omega]
      by_cases z : h.2.2 62 n ≤ c ∧ h.2.2 62 b ≤ h.2.2 62 n
      · rw [if_pos ⟨z.1, Or.inr z.2⟩]
        refine Or.inr ⟨n, by omega, rfl, z.1, fun k hk kc => ?_, fun k p q => by omega⟩
        rcases Decidable.em (k = n) with r | r
        · rw [r]; exact Int.le_refl _
        · have := b4 k (by omega) kc; omega
      · rw [if_neg (fun w => z ⟨w.1, w.2.resolve_left (by omega)⟩)]
        refine Or.inr ⟨b, by omega, rfl, b3, fun k hk kc => ?_, fun k p q kc => ?_⟩
        · rcases Decidable.em (k = n) with r | r
          · rw [r] at kc ⊢; omega
          · exact b4 k (by omega) kc
        · rcases Decidable.em (k = n) with r | r
          · rw [r] at kc ⊢; omega
          · exact b5 k p (by omega) kc
theorem coin_eq {h : JH} {u m : Nat} (s : Ss h u) (s1 : S1 h u m) (s2 : S2 h u m) (c : Int) : lC h c u = cR h m c := by
  unfold cR
  rcases lC_sp h c u with ⟨a, b⟩ | ⟨j, a1, a2, a3, a4⟩
  · rcases bR_sp h c m with ⟨d, e⟩ | ⟨q, q1, q2, q3, q4, q5⟩
    · rw [b, d, if_pos (by decide)]
    · obtain ⟨j, j1, j2⟩ := s2 q q1
      have := a j j1
      omega
  · obtain ⟨k, k1, k2, k3, k4⟩ := s1 j a1
    rcases bR_sp h c m with ⟨d, e⟩ | ⟨q, q1, q2, q3, q4, q5⟩
    · have := e k k1
      omega
    · rw [q2, if_neg (by omega), a4, k3, show ((q : Nat) : Int).toNat = q by omega]
      have c1 := q4 k k1 (by omega)
      obtain ⟨j2, p1, p2⟩ := s2 q q1
      have c2 : h.2.2 20 j2 ≤ h.2.2 20 j := by
        rcases Nat.lt_trichotomy j2 j with w | w | w
        · have := s.1 j2 j w a1; omega
        · rw [w]; exact Int.le_refl _
        · have := a3 j2 w p1; omega
      have c3 : q = k := by
        rcases Nat.lt_trichotomy q k with w | w | w
        · have := q5 k w k1 (by omega); omega
        · exact w
        · exact absurd (show h.2.2 62 q = h.2.2 20 j by omega) (k4 q w q1)
      rw [c3]
/-! a step comes -/
def Sf (h h1 : JH) (a : Nat) (u k : Int) : Prop := ∀ j : Nat, ((k < (j : Int) ∧ (j : Int) ≤ u) → h1.2.2 a j = h.2.2 a (j - 1)) ∧ (((j : Int) ≤ k ∨ u < (j : Int)) → h1.2.2 a j = h.2.2 a j)
theorem Sf.start {h h1 : JH} {a : Nat} {u k : Int} (x : Sm h h1 a) (hk : k = u) : Sf h h1 a u k := fun j => ⟨fun z => by omega, fun _ => x j⟩
theorem Sf.step {h h1 h2 : JH} {a : Nat} {u k k' i v : Int} (x : Sf h h1 a u k) (k1 : 1 ≤ k) (ku : k ≤ u) (ev : h1.2.2 a i.toNat = v) (hi : i = k - 1) (e : h2 = jwr h1 a k.toNat v) (hk : k' = k - 1) : Sf h h2 a u k' := fun j => by
  rcases Decidable.em (j = k.toNat) with r | r
  · refine ⟨fun _ => ?_, fun z => by omega⟩
    rw [r, jw_eq e, ← ev, (x i.toNat).2 (by omega), show i.toNat = k.toNat - 1 by omega]
  · rw [jw_ne e (Or.inr r)]
    exact ⟨fun z => (x j).1 (by omega), fun z => (x j).2 (by omega)⟩
theorem Sf.ne {h h1 h2 : JH} {a b i : Nat} {u k v : Int} (x : Sf h h1 a u k) (e : h2 = jwr h1 b i v) (hb : a ≠ b) : Sf h h2 a u k := fun j => by
  rw [jw_ne e (Or.inl hb)]
  exact x j
def Ins (h h' : JH) (a : Nat) (u p v : Int) : Prop := h'.2.2 a p.toNat = v ∧ ∀ j : Nat, ((p < (j : Int) ∧ (j : Int) ≤ u) → h'.2.2 a j = h.2.2 a (j - 1)) ∧ (((j : Int) < p ∨ u < (j : Int)) → h'.2.2 a j = h.2.2 a j)
theorem Sf.ins {h h1 h2 : JH} {a : Nat} {u k p v : Int} (x : Sf h h1 a u k) (hk : k = p) (p0 : 0 ≤ p) (pu : p ≤ u) (e : h2 = jwr h1 a p.toNat v) : Ins h h2 a u p v := by
  refine ⟨jw_eq e, fun j => ?_⟩
  rcases Decidable.em (j = p.toNat) with r | r
  · exact ⟨fun z => by omega, fun z => by omega⟩
  · rw [jw_ne e (Or.inr r)]
    exact ⟨fun z => (x j).1 (by omega), fun z => (x j).2 (by omega)⟩
theorem Ins.ne {h h1 h2 : JH} {a b i : Nat} {u p v w : Int} (x : Ins h h1 a u p v) (e : h2 = jwr h1 b i w) (hb : a ≠ b) : Ins h h2 a u p v := by
  refine ⟨by rw [jw_ne e (Or.inl hb)]; exact x.1, fun j => ?_⟩
  rw [jw_ne e (Or.inl hb)]
  exact x.2 j
theorem Sm.ne {h h1 h2 : JH} {a b i : Nat} {w : Int} (x : Sm h h1 a) (e : h2 = jwr h1 b i w) (hb : a ≠ b) : Sm h h2 a := fun j => by
  rw [jw_ne e (Or.inl hb)]
  exact x j
theorem Sm.up {h h1 h2 : JH} {a : Nat} {i v : Int} (x : Sm h h1 a) (e : h2 = jwr h1 a i.toNat v) : Up h h2 a i v := ⟨jw_eq e, fun j hj => by rw [jw_ne e (Or.inr hj)]; exact x j⟩
theorem Up.ne {h h1 h2 : JH} {a b i : Nat} {p v w : Int} (x : Up h h1 a p v) (e : h2 = jwr h1 b i w) (hb : a ≠ b) : Up h h2 a p v := ⟨by rw [jw_ne e (Or.inl hb)]; exact x.1, fun j hj => by rw [jw_ne e (Or.inl hb)]; exact x.2 j hj⟩
def Lo (h : JH) (p x : Int) : Prop := ∀ j : Nat, (j : Int) < p → h.2.2 20 j < x
theorem Lo.add {h h1 : JH} {p q x v i : Int} (l : Lo h p x) (m : Sm h h1 20) (e : h1.2.2 20 i.toNat = v) (hi : i = p) (p0 : 0 ≤ p) (hv : v < x) (hq : q = p + 1) : Lo h q x := fun j hj => by
  rcases Decidable.em (j = p.toNat) with r | r
  · rw [r, show p.toNat = i.toNat by omega, ← m, e]; exact hv
  · exact l j (by omega)
def AdS (h h' : JH) (x y u : Int) : Prop := ∃ p : Int, 0 ≤ p ∧ p ≤ u ∧ Lo h p x ∧ ((p < u ∧ h.2.2 20 p.toNat = x ∧ h'.2.2 19 4 = u ∧ Sm h h' 20 ∧ Up h h' 21 p y) ∨ ((p = u ∨ x < h.2.2 20 p.toNat) ∧ h'.2.2 19 4 = u + 1 ∧ Ins h h' 20 u p x ∧ Ins h h' 21 u p y))
theorem Ss.add {h h' : JH} {x y u : Int} (s : Ss h u.toNat) (u0 : 0 ≤ u) (x0 : -9999 ≤ x) (x1 : x ≤ 9999) (y0 : 0 ≤ y) (y1 : y ≤ 90) (a : AdS h h' x y u) : Ss h' (h'.2.2 19 4).toNat := by
  obtain ⟨p, p0, pu, lo, ⟨q1, q2, q3, q4, q5⟩ | ⟨q1, q3, q4, q5⟩⟩ := a
  · rw [q3]
    refine ⟨fun i j a b => by rw [q4, q4]; exact s.1 i j a b, fun i hi => ?_⟩
    have := s.2 i hi
    rw [q4]
    rcases Decidable.em (i = p.toNat) with r | r
    · rw [r, q5.1, ← r]; omega
    · rw [q5.2 i r]; exact this
  · rw [q3]
    have v20 : ∀ j : Nat, (j : Int) ≤ u → h'.2.2 20 j = if (j : Int) < p then h.2.2 20 j else if (j : Int) = p then x else h.2.2 20 (j - 1) := fun j hj => by
      by_cases c1 : (j : Int) < p
      · rw [if_pos c1]; exact (q4.2 j).2 (Or.inl c1)
      · rw [if_neg c1]
        by_cases c2 : (j : Int) = p
        · rw [if_pos c2, show j = p.toNat by omega]; exact q4.1
        · rw [if_neg c2]; exact (q4.2 j).1 (by omega)
    have v21 : ∀ j : Nat, (j : Int) ≤ u → h'.2.2 21 j = if (j : Int) < p then h.2.2 21 j else if (j : Int) = p then y else h.2.2 21 (j - 1) := fun j hj => by
      by_cases c1 : (j : Int) < p
      · rw [if_pos c1]; exact (q5.2 j).2 (Or.inl c1)
      · rw [if_neg c1]
        by_cases c2 : (j : Int) = p
        · rw [if_pos c2, show j = p.toNat by omega]; exact q5.1
        · rw [if_neg c2]; exact (q5.2 j).1 (by omega)
    have hi : ∀ j : Nat, p ≤ (j : Int) → (j : Int) < u → x < h.2.2 20 j := fun j a b => by
      rcases q1 with q1 | q1
      · omega
      · rcases Decidable.em (j = p.toNat) with r | r
        · rw [r]; exact q1
        · have := s.1 p.toNat j (by omega) (by omega); omega
    refine ⟨fun i j a b => ?_, fun i hi2 => ?_⟩
    · rw [v20 i (by omega), v20 j (by omega)]
      by_cases c1 : (j : Int) < p
      · rw [if_pos c1, if_pos (by omega)]; exact s.1 i j a (by omega)
      · rw [if_neg c1]
        by_cases c2 : (j : Int) = p
        · rw [if_pos c2, if_pos (by omega)]; exact lo i (by omega)
        · rw [if_neg c2]
          by_cases d1 : (i : Int) < p
          · rw [if_pos d1]
            have e1 := lo i d1
            have e2 := hi (j - 1) (by omega) (by omega)
            omega
          · rw [if_neg d1]
            by_cases d2 : (i : Int) = p
            · rw [if_pos d2]; exact hi (j - 1) (by omega) (by omega)
            · rw [if_neg d2]; exact s.1 (i - 1) (j - 1) (by omega) (by omega)
    · rw [v20 i (by omega), v21 i (by omega)]
      by_cases c1 : (i : Int) < p
      · rw [if_pos c1, if_pos c1]; exact s.2 i (by omega)
      · rw [if_neg c1, if_neg c1]
        by_cases c2 : (i : Int) = p
        · rw [if_pos c2, if_pos c2]; omega
        · rw [if_neg c2, if_neg c2]; exact s.2 (i - 1) (by omega)
theorem S12.add {h h1 h2 : JH} {x z u : Int} {m : Nat} (s : Ss h u.toNat) (s1 : S1 h u.toNat m) (s2 : S2 h u.toNat m) (u0 : 0 ≤ u) (a : AdS h h1 x (10 * z) u) (e62 : h2.2.2 62 m = x ∧ ∀ j : Nat, j ≠ m → h2.2.2 62 j = h.2.2 62 j) (e63 : h2.2.2 63 m = z ∧ ∀ j : Nat, j ≠ m → h2.2.2 63 j = h.2.2 63 j) (k20 : ∀ j : Nat, h2.2.2 20 j = h1.2.2 20 j) (k21 : ∀ j : Nat, h2.2.2 21 j = h1.2.2 21 j) : S1 h2 (h1.2.2 19 4).toNat (m + 1) ∧ S2 h2 (h1.2.2 19 4).toNat (m + 1) := by
  obtain ⟨p, p0, pu, lo, ⟨q1, q2, q3, q4, q5⟩ | ⟨q1, q3, q4, q5⟩⟩ := a
  · rw [q3]
    refine ⟨fun j hj => ?_, fun k hk => ?_⟩
    · rw [k20, k21, q4]
      rcases Decidable.em (j = p.toNat) with r | r
      · rw [r, q2, q5.1]
        exact ⟨m, by omega, e62.1, by rw [e63.1], fun k' a b => by omega⟩
      · rw [q5.2 j r]
        obtain ⟨k, b1, b2, b3, b4⟩ := s1 j hj
        refine ⟨k, by omega, by rw [e62.2 k (by omega)]; exact b2, by rw [e63.2 k (by omega)]; exact b3, fun k' c d => ?_⟩
        rcases Decidable.em (k' = m) with w | w
        · rw [w, e62.1, ← q2]
          rcases Nat.lt_or_gt_of_ne r with v | v
          · have := s.1 j p.toNat v (by omega); omega
          · have := s.1 p.toNat j v hj; omega
        · rw [e62.2 k' w]; exact b4 k' c (by omega)
    · rcases Decidable.em (k = m) with w | w
      · rw [w, e62.1]
        exact ⟨p.toNat, by omega, by rw [k20, q4]; exact q2⟩
      · obtain ⟨j, j1, j2⟩ := s2 k (by omega)
        exact ⟨j, j1, by rw [k20, q4, e62.2 k w]; exact j2⟩
  · rw [q3]
    have hi : ∀ j : Nat, p ≤ (j : Int) → (j : Int) < u → x < h.2.2 20 j := fun j a b => by
      rcases q1 with q1 | q1
      · omega
      · rcases Decidable.em (j = p.toNat) with r | r
        · rw [r]; exact q1
        · have := s.1 p.toNat j (by omega) (by omega); omega
    refine ⟨fun j hj => ?_, fun k hk => ?_⟩
    · rw [k20, k21]
      have old : ∀ i : Nat, i < u.toNat → h1.2.2 20 j = h.2.2 20 i → h1.2.2 21 j = h.2.2 21 i → h.2.2 20 i ≠ x → ∃ k, k < m + 1 ∧ h2.2.2 62 k = h1.2.2 20 j ∧ h1.2.2 21 j = 10 * h2.2.2 63 k ∧ ∀ k' : Nat, k < k' → k' < m + 1 → h2.2.2 62 k' ≠ h1.2.2 20 j := fun i hi2 c1 c2 c3 => by
        obtain ⟨k, b1, b2, b3, b4⟩ := s1 i hi2
        refine ⟨k, by omega, by rw [e62.2 k (by omega), c1]; exact b2, by rw [e63.2 k (by omega), c2]; exact b3, fun k' c d => ?_⟩
        rcases Decidable.em (k' = m) with w | w
        · rw [w, e62.1, c1]; exact Ne.symm c3
        · rw [e62.2 k' w, c1]; exact b4 k' c (by omega)
      by_cases c1 : (j : Int) < p
      · have := lo j c1
        exact old j (by omega) ((q4.2 j).2 (Or.inl c1)) ((q5.2 j).2 (Or.inl c1)) (by omega)
      · by_cases c2 : (j : Int) = p
        · rw [show j = p.toNat by omega, q4.1, q5.1]
          exact ⟨m, by omega, e62.1, by rw [e63.1], fun k' a b => by omega⟩
        · have := hi (j - 1) (by omega) (by omega)
          exact old (j - 1) (by omega) ((q4.2 j).1 (by omega)) ((q5.2 j).1 (by omega)) (by omega)
    · rcases Decidable.em (k = m) with w | w
      · rw [w, e62.1]
        exact ⟨p.toNat, by omega, by rw [k20]; exact q4.1⟩
      · obtain ⟨j, j1, j2⟩ := s2 k (by omega)
        rw [e62.2 k w, ← j2]
        by_cases c1 : (j : Int) < p
        · exact ⟨j, by omega, by rw [k20]; exact (q4.2 j).2 (Or.inl c1)⟩
        · refine ⟨j + 1, by omega, ?_⟩
          rw [k20, (q4.2 (j + 1)).1 (by omega), Nat.add_sub_cancel]
/-! sums -/
def sg (f : Int → Int) (a : Int) : Nat → Int
  | 0 => 0
  | n + 1 => sg f a n + f (a + (n : Int))
theorem sg_front (f : Int → Int) (a : Int) (n : Nat) : sg f a (n + 1) = f a + sg f (a + 1) n := by
  induction n with
  | zero => show 0 + f (a + 0) = f a + 0; rw [Int.add_zero]; omega
  | succ n ih =>
    show sg f a (n + 1) + f (a + ((n + 1 : Nat) : Int)) = f a + (sg f (a + 1) n + f (a + 1 + (n : Int)))
    rw [ih, show a + ((n + 1 : Nat) : Int) = a + 1 + (n : Int) by omega]
    omega
theorem sg_b {f : Int → Int} {a : Int} (n : Nat) (h : ∀ c, 0 ≤ f c ∧ f c ≤ 100) : 0 ≤ sg f a n ∧ sg f a n ≤ 100 * (n : Int) := by
  induction n with
  | zero => exact ⟨Int.le_refl _, Int.le_refl _⟩
  | succ n ih =>
    have := h (a + (n : Int))
    show 0 ≤ sg f a n + _ ∧ sg f a n + _ ≤ _
    omega
theorem sg_congr {f g : Int → Int} (h : ∀ c, f c = g c) (a : Int) (n : Nat) : sg f a n = sg g a n := by rw [show f = g from funext h]
theorem sg_const {f : Int → Int} {r a : Int} (n k : Nat) (h : ∀ c, a + (n : Int) ≤ c → c < a + (n : Int) + (k : Int) → f c = r) : sg f a (n + k) = sg f a n + (k : Int) * r := by
  induction k with
  | zero => rw [Nat.add_zero, show ((0 : Nat) : Int) = 0 from rfl, Int.zero_mul, Int.add_zero]
  | succ k ih =>
    show sg f a (n + k) + f (a + ((n + k : Nat) : Int)) = _
    rw [ih (fun c c0 c1 => h c c0 (by omega)), h _ (by omega) (by omega), show ((k + 1 : Nat) : Int) = (k : Int) + 1 by omega, Int.add_mul, Int.one_mul]
    omega
theorem lC_cut {h : JH} {c : Int} {k : Nat} (d : Nat) (hc : ∀ i : Nat, k ≤ i → i < k + d → c < h.2.2 20 i) : lC h c (k + d) = lC h c k := by
  induction d with
  | zero => rfl
  | succ d ih =>
    show (if h.2.2 20 (k + d) ≤ c then _ else _) = _
    rw [if_neg (by have := hc (k + d) (by omega) (by omega); omega)]
    exact ih (fun i a b => hc i a (by omega))
/-- sums by steps: those ahead of the k-th are counted up to st -/
def Ac (h : JH) (u : Nat) (a s st r k : Int) : Prop := a ≤ st ∧ s = sg (fun c => lC h c u) a (st - a).toNat ∧ (∀ c, st ≤ c → lC h c k.toNat = r) ∧ 0 ≤ k ∧ k ≤ (u : Int)
theorem Ac.start {h : JH} {u : Nat} {a s : Int} (hs : s = 0) : Ac h u a s a 100 0 := ⟨Int.le_refl _, by rw [hs, show (a - a).toNat = 0 by omega]; rfl, fun _ _ => rfl, Int.le_refl _, by omega⟩
theorem Ac.up {h : JH} {u : Nat} {a s st r k v e p s' : Int} (x : Ac h u a s st r k) (ss : Ss h u) (hk : k < (u : Int)) (ev : h.2.2 20 k.toNat = v) (hv : st < v) (hd : e = v - st) (hp : e * r = p) (hs : s' = s + p) : s' = sg (fun c => lC h c u) a (v - a).toNat ∧ a ≤ v := by
  obtain ⟨x1, x2, x3, x4, x5⟩ := x
  refine ⟨?_, by omega⟩
  rw [show (v - a).toNat = (st - a).toNat + (v - st).toNat by omega, sg_const (r := r) _ _ (fun c c0 c1 => ?_), ← x2, hs, ← hp, show (((v - st).toNat : Nat) : Int) = e by omega]
  show lC h c u = r
  rw [show u = k.toNat + (u - k.toNat) by omega, lC_cut _ (fun i i0 i1 => ?_)]
  · exact x3 c (by omega)
  · rcases Decidable.em (i = k.toNat) with w | w
    · rw [w, ev]; omega
    · have := ss.1 k.toNat i (by omega) (by omega); omega
theorem Ac.go {h : JH} {u : Nat} {a s st r k v q s' st' k' : Int} (x : Ac h u a s st r k) (hk : k < (u : Int)) (ev : h.2.2 20 k.toNat = v) (eq : h.2.2 21 k.toNat = q) (hv : v ≤ st') (b : s' = sg (fun c => lC h c u) a (st' - a).toNat ∧ a ≤ st') (hk' : k' = k + 1) : Ac h u a s' st' q k' := by
  obtain ⟨x1, x2, x3, x4, x5⟩ := x
  refine ⟨b.2, b.1, fun c hc => ?_, by omega, by omega⟩
  rw [show k'.toNat = k.toNat + 1 by omega]
  show (if h.2.2 20 k.toNat ≤ c then _ else _) = _
  rw [ev, if_pos (by omega), eq]
theorem Ac.fin {h : JH} {u : Nat} {a s st r k t e p q : Int} (x : Ac h u a s st r k) (ss : Ss h u) (ht : st ≤ t + 1) (hk : k = (u : Int) ∨ t < h.2.2 20 k.toNat) (he : e = t - st + 1) (hp : e * r = p) (hq : q = s + p) : q = sg (fun c => lC h c u) a (t + 1 - a).toNat := by
  obtain ⟨x1, x2, x3, x4, x5⟩ := x
  rw [show (t + 1 - a).toNat = (st - a).toNat + (t + 1 - st).toNat by omega, sg_const (r := r) _ _ (fun c c0 c1 => ?_), ← x2, hq, ← hp, show (((t + 1 - st).toNat : Nat) : Int) = e by omega]
  show lC h c u = r
  rw [show u = k.toNat + (u - k.toNat) by omega, lC_cut _ (fun i i0 i1 => ?_)]
  · exact x3 c (by omega)
  · rcases hk with hk | hk
    · omega
    · rcases Decidable.em (i = k.toNat) with w | w
      · rw [w]; omega
      · have := ss.1 k.toNat i (by omega) (by omega); omega
def ftF (f : Int → Int) (v : Int) : Int := if 0 < v then sg f 1 v.toNat else -(sg f (v + 1) (-v).toNat)
def cnF (f : Int → Int) (k s v : Int) : Int := if k = 1 ∨ k = 3 then ftF f v else if k < 4 ∨ (k = 5 ∧ v < 0) then 100 * v else w32 (s * v)
def X3 (h : JH) : Prop := h.2.2 19 3 = h.2.2 42 31 ∧ Ss h (h.2.2 19 4).toNat ∧ S1 h (h.2.2 19 4).toNat (h.2.2 42 31).toNat ∧ S2 h (h.2.2 19 4).toNat (h.2.2 42 31).toNat
def C3 : List (Nat × Nat) := [(19, 4), (19, 5), (20, 0), (21, 0), (42, 32), (62, 0), (63, 0)]
theorem X3.fr {h h' : JH} (x : X3 h) (e : ∀ a i, inW C3 a i = true → h'.2.2 a i = h.2.2 a i) : X3 h' := by
  have f20 : ∀ j, h'.2.2 20 j = h.2.2 20 j := fun j => e 20 j rfl
  have f21 : ∀ j, h'.2.2 21 j = h.2.2 21 j := fun j => e 21 j rfl
  have f62 : ∀ j, h'.2.2 62 j = h.2.2 62 j := fun j => e 62 j rfl
  have f63 : ∀ j, h'.2.2 63 j = h.2.2 63 j := fun j => e 63 j rfl
  unfold X3 Ss S1 S2 at x ⊢
  simp only [e 19 3 rfl, e 19 4 rfl, e 42 31 rfl, f20, f21, f62, f63]
  exact x
def Kd (h : JH) : Prop := ∀ j : Nat, (j : Int) < h.2.2 0 7 → ∃ r : Nat, h.2.2 24 j = (r : Int) ∧ 83 ≤ r ∧ r < h.1 ∧ kdT (h.2.1 r).1 = h.2.2 60 j ∧ h.2.2 r 1 = (j : Int) ∧ h.2.2 r 2 = h.2.2 61 j
def Cc : List (Nat × Nat) := [(0, 8), (42, 29), (24, 0), (60, 0), (61, 0)] ++ C3
def Rl (h : JH) : Prop := h.2.2 0 7 = h.2.2 42 28 ∧ Kd h ∧ X3 h
theorem C3_in {a i : Nat} (h : inW C3 a i = true) : inW Cc a i = true := by
  unfold Cc
  unfold inW at h ⊢
  rw [List.any_append, h, Bool.or_true]
theorem Rl.fr {h h' : JH} (x : Rl h) (e : ∀ a i, inW Cc a i = true → h'.2.2 a i = h.2.2 a i) (hl : h.1 ≤ h'.1) (ht : ∀ a, a < h.1 → h'.2.1 a = h.2.1 a) (hd : ∀ j r : Nat, (j : Int) < h.2.2 0 7 → h.2.2 24 j = (r : Int) → h'.2.2 r 1 = h.2.2 r 1 ∧ h'.2.2 r 2 = h.2.2 r 2) : Rl h' := by
  refine ⟨by rw [e 0 7 rfl, e 42 28 rfl]; exact x.1, fun j hj => ?_, x.2.2.fr (fun a i hc => e a i (C3_in hc))⟩
  rw [e 0 7 rfl] at hj
  obtain ⟨r, r1, r2, r3, r4, r5, r6⟩ := x.2.1 j hj
  obtain ⟨d1, d2⟩ := hd j r hj r1
  exact ⟨r, by rw [e 24 _ rfl]; exact r1, r2, by omega, by rw [ht r r3, e 60 _ rfl]; exact r4, d1.trans r5, by rw [d2, e 61 _ rfl]; exact r6⟩
def FeS (G : GH) (h h' : JH) : Prop := ∀ a, 83 ≤ a → a < G.1 → (G.2 a).1 = 0 → h'.2.2 a 1 = h.2.2 a 1 ∧ h'.2.2 a 2 = h.2.2 a 2
theorem Gd.fe {G : GH} {h : JH} (g : Gd G h) {a : Nat} (a0 : 83 ≤ a) (a1 : a < G.1) (e : (G.2 a).1 = 0) : h.2.2 a 1 = (G.2 a).2.1 ∧ h.2.2 a 2 = (G.2 a).2.2 := by
  rcases g.2.2.2.1 a a0 a1 with d | d | d
  · exact ⟨d.2.2.2.2.1, d.2.2.2.2.2.1⟩
  · have := d.1
    omega
  · have := d.1
    omega
theorem fe_same {G G' : GH} {h h' : JH} (g : Gd G h) (g' : Gd G' h') (he : ∀ a, a < G.1 → G'.2 a = G.2 a) (hl : G.1 ≤ G'.1) : FeS G h h' := fun a a0 a1 e => by
  have x := g.fe a0 a1 e
  have y := g'.fe a0 (by omega) (by rw [he a a1]; exact e)
  rw [he a a1] at y
  exact ⟨y.1.trans x.1.symm, y.2.trans x.2.symm⟩
theorem FeS.at {G : GH} {h h' : JH} (s : FeS G h h') (g : Gd G h) (j r : Nat) (hj : (j : Int) < h.2.2 0 7) (hr : h.2.2 24 j = (r : Int)) : h'.2.2 r 1 = h.2.2 r 1 ∧ h'.2.2 r 2 = h.2.2 r 2 := by
  obtain ⟨q, e1, e2, e3, e4, -⟩ := g.2.2.2.2.2.1 j hj
  have : q = r := by omega
  subst this
  exact s q e2 e3 e4
def dsj (C W : List (Nat × Nat)) : Bool := C.all (fun c => decide (c.1 < 83) && W.all (fun w => w.1 != c.1 || (w.2 != 0 && c.2 != 0 && w.2 != c.2)))
theorem dsj_at {C W : List (Nat × Nat)} (h : dsj C W = true) {a i : Nat} (hc : inW C a i = true) : a < 83 ∧ inW W a i = false := by
  unfold inW at hc
  obtain ⟨c, hm, hq⟩ := List.any_eq_true.mp hc
  have h1 := List.all_eq_true.mp h c hm
  rw [Bool.and_eq_true, decide_eq_true_eq] at h1
  simp only [Bool.or_eq_true, Bool.and_eq_true, beq_iff_eq, decide_eq_true_eq] at hq
  have ha : a < 83 := by omega
  refine ⟨ha, ?_⟩
  unfold inW
  rw [List.any_eq_false]
  intro w hw hx
  have h2 := List.all_eq_true.mp h1.2 w hw
  simp only [Bool.or_eq_true, Bool.and_eq_true, bne_iff_ne] at h2
  simp only [Bool.or_eq_true, Bool.and_eq_true, beq_iff_eq, decide_eq_true_eq] at hx
  omega
theorem Rl.kp {G : GH} {W : List (Nat × Nat)} {h h' : JH} (x : Rl h) (g : Gd G h) (g' : Gd G h') (k : Kp W h h') (hd : dsj Cc W = true) : Rl h' := x.fr (fun a i hc => k.v (dsj_at hd hc).2) (by rw [k.1]; exact Nat.le_refl _) (fun a _ => by rw [k.2.1]) (fun j r hj hr => (fe_same g g' (fun _ _ => rfl) (Nat.le_refl _)).at g j r hj hr)
theorem Rl.kxq {G : GH} {W : List (Nat × Nat)} {h h' : JH} (x : Rl h) (g : Gd G h) (k : Kx W h h') (s : FeS G h h') (hd : dsj Cc W = true) (h83 : 83 ≤ h.1) : Rl h' := x.fr (fun a i hc => k.2.2 a i (Nat.lt_of_lt_of_le (dsj_at hd hc).1 h83) (dsj_at hd hc).2) k.1 k.2.1 (fun j r hj hr => s.at g j r hj hr)
def FV (k p n : Int) : Prop := 0 ≤ k ∧ k ≤ 5 ∧ (k < 4 ∨ (0 ≤ p ∧ p ≤ 100)) ∧ n ≠ 20
def prF (k p : Int) : Int := if 4 ≤ k then p else 0
def feG (k p n : Int) : Int := if 0 ≤ k ∧ k ≤ 5 ∧ (k < 4 ∨ (0 ≤ p ∧ p ≤ 100)) ∧ n ≠ 20 then n + 1 else n
def FeK (h h' : JH) (k p n : Int) : Prop := h'.2.2 24 n.toNat = (h.1 : Int) ∧ h.1 < h'.1 ∧ kdT (h'.2.1 h.1).1 = k ∧ (∀ j : Nat, j ≠ n.toNat → h'.2.2 24 j = h.2.2 24 j) ∧ (∀ a, a < h.1 → h'.2.1 a = h.2.1 a) ∧ h'.2.2 h.1 1 = n ∧ h'.2.2 h.1 2 = prF k p
theorem kd_fe {k : Int} (k0 : 0 ≤ k) (k5 : k ≤ 5) : kdT (feelT k) = k := by
  rcases (show k = 0 ∨ k = 1 ∨ k = 2 ∨ k = 3 ∨ k = 4 ∨ k = 5 by omega) with z | z | z | z | z | z <;> subst z <;> rfl
theorem FeK.mk {h hN hA h' : JH} {k n p q w s : Int} (z : hN = jwr (jwr (jwr (jnew h (feelT k) 3) h.1 0 19) h.1 1 q) h.1 2 p) (h83 : 83 ≤ h.1) (k0 : 0 ≤ k) (k5 : k ≤ 5) (ea : hA = jwr hN 24 n.toNat (h.1 : Int)) (e : h' = jwr hA 0 7 w) (hq : q = n) (hp : p = prF k s) : FeK h h' k s n := by
  have t1 : h'.1 = h.1 + 1 := by rw [(jwr_ty e).1, (jwr_ty ea).1, z]; rfl
  have t2 : ∀ a, h'.2.1 a = if a = h.1 then (feelT k, 3) else h.2.1 a := fun a => by rw [(jwr_ty e).2, (jwr_ty ea).2, z]; rfl
  have v24 : ∀ j, hN.2.2 24 j = h.2.2 24 j := fun j => by
    rw [z]
    show (if 24 = h.1 ∧ j = 2 then p else if 24 = h.1 ∧ j = 1 then q else if 24 = h.1 ∧ j = 0 then 19 else if 24 = h.1 then jdef (feelT k) j else h.2.2 24 j) = _
    rw [if_neg (by omega), if_neg (by omega), if_neg (by omega), if_neg (by omega)]
  have n1 : hN.2.2 h.1 1 = q := by
    rw [z]
    show (if h.1 = h.1 ∧ 1 = 2 then p else if h.1 = h.1 ∧ 1 = 1 then q else _) = _
    rw [if_neg (by omega), if_pos (by omega)]
  have n2 : hN.2.2 h.1 2 = p := by
    rw [z]
    show (if h.1 = h.1 ∧ 2 = 2 then p else _) = _
    rw [if_pos (by omega)]
  refine ⟨by rw [jw_ne e (Or.inl (by decide)), jw_eq ea], by omega, ?_, fun j hj => by rw [jw_ne e (Or.inl (by decide)), jw_ne ea (Or.inr hj), v24], fun a ha => by rw [t2, if_neg (by omega)], by rw [jw_ne e (Or.inl (by omega)), jw_ne ea (Or.inl (by omega)), n1, hq], by rw [jw_ne e (Or.inl (by omega)), jw_ne ea (Or.inl (by omega)), n2, hp]⟩
  rw [t2, if_pos rfl]
  exact kd_fe k0 k5
def FeC (h h' : JH) (k p n : Int) : Prop := (¬ FV k p n ∧ h' = h) ∨ (FV k p n ∧ FeK h h' k p n)
def FeR (h h' : JH) (k p n : Int) : Prop := (¬ FV k p n ∧ Sm h h' 60 ∧ Sm h h' 61) ∨ (FV k p n ∧ Up h h' 60 n k ∧ Up h h' 61 n (prF k p))
theorem Rl.feel {h h1 h2 : JH} {k p : Int} (x : Rl h) (h83 : 83 ≤ h.1) (hn : 0 ≤ h.2.2 0 7) (k1 : Kx [(0, 8), (24, 0)] h h1) (k2 : Kp [(42, 29), (60, 0), (61, 0)] h1 h2) (f1 : FeC h h1 k p (h.2.2 0 7)) (f2 : FeR h1 h2 k p (h.2.2 0 7)) (e : h2.2.2 0 7 = h2.2.2 42 28) (en : FV k p (h.2.2 0 7) → h2.2.2 0 7 = h.2.2 0 7 + 1) (e0 : ¬ FV k p (h.2.2 0 7) → h2.2.2 0 7 = h.2.2 0 7) : Rl h2 := by
  have f : ∀ a j, a < 83 → inW [(0, 8), (24, 0)] a j = false → inW [(42, 29), (60, 0), (61, 0)] a j = false → h2.2.2 a j = h.2.2 a j := fun a j ha c1 c2 => (k2.v c2).trans (k1.2.2 a j (by omega) c1)
  have e24 : ∀ j, h2.2.2 24 j = h1.2.2 24 j := fun j => k2.v rfl
  have e60 : ∀ j, h1.2.2 60 j = h.2.2 60 j := fun j => k1.2.2 60 j (by omega) rfl
  have e61 : ∀ j, h1.2.2 61 j = h.2.2 61 j := fun j => k1.2.2 61 j (by omega) rfl
  have hi : ∀ a i, 83 ≤ a → h2.2.2 a i = h1.2.2 a i := fun a i ha => k2.v (inW_hi (by decide) ha)
  have lo : ∀ a i, 83 ≤ a → a < h.1 → h1.2.2 a i = h.2.2 a i := fun a i ha hb => k1.2.2 a i hb (inW_hi (by decide) ha)
  refine ⟨e, fun j hj => ?_, x.2.2.fr (fun a i hc => f a i (dsj_at (show dsj C3 [(0, 8), (24, 0)] = true by decide) hc).1 (dsj_at (show dsj C3 [(0, 8), (24, 0)] = true by decide) hc).2 (dsj_at (show dsj C3 [(42, 29), (60, 0), (61, 0)] = true by decide) hc).2)⟩
  rw [e24, k2.1, k2.2.1]
  rcases f1 with ⟨n1, m1⟩ | ⟨t1, m1⟩
  · rcases f2 with ⟨_, m2, m3⟩ | ⟨t2, _⟩
    · rw [e0 n1] at hj
      obtain ⟨r, r1, r2, r3, r4, r5, r6⟩ := x.2.1 j hj
      rw [m2, m3]
      refine ⟨r, ?_, r2, ?_, ?_, ?_, ?_⟩
      · rw [m1]; exact r1
      · rw [m1]; exact r3
      · rw [m1]; exact r4
      · rw [hi r 1 r2, m1]; exact r5
      · rw [hi r 2 r2, m1]; exact r6
    · exact absurd t2 n1
  · rcases f2 with ⟨n2, _⟩ | ⟨_, m2, m3⟩
    · exact absurd t1 n2
    · rw [en t1] at hj
      obtain ⟨a1, a2, a3, a4, a5, a6, a7⟩ := m1
      rcases Decidable.em (j = (h.2.2 0 7).toNat) with z | z
      · rw [z, a1, m2.1, m3.1]
        exact ⟨h.1, rfl, h83, a2, a3, by rw [hi _ _ h83, a6]; omega, by rw [hi _ _ h83, a7]⟩
      · obtain ⟨r, r1, r2, r3, r4, r5, r6⟩ := x.2.1 j (by omega)
        rw [a4 j z, m2.2 j z, m3.2 j z, e60, e61]
        exact ⟨r, r1, r2, by omega, by rw [a5 r r3]; exact r4, by rw [hi r 1 r2, lo r 1 r2 r3]; exact r5, by rw [hi r 2 r2, lo r 2 r2 r3]; exact r6⟩
theorem ne83 {k a : Nat} (h : 83 ≤ k) (ha : a < 83) : k ≠ a := by omega
theorem gQ_lo {G : GH} {r a : Nat} {m : Int} (h : a < r) : (gQ G r m).2 a = G.2 a := by
  show (if a < r then G.2 a else _) = _
  rw [if_pos h]
section FaF
variable {ok : Nat → Nat → Nat → List AV → JH → (Option AV → JH → Prop) → Prop} {xl : Option Nat} {xs : Nat → Int} {cd : List JE} {mc ms : Nat} {Q : Option AV → JH → Prop} {K : List JE} {L S : List AV} {h : JH} {cu su pc n' : Nat} {ps : List Nat} {z i : Int} {G : GH}
theorem g_faaldF (g : Gd G h) {cn : Int} (hc : h.2.2 0 7 = cn) (h0 : 0 ≤ i) (h1 : i < cn) (kk : ∀ (r : Nat), IsF G r → 83 ≤ r → h.2.2 24 i.toNat = (r : Int) → jEv ok xl xs cd mc ms Q (K, L, (2, (r : Int)) :: S, h, cu, su)) : jEv ok xl xs cd mc ms Q ((pc, .aaload, n', [25], z) :: K, L, (0, i) :: (2, 24) :: S, h, cu, su) := by
  have b := g.rg ad0 (i := 7) (by decide) rf0_7
  obtain ⟨r, e1, e2, e3, e4, -⟩ := g.2.2.2.2.2.1 i.toNat (by omega)
  exact ev_aald (r := 24) (g.lt ad24) (g.tg ad24) (Or.inr rfl) (j := i.toNat) (by omega) (by rw [g.ln ad24]; omega) e1 (kk r (Or.inr ⟨e2, e3, e4⟩) e2 e1)
end FaF
theorem jcall_F {pc x n na k0 k1 k2 k3 k4 k5 k r : Nat} {z : Int} {ps : List Nat} {K : List JE} {A S' : List AV} {h : JH} (hA : A.length = na) (h1 : r < h.1) (h2 : jfam 0 (h.2.1 r).1 = true) (e1 : [k0, k1, k2, k3, k4, k5].getD (jpos (h.2.1 r).1) 0 = k) (e2 : k ≠ 9999) (hw : jwid S' ≤ 8) : jcall ((pc, .invokevirtual x, n, 9 :: na :: k0 :: k1 :: k2 :: k3 :: k4 :: k5 :: ps, z) :: K) (A ++ (2, (r : Int)) :: S') h = some (k, (2, (r : Int)) :: A.reverse, S') := by
  subst hA
  have e3 := jks (k0 := k0) (k1 := k1) (k2 := k2) (k3 := k3) (k4 := k4) (k5 := k5) (ps := ps) (jpos_le (h.2.1 r).1) 9 A.length
  rw [e1] at e3
  simp only [jcall]
  rw [show (9 :: A.length :: k0 :: k1 :: k2 :: k3 :: k4 :: k5 :: ps).getD 1 0 = A.length from rfl]
  rw [show (A ++ (2, (r : Int)) :: S')[A.length]? = some (2, (r : Int)) by simp]
  simp only [jhd, Int.toNat_natCast]
  rw [if_neg (by simp), e3]
  rw [show (A ++ (2, (r : Int)) :: S').drop (A.length + 1) = S' by simp, show (A ++ (2, (r : Int)) :: S').take A.length = A by simp]
  rw [if_pos ⟨by trivial, by trivial, by omega, h1, h2, e2, hw⟩]
def SV (x y n : Int) : Prop := -9999 ≤ x ∧ x ≤ 9999 ∧ 0 ≤ y ∧ y ≤ 9 ∧ n ≠ 6
def StC (h h' : JH) (x y n u : Int) : Prop := (SV x y n ∧ h'.2.2 19 3 = n + 1 ∧ AdS h h' x (10 * y) u) ∨ (¬ SV x y n ∧ h' = h)
def StE (h h' : JH) (x y n : Int) : Prop := (SV x y n ∧ h'.2.2 42 31 = n + 1 ∧ Up h h' 62 n x ∧ Up h h' 63 n y) ∨ (¬ SV x y n ∧ h' = h)
theorem Rl.step {G : GH} {h h1 h2 : JH} {x y : Int} (r : Rl h) (g : Gd G h) (g2 : Gd G h2) (u0 : 0 ≤ h.2.2 19 4) (n0 : 0 ≤ h.2.2 19 3) (k1 : Kp [(19, 4), (19, 5), (20, 0), (21, 0)] h h1) (k2 : Kp [(42, 32), (62, 0), (63, 0)] h1 h2) (f1 : StC h h1 x y (h.2.2 19 3) (h.2.2 19 4)) (f2 : StE h1 h2 x y (h.2.2 19 3)) : Rl h2 := by
  have e : ∀ a j, inW [(19, 4), (19, 5), (20, 0), (21, 0)] a j = false → inW [(42, 32), (62, 0), (63, 0)] a j = false → h2.2.2 a j = h.2.2 a j := fun a j c1 c2 => (k2.v c2).trans (k1.v c1)
  have kd : Kd h2 := fun j hj => by
    rw [e 0 7 rfl rfl] at hj
    obtain ⟨q, q1, q2, q3, q4, q5, q6⟩ := r.2.1 j hj
    have d := (fe_same g g2 (fun _ _ => rfl) (Nat.le_refl _)).at g j q hj q1
    exact ⟨q, by rw [e 24 _ rfl rfl]; exact q1, q2, by rw [k2.1, k1.1]; exact q3, by rw [k2.2.1, k1.2.1, e 60 _ rfl rfl]; exact q4, d.1.trans q5, by rw [d.2, e 61 _ rfl rfl]; exact q6⟩
  have c0 : h2.2.2 0 7 = h2.2.2 42 28 := by rw [e 0 7 rfl rfl, e 42 28 rfl rfl]; exact r.1
  obtain ⟨x1, x2, x3, x4⟩ := r.2.2
  rcases f1 with ⟨t1, p1, p2⟩ | ⟨n1, p1⟩
  · rcases f2 with ⟨_, q1, q2, q3⟩ | ⟨n2, _⟩
    · unfold SV at t1
      have a3 : h2.2.2 19 3 = h1.2.2 19 3 := k2.v rfl
      have a4 : h2.2.2 19 4 = h1.2.2 19 4 := k2.v rfl
      have k20 : ∀ j, h2.2.2 20 j = h1.2.2 20 j := fun j => k2.v rfl
      have k21 : ∀ j, h2.2.2 21 j = h1.2.2 21 j := fun j => k2.v rfl
      have e62 : ∀ j, h1.2.2 62 j = h.2.2 62 j := fun j => k1.v rfl
      have e63 : ∀ j, h1.2.2 63 j = h.2.2 63 j := fun j => k1.v rfl
      have ss := x2.add u0 t1.1 t1.2.1 (show 0 ≤ 10 * y by omega) (by omega) p2
      have hm : (h.2.2 42 31).toNat = (h.2.2 19 3).toNat := by rw [x1]
      have s12 := S12.add (h2 := h2) (m := (h.2.2 42 31).toNat) x2 x3 x4 u0 p2 (by rw [hm]; exact ⟨q2.1, fun j hj => (q2.2 j hj).trans (e62 j)⟩) (by rw [hm]; exact ⟨q3.1, fun j hj => (q3.2 j hj).trans (e63 j)⟩) k20 k21
      refine ⟨c0, kd, by rw [a3, p1, q1], ?_, ?_, ?_⟩
      · rw [a4]
        unfold Ss at ss ⊢
        simp only [k20, k21]
        exact ss
      · rw [a4, q1, show (h.2.2 19 3 + 1).toNat = (h.2.2 42 31).toNat + 1 by omega]
        exact s12.1
      · rw [a4, q1, show (h.2.2 19 3 + 1).toNat = (h.2.2 42 31).toNat + 1 by omega]
        exact s12.2
    · exact absurd t1 n2
  · rcases f2 with ⟨t2, _⟩ | ⟨_, q1⟩
    · exact absurd t2 n1
    · rw [q1, p1]
      exact r
def CV (f v n : Int) : Prop := 0 ≤ f ∧ f < n ∧ -9999 ≤ v ∧ v ≤ 9999
def CnC (h : JH) (f v u r : Int) : Prop := (¬ CV f v (h.2.2 0 7) ∧ r = -2000000000) ∨ (CV f v (h.2.2 0 7) ∧ ∃ o : Nat, h.2.2 24 f.toNat = (o : Int) ∧ r = cnF (fun c => lC h c u.toNat) (kdT (h.2.1 o).1) (h.2.2 o 2) v)
def CnR (h : JH) (f v m r : Int) : Prop := (¬ CV f v (h.2.2 42 28) ∧ r = -2000000000) ∨ (CV f v (h.2.2 42 28) ∧ r = cnF (cR h m.toNat) (h.2.2 60 f.toNat) (h.2.2 61 f.toNat) v)
theorem Rl.cn {h : JH} {f v r1 r2 : Int} (x : Rl h) (f1 : CnC h f v (h.2.2 19 4) r1) (f2 : CnR h f v (h.2.2 42 31) r2) : r1 = r2 := by
  unfold CnR at f2
  rw [← x.1] at f2
  rcases f1 with ⟨n1, q1⟩ | ⟨t1, o, q1, q2⟩
  · rcases f2 with ⟨_, p1⟩ | ⟨t2, _⟩
    · exact q1.trans p1.symm
    · exact absurd t2 n1
  · rcases f2 with ⟨n2, _⟩ | ⟨_, p1⟩
    · exact absurd t1 n2
    · unfold CV at t1
      obtain ⟨r, b1, b2, b3, b4, b5, b6⟩ := x.2.1 f.toNat (by omega)
      have eo : r = o := by omega
      subst eo
      obtain ⟨x1, x2, x3, x4⟩ := x.2.2
      rw [q2, p1, b4, b6, show (fun c => lC h c (h.2.2 19 4).toNat) = cR h (h.2.2 42 31).toNat from funext (fun c => coin_eq x2 x3 x4 c)]
theorem lC_kp {W : List (Nat × Nat)} {h h1 : JH} (k : Kp W h h1) (c20 : ∀ j, inW W 20 j = false) (c21 : ∀ j, inW W 21 j = false) (c : Int) (n : Nat) : lC h1 c n = lC h c n := by
  induction n with
  | zero => rfl
  | succ n ih =>
    show (if h1.2.2 20 n ≤ c then h1.2.2 21 n else lC h1 c n) = (if h.2.2 20 n ≤ c then h.2.2 21 n else lC h c n)
    rw [k.v (c20 _), k.v (c21 _), ih]
theorem bR_kp {W : List (Nat × Nat)} {h h1 : JH} (k : Kp W h h1) (c62 : ∀ j, inW W 62 j = false) (c : Int) (n : Nat) : bR h1 c n = bR h c n := by
  induction n with
  | zero => rfl
  | succ n ih =>
    show (if h1.2.2 62 n ≤ c ∧ (bR h1 c n < 0 ∨ h1.2.2 62 (bR h1 c n).toNat ≤ h1.2.2 62 n) then _ else bR h1 c n) = (if h.2.2 62 n ≤ c ∧ (bR h c n < 0 ∨ h.2.2 62 (bR h c n).toNat ≤ h.2.2 62 n) then _ else bR h c n)
    rw [ih, k.v (c62 _), k.v (c62 _)]
theorem cR_kp {W : List (Nat × Nat)} {h h1 : JH} (k : Kp W h h1) (c62 : ∀ j, inW W 62 j = false) (c63 : ∀ j, inW W 63 j = false) (n : Nat) : cR h1 n = cR h n := by
  funext c
  unfold cR
  rw [bR_kp k c62, k.v (c63 _)]
theorem Ss.kp {W : List (Nat × Nat)} {h h1 : JH} {u : Nat} (s : Ss h u) (k : Kp W h h1) (c20 : ∀ j, inW W 20 j = false) (c21 : ∀ j, inW W 21 j = false) : Ss h1 u := by
  have f20 : ∀ j, h1.2.2 20 j = h.2.2 20 j := fun j => k.v (c20 _)
  have f21 : ∀ j, h1.2.2 21 j = h.2.2 21 j := fun j => k.v (c21 _)
  unfold Ss at s ⊢
  simp only [f20, f21]
  exact s
theorem Ss.at {h h1 : JH} {W : List (Nat × Nat)} {u : Nat} (s : Ss h u) (k : Kp W h h1) (c20 : ∀ j, inW W 20 j = false) {i v : Int} (i0 : 0 ≤ i) (i1 : i < (u : Int)) (e : h1.2.2 20 i.toNat = v) : -9999 ≤ v ∧ v ≤ 9999 := by
  have := s.2 i.toNat (by omega)
  rw [k.v (c20 _)] at e
  rw [e] at this
  exact ⟨this.1, this.2.1⟩
theorem Ss.rt {h h1 : JH} {W : List (Nat × Nat)} {u : Nat} (s : Ss h u) (k : Kp W h h1) (c21 : ∀ j, inW W 21 j = false) {i v : Int} (i0 : 0 ≤ i) (i1 : i < (u : Int)) (e : h1.2.2 21 i.toNat = v) : 0 ≤ v ∧ v ≤ 90 := by
  have := s.2 i.toNat (by omega)
  rw [k.v (c21 _)] at e
  rw [e] at this
  exact ⟨this.2.2.1, this.2.2.2⟩
theorem mul_le100 {e r p D : Int} (e0 : 0 ≤ e) (eD : e ≤ D) (r0 : 0 ≤ r) (r1 : r ≤ 100) (h : e * r = p) : 0 ≤ p ∧ p ≤ 100 * e := by
  subst h
  have h1 : e * r ≤ e * 100 := Int.mul_le_mul_of_nonneg_left r1 e0
  have h2 : 0 ≤ e * r := Int.mul_nonneg e0 r0
  omega
theorem bR_st {W : List (Nat × Nat)} {h h1 : JH} {c x i v w y : Int} (k : Kp W h h1) (c62 : ∀ j, inW W 62 j = false) (H : x = bR h c i.toNat) (i0 : 0 ≤ i) (e1 : h1.2.2 62 i.toNat = v) (hv : v ≤ c) (hx : x < 0 ∨ (h1.2.2 62 x.toNat = w ∧ w ≤ v)) (hy : y = i + 1) : i = bR h c y.toNat := by
  rw [show y.toNat = i.toNat + 1 by omega]
  show i = if h.2.2 62 i.toNat ≤ c ∧ (bR h c i.toNat < 0 ∨ h.2.2 62 (bR h c i.toNat).toNat ≤ h.2.2 62 i.toNat) then ((i.toNat : Nat) : Int) else _
  rw [← H, if_pos ?_]
  · omega
  · rw [k.v (c62 _)] at e1
    refine ⟨by omega, hx.imp id (fun z => ?_)⟩
    have := z.1
    rw [k.v (c62 _)] at this
    omega
theorem bR_no {W : List (Nat × Nat)} {h h1 : JH} {c x i v w y : Int} (k : Kp W h h1) (c62 : ∀ j, inW W 62 j = false) (H : x = bR h c i.toNat) (i0 : 0 ≤ i) (e1 : h1.2.2 62 i.toNat = v) (hv : c < v ∨ (0 ≤ x ∧ h1.2.2 62 x.toNat = w ∧ v < w)) (hy : y = i + 1) : x = bR h c y.toNat := by
  rw [show y.toNat = i.toNat + 1 by omega]
  show x = if h.2.2 62 i.toNat ≤ c ∧ (bR h c i.toNat < 0 ∨ h.2.2 62 (bR h c i.toNat).toNat ≤ h.2.2 62 i.toNat) then _ else bR h c i.toNat
  rw [← H, if_neg ?_]
  rw [k.v (c62 _)] at e1
  intro z
  rcases hv with hv | ⟨a, b, d⟩
  · omega
  · rw [k.v (c62 _)] at b
    omega
theorem ft_mid {f : Int → Int} {s x v : Int} (H : s = sg f 1 (x - 1).toNat) (hx : v < x) (hy : x ≤ v + 1 ∨ x = 1) : (0 < v ∧ s = sg f 1 v.toNat) ∨ (v ≤ 0 ∧ s = -(sg f (0 + 1) (-0).toNat)) := by
  rcases Int.lt_or_le 0 v with z | z
  · exact Or.inl ⟨z, H.trans (by rw [show (x - 1).toNat = v.toNat by omega])⟩
  · exact Or.inr ⟨z, H.trans (by rw [show (x - 1).toNat = 0 by omega]; rfl)⟩
theorem ft_end {f : Int → Int} {s x v : Int} (H : (0 < v ∧ s = sg f 1 v.toNat) ∨ (v ≤ 0 ∧ s = -(sg f (x + 1) (-x).toNat))) (hx : x ≤ v) (hy : v ≤ x ∨ 0 < v) : s = ftF f v := by
  unfold ftF
  rcases H with ⟨z, q⟩ | ⟨z, q⟩
  · rw [if_pos z]; exact q
  · rw [if_neg (by omega), q, show x = v by omega]
set_option maxHeartbeats 4000000 in
theorem t178 {G : GH} {h : JH} (g : Gd G h) {a1 : Int} (la1 : (-2147483648) ≤ a1) (ua1 : a1 ≤ 2147483647) {a2 : Int} (la2 : (-2147483648) ≤ a2) (ua2 : a2 ≤ 2147483647) {w0 : Int} (ew0 : h.2.2 0 7 = w0) (lw0 : 0 ≤ w0) (uw0 : w0 ≤ 20) (hB : h.1 ≤ 1000000) : jOk 5 1 3 178 [(2, 0), (0, a1), (0, a2)] h (fun v h' => PN [(0, 8), (24, 0)] h 0 (-3) 19 v h' ∧ h'.2.2 0 7 = feG a1 a2 w0 ∧ FeC h h' a1 a2 w0) := by
  refine ⟨by decide, by rw [ml178]; exact Nat.le_of_ble_eq_true rfl, ?_⟩
  rw [ml178, pp178]
  show jEv _ none _ c178_0 1 3 _ (c178_0, [(2, 0), (0, a1), (0, a2), (9, 0)], [], h, 0, 0)
  have k0 := Kp.rf [(0, 8), (24, 0)] h
  refine ev_iload_n rfl ?_
  refine ev_iconst ?_
  refine ev_icmpeq f178_10 (fun c75156 => ?_) (fun c75156 => ?_)
  · refine ev_iconst ?_
    refine ev_goto f178_15 ?_
    refine ev_istore_n (L' := [(2, 0), (0, a1), (0, a2), (0, 1)]) (Nat.le_of_ble_eq_true rfl) rfl ?_
    refine ev_iload_n rfl ?_
    refine ev_iflt f178_39 (fun c75157 => absurd c75157 (by omega)) (fun c75157 => ?_)
    refine ev_iload_n rfl ?_
    refine ev_iconst ?_
    refine ev_icmpgt f178_39 (fun c75158 => absurd c75158 (by omega)) (fun c75158 => ?_)
    refine ev_iload_n rfl ?_
    refine ev_ifeq f178_41 (fun c75159 => absurd c75159 (by omega)) (fun c75159 => ?_)
    refine ev_iload_n rfl ?_
    refine ev_iflt f178_39 (fun c75160 => ?_) (fun c75160 => ?_)
    · refine ev_iconst ?_
      exact ev_ret rfl (by decide) (by decide) ⟨⟨_, rfl, by omega, by omega, ⟨_, g⟩, k0.x, by rw [k0.1]; omega⟩, ((ew0)).trans (by (try unfold feG); (repeat' split) <;> omega), Or.inl ⟨by unfold FV; omega, rfl⟩⟩
    · refine ev_iload_n rfl ?_
      refine ev_bipush ?_
      refine ev_icmple f178_41 (fun c75161 => ?_) (fun c75161 => ?_)
      · refine ev_aload_n rfl ?_
        refine g_getv (r := 0) (v := w0) g ad0 (by decide) ft11_7 (ew0) ?_
        refine ev_bipush ?_
        refine ev_icmplt f178_53 (fun c75162 => ?_) (fun c75162 => ?_)
        · refine ev_aload_n rfl ?_
          refine g_getp (r := 0) (c := 24) g ad0 (by decide) (by decide) rf0_6 ft11_6 ?_
          refine ev_aload_n rfl ?_
          refine g_getv (r := 0) (v := w0) g ad0 (by decide) ft11_7 (ew0) ?_
          refine ev_aload_n rfl ?_
          refine ev_iload_n rfl ?_
          refine ev_aload_n rfl ?_
          refine g_getv (r := 0) (v := w0) g ad0 (by decide) ft11_7 (ew0) ?_
          refine ev_iload_n rfl ?_
          refine ev_ifeq f178_75 (fun c75163 => absurd c75163 (by omega)) (fun c75163 => ?_)
          refine ev_iload_n rfl ?_
          refine ev_goto f178_76 ?_
          refine ev_call (jcall_v (A := [(0, a2), (0, w0), (0, a1)]) (S' := [(0, w0), (2, 24)]) (r := 0) rfl (g.lt ad0) (g.tg ad0) (Nat.le_of_ble_eq_true rfl)) (jOk_le (by decide) (newFeel (d := 0) (s := 19) (g.lt ad0) (g.fam ad0 (by decide)) (g.pt ad0 (i := 4) (by decide) rf0_4) (g.lt ad19))) (by decide) (by decide) (fun w75164 h75164 z75164 => ?_)
          obtain ⟨rfl, z75164⟩ := z75164
          obtain ⟨g75164, es75164, x75164⟩ := g.newF (feelT_fam _) (by omega) (by omega) (by omega) (by omega) z75164
          have hz75164 := k0.1
          have k75164 := Kx.tx k0 x75164 (by decide)
          have fz75164 := g.2.1.1
          show jEv _ _ _ _ _ _ _ (_, [(2, 0), (0, a1), (0, a2), (0, 1)], [(2, (h.1 : Int)), (0, w0), (2, 24)], _, _, _)
          have ff75165 := gF_at (n := w0) (p := a2) g
          refine ev_astoG (r := 24) (j := (w0).toNat) (v := h.1) (g75164.lt ad24) (g75164.tg ad24) (by omega) (by rw [g75164.ln ad24]; omega) (by rw [es75164]; omega) (newF_ty (feelT_fam _) z75164) (fun h75165a e75165a => ?_)
          refine ev_aload_n rfl ?_
          refine ev_dup (by decide) ?_
          refine ev_getf (r := 0) (v := w0) (by rw [(jwr_ty e75165a).1]; exact g75164.lt ad0) (by rw [(jwr_ty e75165a).2]; exact g75164.fam ad0 (by decide)) ft11_7 ((jw_ne e75165a (Or.inl (by decide))).trans (((x75164.2.2 0 7 (g.lt ad0) (by decide)).trans ew0))) ?_
          refine ev_iconst ?_
          refine ev_iadd (r := (w0 + 1)) (by unfold w32; omega) ?_
          refine ev_putfG (r := 0) (by rw [(jwr_ty e75165a).1]; exact g75164.lt ad0) (by rw [(jwr_ty e75165a).2]; exact g75164.fam ad0 (by decide)) ft11_7 (fun e => absurd e nz11_7) (fun e => absurd e (by decide)) (fun h75165 e75165 => ?_)
          have g75165 := g75164.putF ff75165 (((x75164.2.2 0 7 (g.lt ad0) (by decide)).trans ew0)) e75165a e75165 (by omega) (by omega) (by omega)
          have k75165 := (k75164.wr e75165a rfl).wr e75165 rfl
          refine ev_aload_n rfl ?_
          refine g_getv (r := 0) (v := (w0 + 1)) g75165 ad0 (by decide) ft11_7 ((jw_eq e75165)) ?_
          refine ev_iconst ?_
          refine ev_isub (r := w0) (by unfold w32; omega) ?_
          exact ev_ret rfl (by decide) (by decide) ⟨⟨_, rfl, by omega, by omega, ⟨_, g75165⟩, k75165, by rw [(jwr_ty e75165).1, (jwr_ty e75165a).1, es75164]; omega⟩, (((jw_eq e75165))).trans (by (try unfold feG); (repeat' split) <;> omega), Or.inr ⟨by unfold FV; omega, FeK.mk z75164 g.2.1.1 (by omega) (by omega) e75165a e75165 (by omega) (by unfold prF; split <;> omega)⟩⟩
        · refine ev_bipush ?_
          exact ev_ret rfl (by decide) (by decide) ⟨⟨_, rfl, by omega, by omega, ⟨_, g⟩, k0.x, by rw [k0.1]; omega⟩, ((ew0)).trans (by (try unfold feG); (repeat' split) <;> omega), Or.inl ⟨by unfold FV; omega, rfl⟩⟩
      · refine ev_iconst ?_
        exact ev_ret rfl (by decide) (by decide) ⟨⟨_, rfl, by omega, by omega, ⟨_, g⟩, k0.x, by rw [k0.1]; omega⟩, ((ew0)).trans (by (try unfold feG); (repeat' split) <;> omega), Or.inl ⟨by unfold FV; omega, rfl⟩⟩
  · refine ev_iload_n rfl ?_
    refine ev_iconst ?_
    refine ev_icmpne f178_14 (fun c75166 => ?_) (fun c75166 => ?_)
    · refine ev_iconst ?_
      refine ev_istore_n (L' := [(2, 0), (0, a1), (0, a2), (0, 0)]) (Nat.le_of_ble_eq_true rfl) rfl ?_
      refine ev_iload_n rfl ?_
      refine ev_iflt f178_39 (fun c75167 => ?_) (fun c75167 => ?_)
      · refine ev_iconst ?_
        exact ev_ret rfl (by decide) (by decide) ⟨⟨_, rfl, by omega, by omega, ⟨_, g⟩, k0.x, by rw [k0.1]; omega⟩, ((ew0)).trans (by (try unfold feG); (repeat' split) <;> omega), Or.inl ⟨by unfold FV; omega, rfl⟩⟩
      · refine ev_iload_n rfl ?_
        refine ev_iconst ?_
        refine ev_icmpgt f178_39 (fun c75168 => ?_) (fun c75168 => ?_)
        · refine ev_iconst ?_
          exact ev_ret rfl (by decide) (by decide) ⟨⟨_, rfl, by omega, by omega, ⟨_, g⟩, k0.x, by rw [k0.1]; omega⟩, ((ew0)).trans (by (try unfold feG); (repeat' split) <;> omega), Or.inl ⟨by unfold FV; omega, rfl⟩⟩
        · refine ev_iload_n rfl ?_
          refine ev_ifeq f178_41 (fun c75169 => ?_) (fun c75169 => absurd c75169 (by omega))
          refine ev_aload_n rfl ?_
          refine g_getv (r := 0) (v := w0) g ad0 (by decide) ft11_7 (ew0) ?_
          refine ev_bipush ?_
          refine ev_icmplt f178_53 (fun c75170 => ?_) (fun c75170 => ?_)
          · refine ev_aload_n rfl ?_
            refine g_getp (r := 0) (c := 24) g ad0 (by decide) (by decide) rf0_6 ft11_6 ?_
            refine ev_aload_n rfl ?_
            refine g_getv (r := 0) (v := w0) g ad0 (by decide) ft11_7 (ew0) ?_
            refine ev_aload_n rfl ?_
            refine ev_iload_n rfl ?_
            refine ev_aload_n rfl ?_
            refine g_getv (r := 0) (v := w0) g ad0 (by decide) ft11_7 (ew0) ?_
            refine ev_iload_n rfl ?_
            refine ev_ifeq f178_75 (fun c75171 => ?_) (fun c75171 => absurd c75171 (by omega))
            refine ev_iconst ?_
            refine ev_call (jcall_v (A := [(0, 0), (0, w0), (0, a1)]) (S' := [(0, w0), (2, 24)]) (r := 0) rfl (g.lt ad0) (g.tg ad0) (Nat.le_of_ble_eq_true rfl)) (jOk_le (by decide) (newFeel (d := 0) (s := 19) (g.lt ad0) (g.fam ad0 (by decide)) (g.pt ad0 (i := 4) (by decide) rf0_4) (g.lt ad19))) (by decide) (by decide) (fun w75172 h75172 z75172 => ?_)
            obtain ⟨rfl, z75172⟩ := z75172
            obtain ⟨g75172, es75172, x75172⟩ := g.newF (feelT_fam _) (by omega) (by omega) (by omega) (by omega) z75172
            have hz75172 := k0.1
            have k75172 := Kx.tx k0 x75172 (by decide)
            have fz75172 := g.2.1.1
            show jEv _ _ _ _ _ _ _ (_, [(2, 0), (0, a1), (0, a2), (0, 0)], [(2, (h.1 : Int)), (0, w0), (2, 24)], _, _, _)
            have ff75173 := gF_at (n := w0) (p := 0) g
            refine ev_astoG (r := 24) (j := (w0).toNat) (v := h.1) (g75172.lt ad24) (g75172.tg ad24) (by omega) (by rw [g75172.ln ad24]; omega) (by rw [es75172]; omega) (newF_ty (feelT_fam _) z75172) (fun h75173a e75173a => ?_)
            refine ev_aload_n rfl ?_
            refine ev_dup (by decide) ?_
            refine ev_getf (r := 0) (v := w0) (by rw [(jwr_ty e75173a).1]; exact g75172.lt ad0) (by rw [(jwr_ty e75173a).2]; exact g75172.fam ad0 (by decide)) ft11_7 ((jw_ne e75173a (Or.inl (by decide))).trans (((x75172.2.2 0 7 (g.lt ad0) (by decide)).trans ew0))) ?_
            refine ev_iconst ?_
            refine ev_iadd (r := (w0 + 1)) (by unfold w32; omega) ?_
            refine ev_putfG (r := 0) (by rw [(jwr_ty e75173a).1]; exact g75172.lt ad0) (by rw [(jwr_ty e75173a).2]; exact g75172.fam ad0 (by decide)) ft11_7 (fun e => absurd e nz11_7) (fun e => absurd e (by decide)) (fun h75173 e75173 => ?_)
            have g75173 := g75172.putF ff75173 (((x75172.2.2 0 7 (g.lt ad0) (by decide)).trans ew0)) e75173a e75173 (by omega) (by omega) (by omega)
            have k75173 := (k75172.wr e75173a rfl).wr e75173 rfl
            refine ev_aload_n rfl ?_
            refine g_getv (r := 0) (v := (w0 + 1)) g75173 ad0 (by decide) ft11_7 ((jw_eq e75173)) ?_
            refine ev_iconst ?_
            refine ev_isub (r := w0) (by unfold w32; omega) ?_
            exact ev_ret rfl (by decide) (by decide) ⟨⟨_, rfl, by omega, by omega, ⟨_, g75173⟩, k75173, by rw [(jwr_ty e75173).1, (jwr_ty e75173a).1, es75172]; omega⟩, (((jw_eq e75173))).trans (by (try unfold feG); (repeat' split) <;> omega), Or.inr ⟨by unfold FV; omega, FeK.mk z75172 g.2.1.1 (by omega) (by omega) e75173a e75173 (by omega) (by unfold prF; split <;> omega)⟩⟩
          · refine ev_bipush ?_
            exact ev_ret rfl (by decide) (by decide) ⟨⟨_, rfl, by omega, by omega, ⟨_, g⟩, k0.x, by rw [k0.1]; omega⟩, ((ew0)).trans (by (try unfold feG); (repeat' split) <;> omega), Or.inl ⟨by unfold FV; omega, rfl⟩⟩
    · refine ev_iconst ?_
      refine ev_goto f178_15 ?_
      refine ev_istore_n (L' := [(2, 0), (0, a1), (0, a2), (0, 1)]) (Nat.le_of_ble_eq_true rfl) rfl ?_
      refine ev_iload_n rfl ?_
      refine ev_iflt f178_39 (fun c75174 => absurd c75174 (by omega)) (fun c75174 => ?_)
      refine ev_iload_n rfl ?_
      refine ev_iconst ?_
      refine ev_icmpgt f178_39 (fun c75175 => absurd c75175 (by omega)) (fun c75175 => ?_)
      refine ev_iload_n rfl ?_
      refine ev_ifeq f178_41 (fun c75176 => absurd c75176 (by omega)) (fun c75176 => ?_)
      refine ev_iload_n rfl ?_
      refine ev_iflt f178_39 (fun c75177 => ?_) (fun c75177 => ?_)
      · refine ev_iconst ?_
        exact ev_ret rfl (by decide) (by decide) ⟨⟨_, rfl, by omega, by omega, ⟨_, g⟩, k0.x, by rw [k0.1]; omega⟩, ((ew0)).trans (by (try unfold feG); (repeat' split) <;> omega), Or.inl ⟨by unfold FV; omega, rfl⟩⟩
      · refine ev_iload_n rfl ?_
        refine ev_bipush ?_
        refine ev_icmple f178_41 (fun c75178 => ?_) (fun c75178 => ?_)
        · refine ev_aload_n rfl ?_
          refine g_getv (r := 0) (v := w0) g ad0 (by decide) ft11_7 (ew0) ?_
          refine ev_bipush ?_
          refine ev_icmplt f178_53 (fun c75179 => ?_) (fun c75179 => ?_)
          · refine ev_aload_n rfl ?_
            refine g_getp (r := 0) (c := 24) g ad0 (by decide) (by decide) rf0_6 ft11_6 ?_
            refine ev_aload_n rfl ?_
            refine g_getv (r := 0) (v := w0) g ad0 (by decide) ft11_7 (ew0) ?_
            refine ev_aload_n rfl ?_
            refine ev_iload_n rfl ?_
            refine ev_aload_n rfl ?_
            refine g_getv (r := 0) (v := w0) g ad0 (by decide) ft11_7 (ew0) ?_
            refine ev_iload_n rfl ?_
            refine ev_ifeq f178_75 (fun c75180 => absurd c75180 (by omega)) (fun c75180 => ?_)
            refine ev_iload_n rfl ?_
            refine ev_goto f178_76 ?_
            refine ev_call (jcall_v (A := [(0, a2), (0, w0), (0, a1)]) (S' := [(0, w0), (2, 24)]) (r := 0) rfl (g.lt ad0) (g.tg ad0) (Nat.le_of_ble_eq_true rfl)) (jOk_le (by decide) (newFeel (d := 0) (s := 19) (g.lt ad0) (g.fam ad0 (by decide)) (g.pt ad0 (i := 4) (by decide) rf0_4) (g.lt ad19))) (by decide) (by decide) (fun w75181 h75181 z75181 => ?_)
            obtain ⟨rfl, z75181⟩ := z75181
            obtain ⟨g75181, es75181, x75181⟩ := g.newF (feelT_fam _) (by omega) (by omega) (by omega) (by omega) z75181
            have hz75181 := k0.1
            have k75181 := Kx.tx k0 x75181 (by decide)
            have fz75181 := g.2.1.1
            show jEv _ _ _ _ _ _ _ (_, [(2, 0), (0, a1), (0, a2), (0, 1)], [(2, (h.1 : Int)), (0, w0), (2, 24)], _, _, _)
            have ff75182 := gF_at (n := w0) (p := a2) g
            refine ev_astoG (r := 24) (j := (w0).toNat) (v := h.1) (g75181.lt ad24) (g75181.tg ad24) (by omega) (by rw [g75181.ln ad24]; omega) (by rw [es75181]; omega) (newF_ty (feelT_fam _) z75181) (fun h75182a e75182a => ?_)
            refine ev_aload_n rfl ?_
            refine ev_dup (by decide) ?_
            refine ev_getf (r := 0) (v := w0) (by rw [(jwr_ty e75182a).1]; exact g75181.lt ad0) (by rw [(jwr_ty e75182a).2]; exact g75181.fam ad0 (by decide)) ft11_7 ((jw_ne e75182a (Or.inl (by decide))).trans (((x75181.2.2 0 7 (g.lt ad0) (by decide)).trans ew0))) ?_
            refine ev_iconst ?_
            refine ev_iadd (r := (w0 + 1)) (by unfold w32; omega) ?_
            refine ev_putfG (r := 0) (by rw [(jwr_ty e75182a).1]; exact g75181.lt ad0) (by rw [(jwr_ty e75182a).2]; exact g75181.fam ad0 (by decide)) ft11_7 (fun e => absurd e nz11_7) (fun e => absurd e (by decide)) (fun h75182 e75182 => ?_)
            have g75182 := g75181.putF ff75182 (((x75181.2.2 0 7 (g.lt ad0) (by decide)).trans ew0)) e75182a e75182 (by omega) (by omega) (by omega)
            have k75182 := (k75181.wr e75182a rfl).wr e75182 rfl
            refine ev_aload_n rfl ?_
            refine g_getv (r := 0) (v := (w0 + 1)) g75182 ad0 (by decide) ft11_7 ((jw_eq e75182)) ?_
            refine ev_iconst ?_
            refine ev_isub (r := w0) (by unfold w32; omega) ?_
            exact ev_ret rfl (by decide) (by decide) ⟨⟨_, rfl, by omega, by omega, ⟨_, g75182⟩, k75182, by rw [(jwr_ty e75182).1, (jwr_ty e75182a).1, es75181]; omega⟩, (((jw_eq e75182))).trans (by (try unfold feG); (repeat' split) <;> omega), Or.inr ⟨by unfold FV; omega, FeK.mk z75181 g.2.1.1 (by omega) (by omega) e75182a e75182 (by omega) (by unfold prF; split <;> omega)⟩⟩
          · refine ev_bipush ?_
            exact ev_ret rfl (by decide) (by decide) ⟨⟨_, rfl, by omega, by omega, ⟨_, g⟩, k0.x, by rw [k0.1]; omega⟩, ((ew0)).trans (by (try unfold feG); (repeat' split) <;> omega), Or.inl ⟨by unfold FV; omega, rfl⟩⟩
        · refine ev_iconst ?_
          exact ev_ret rfl (by decide) (by decide) ⟨⟨_, rfl, by omega, by omega, ⟨_, g⟩, k0.x, by rw [k0.1]; omega⟩, ((ew0)).trans (by (try unfold feG); (repeat' split) <;> omega), Or.inl ⟨by unfold FV; omega, rfl⟩⟩
set_option maxHeartbeats 4000000 in
theorem t285 {G : GH} {h : JH} (g : Gd G h) {a1 : Int} (la1 : (-2147483648) ≤ a1) (ua1 : a1 ≤ 2147483647) {a2 : Int} (la2 : (-2147483648) ≤ a2) (ua2 : a2 ≤ 2147483647) {w0 : Int} (ew0 : h.2.2 42 28 = w0) (lw0 : 0 ≤ w0) (uw0 : w0 ≤ 20) : jOk 2 0 0 285 [(2, 42), (0, a1), (0, a2)] h (fun v h' => ∃ r : Int, v = some (0, r) ∧ Gd G h' ∧ Kp [(42, 29), (60, 0), (61, 0)] h h' ∧ h'.2.2 42 28 = feG a1 a2 w0 ∧ FeR h h' a1 a2 w0) := by
  refine ⟨by decide, by rw [ml285]; exact Nat.le_of_ble_eq_true rfl, ?_⟩
  rw [ml285, pp285]
  show jEv _ none _ c285_0 0 0 _ (c285_0, [(2, 42), (0, a1), (0, a2)], [], h, 0, 0)
  have k0 := Kp.rf [(42, 29), (60, 0), (61, 0)] h
  refine ev_iload_n rfl ?_
  refine ev_iconst ?_
  refine ev_iconst ?_
  refine ev_in (d := 0) (a := 0) (b := 0) (cd' := c242_0) (m := 3) (L0 := [(0, a1), (0, 0), (0, 5)]) (jcall_s (A := [(0, 5), (0, 0), (0, a1)]) (S' := []) (by decide) rfl (Nat.le_of_ble_eq_true rfl)) (by decide) ml242 pp242 (Nat.le_of_ble_eq_true rfl) rfl (by decide) (by decide) ?_
  refine ev_iload_n rfl ?_
  refine ev_iload_n rfl ?_
  refine ev_icmplt f242_14 (fun c75225 => ?_) (fun c75225 => ?_)
  · refine ev_iconst ?_
    refine ev_ret rfl (by decide) (by decide) ?_
    show jEv _ _ _ _ _ _ _ (_, [(2, 42), (0, a1), (0, a2)], [(0, 0)], _, _, _)
    refine ev_ifeq f285_24 (fun c75226 => ?_) (fun c75226 => absurd c75226 (by omega))
    refine ev_iconst ?_
    exact ev_ret rfl (by decide) (by decide) ⟨_, rfl, g, k0, ((ew0)).trans (by (try unfold feG); (repeat' split) <;> omega), Or.inl ⟨by unfold FV; omega, fun _ => rfl, fun _ => rfl⟩⟩
  · refine ev_iload_n rfl ?_
    refine ev_iload_n rfl ?_
    refine ev_icmpgt f242_14 (fun c75227 => ?_) (fun c75227 => ?_)
    · refine ev_iconst ?_
      refine ev_ret rfl (by decide) (by decide) ?_
      show jEv _ _ _ _ _ _ _ (_, [(2, 42), (0, a1), (0, a2)], [(0, 0)], _, _, _)
      refine ev_ifeq f285_24 (fun c75228 => ?_) (fun c75228 => absurd c75228 (by omega))
      refine ev_iconst ?_
      exact ev_ret rfl (by decide) (by decide) ⟨_, rfl, g, k0, ((ew0)).trans (by (try unfold feG); (repeat' split) <;> omega), Or.inl ⟨by unfold FV; omega, fun _ => rfl, fun _ => rfl⟩⟩
    · refine ev_iconst ?_
      refine ev_goto f242_15 ?_
      refine ev_ret rfl (by decide) (by decide) ?_
      show jEv _ _ _ _ _ _ _ (_, [(2, 42), (0, a1), (0, a2)], [(0, 1)], _, _, _)
      refine ev_ifeq f285_24 (fun c75229 => absurd c75229 (by omega)) (fun c75229 => ?_)
      refine ev_iload_n rfl ?_
      refine ev_iconst ?_
      refine ev_icmplt f285_26 (fun c75230 => ?_) (fun c75230 => ?_)
      · refine ev_aload_n rfl ?_
        refine g_getv (r := 42) (v := w0) g ad42 (by decide) ft12_28 (ew0) ?_
        refine ev_bipush ?_
        refine ev_icmpne f285_38 (fun c75231 => ?_) (fun c75231 => ?_)
        · refine ev_aload_n rfl ?_
          refine g_getp (r := 42) (c := 60) g ad42 (by decide) (by decide) rf42_29 ft12_29 ?_
          refine ev_aload_n rfl ?_
          refine g_getv (r := 42) (v := w0) g ad42 (by decide) ft12_28 (ew0) ?_
          refine ev_iload_n rfl ?_
          refine g_iast g ad60 rt60 (fun _ => rfl) (by omega) (by omega) (by omega) (by omega) (fun h75232 e75232 g75232 => ?_)
          have k75232 := k0.wr e75232 rfl
          refine ev_aload_n rfl ?_
          refine g_getp (r := 42) (c := 61) g75232 ad42 (by decide) (by decide) rf42_30 ft12_30 ?_
          refine ev_aload_n rfl ?_
          refine g_getv (r := 42) (v := w0) g75232 ad42 (by decide) ft12_28 (((jw_ne e75232 (Or.inl (by decide))).trans ew0)) ?_
          refine ev_iload_n rfl ?_
          refine ev_iconst ?_
          refine ev_icmplt f285_65 (fun c75233 => ?_) (fun c75233 => absurd c75233 (by omega))
          refine ev_iconst ?_
          refine g_iast g75232 ad61 rt61 (fun _ => rfl) (by omega) (by omega) (by omega) (by omega) (fun h75234 e75234 g75234 => ?_)
          have k75234 := k75232.wr e75234 rfl
          refine ev_aload_n rfl ?_
          refine ev_dup (by decide) ?_
          refine g_getv (r := 42) (v := w0) g75234 ad42 (by decide) ft12_28 (((jw_ne e75234 (Or.inl (by decide))).trans ((jw_ne e75232 (Or.inl (by decide))).trans ew0))) ?_
          refine ev_iconst ?_
          refine ev_iadd (r := (w0 + 1)) (by unfold w32; omega) ?_
          refine g_putf (r := 42) g75234 ad42 (by decide) ft12_28 (by decide) (fun e => absurd e nz12_28) rf42_28 (by decide) (by omega) (by omega) (fun h75235 e75235 g75235 => ?_)
          have k75235 := k75234.wr e75235 rfl
          refine ev_aload_n rfl ?_
          refine g_getv (r := 42) (v := (w0 + 1)) g75235 ad42 (by decide) ft12_28 ((jw_eq e75235)) ?_
          refine ev_iconst ?_
          refine ev_isub (r := w0) (by unfold w32; omega) ?_
          exact ev_ret rfl (by decide) (by decide) ⟨_, rfl, g75235, k75235, (((jw_eq e75235))).trans (by (try unfold feG); (repeat' split) <;> omega), Or.inr ⟨by unfold FV; omega, (Up.kp (Up.kp (Up.mk2 (i := w0) (i' := w0) (v' := a1) e75232 (by omega) (by omega)) ((Kp.rf [(61, 0)] _).wr e75234 rfl) (fun _ => rfl)) ((Kp.rf [(42, 0)] _).wr e75235 rfl) (fun _ => rfl)), (Up.kp (Up.pk ((Kp.rf [(60, 0)] _).wr e75232 rfl) (fun _ => rfl) (Up.mk2 (i := w0) (i' := w0) (v' := prF a1 a2) e75234 (by omega) (by unfold prF; split <;> omega))) ((Kp.rf [(42, 0)] _).wr e75235 rfl) (fun _ => rfl))⟩⟩
        · refine ev_bipush ?_
          exact ev_ret rfl (by decide) (by decide) ⟨_, rfl, g, k0, ((ew0)).trans (by (try unfold feG); (repeat' split) <;> omega), Or.inl ⟨by unfold FV; omega, fun _ => rfl, fun _ => rfl⟩⟩
      · refine ev_iload_n rfl ?_
        refine ev_iconst ?_
        refine ev_bipush ?_
        refine ev_in (d := 0) (a := 0) (b := 0) (cd' := c242_0) (m := 3) (L0 := [(0, a2), (0, 0), (0, 100)]) (jcall_s (A := [(0, 100), (0, 0), (0, a2)]) (S' := []) (by decide) rfl (Nat.le_of_ble_eq_true rfl)) (by decide) ml242 pp242 (Nat.le_of_ble_eq_true rfl) rfl (by decide) (by decide) ?_
        refine ev_iload_n rfl ?_
        refine ev_iload_n rfl ?_
        refine ev_icmplt f242_14 (fun c75236 => ?_) (fun c75236 => ?_)
        · refine ev_iconst ?_
          refine ev_ret rfl (by decide) (by decide) ?_
          show jEv _ _ _ _ _ _ _ (_, [(2, 42), (0, a1), (0, a2)], [(0, 0)], _, _, _)
          refine ev_ifne f285_26 (fun c75237 => absurd c75237 (by omega)) (fun c75237 => ?_)
          refine ev_iconst ?_
          exact ev_ret rfl (by decide) (by decide) ⟨_, rfl, g, k0, ((ew0)).trans (by (try unfold feG); (repeat' split) <;> omega), Or.inl ⟨by unfold FV; omega, fun _ => rfl, fun _ => rfl⟩⟩
        · refine ev_iload_n rfl ?_
          refine ev_iload_n rfl ?_
          refine ev_icmpgt f242_14 (fun c75238 => ?_) (fun c75238 => ?_)
          · refine ev_iconst ?_
            refine ev_ret rfl (by decide) (by decide) ?_
            show jEv _ _ _ _ _ _ _ (_, [(2, 42), (0, a1), (0, a2)], [(0, 0)], _, _, _)
            refine ev_ifne f285_26 (fun c75239 => absurd c75239 (by omega)) (fun c75239 => ?_)
            refine ev_iconst ?_
            exact ev_ret rfl (by decide) (by decide) ⟨_, rfl, g, k0, ((ew0)).trans (by (try unfold feG); (repeat' split) <;> omega), Or.inl ⟨by unfold FV; omega, fun _ => rfl, fun _ => rfl⟩⟩
          · refine ev_iconst ?_
            refine ev_goto f242_15 ?_
            refine ev_ret rfl (by decide) (by decide) ?_
            show jEv _ _ _ _ _ _ _ (_, [(2, 42), (0, a1), (0, a2)], [(0, 1)], _, _, _)
            refine ev_ifne f285_26 (fun c75240 => ?_) (fun c75240 => absurd c75240 (by omega))
            refine ev_aload_n rfl ?_
            refine g_getv (r := 42) (v := w0) g ad42 (by decide) ft12_28 (ew0) ?_
            refine ev_bipush ?_
            refine ev_icmpne f285_38 (fun c75241 => ?_) (fun c75241 => ?_)
            · refine ev_aload_n rfl ?_
              refine g_getp (r := 42) (c := 60) g ad42 (by decide) (by decide) rf42_29 ft12_29 ?_
              refine ev_aload_n rfl ?_
              refine g_getv (r := 42) (v := w0) g ad42 (by decide) ft12_28 (ew0) ?_
              refine ev_iload_n rfl ?_
              refine g_iast g ad60 rt60 (fun _ => rfl) (by omega) (by omega) (by omega) (by omega) (fun h75242 e75242 g75242 => ?_)
              have k75242 := k0.wr e75242 rfl
              refine ev_aload_n rfl ?_
              refine g_getp (r := 42) (c := 61) g75242 ad42 (by decide) (by decide) rf42_30 ft12_30 ?_
              refine ev_aload_n rfl ?_
              refine g_getv (r := 42) (v := w0) g75242 ad42 (by decide) ft12_28 (((jw_ne e75242 (Or.inl (by decide))).trans ew0)) ?_
              refine ev_iload_n rfl ?_
              refine ev_iconst ?_
              refine ev_icmplt f285_65 (fun c75243 => absurd c75243 (by omega)) (fun c75243 => ?_)
              refine ev_iload_n rfl ?_
              refine ev_goto f285_66 ?_
              refine g_iast g75242 ad61 rt61 (fun _ => rfl) (by omega) (by omega) (by omega) (by omega) (fun h75244 e75244 g75244 => ?_)
              have k75244 := k75242.wr e75244 rfl
              refine ev_aload_n rfl ?_
              refine ev_dup (by decide) ?_
              refine g_getv (r := 42) (v := w0) g75244 ad42 (by decide) ft12_28 (((jw_ne e75244 (Or.inl (by decide))).trans ((jw_ne e75242 (Or.inl (by decide))).trans ew0))) ?_
              refine ev_iconst ?_
              refine ev_iadd (r := (w0 + 1)) (by unfold w32; omega) ?_
              refine g_putf (r := 42) g75244 ad42 (by decide) ft12_28 (by decide) (fun e => absurd e nz12_28) rf42_28 (by decide) (by omega) (by omega) (fun h75245 e75245 g75245 => ?_)
              have k75245 := k75244.wr e75245 rfl
              refine ev_aload_n rfl ?_
              refine g_getv (r := 42) (v := (w0 + 1)) g75245 ad42 (by decide) ft12_28 ((jw_eq e75245)) ?_
              refine ev_iconst ?_
              refine ev_isub (r := w0) (by unfold w32; omega) ?_
              exact ev_ret rfl (by decide) (by decide) ⟨_, rfl, g75245, k75245, (((jw_eq e75245))).trans (by (try unfold feG); (repeat' split) <;> omega), Or.inr ⟨by unfold FV; omega, (Up.kp (Up.kp (Up.mk2 (i := w0) (i' := w0) (v' := a1) e75242 (by omega) (by omega)) ((Kp.rf [(61, 0)] _).wr e75244 rfl) (fun _ => rfl)) ((Kp.rf [(42, 0)] _).wr e75245 rfl) (fun _ => rfl)), (Up.kp (Up.pk ((Kp.rf [(60, 0)] _).wr e75242 rfl) (fun _ => rfl) (Up.mk2 (i := w0) (i' := w0) (v' := prF a1 a2) e75244 (by omega) (by unfold prF; split <;> omega))) ((Kp.rf [(42, 0)] _).wr e75245 rfl) (fun _ => rfl))⟩⟩
            · refine ev_bipush ?_
              exact ev_ret rfl (by decide) (by decide) ⟨_, rfl, g, k0, ((ew0)).trans (by (try unfold feG); (repeat' split) <;> omega), Or.inl ⟨by unfold FV; omega, fun _ => rfl, fun _ => rfl⟩⟩
set_option maxHeartbeats 4000000 in
theorem t81 {G : GH} {h : JH} (g : Gd G h) {a1 : Int} (la1 : 0 ≤ a1) (ua1 : a1 ≤ 199) : jOk 16 13 1814 81 [(2, 7), (0, a1)] h (fun v h' => ∃ (G' : GH) (r : Nat) (m : Int), v = some (2, (r : Int)) ∧ Gd G' h' ∧ IsQ G' r m ∧ Kx [(1000000, 0)] h h' ∧ r = h.1 ∧ h'.1 = h.1 + 13 ∧ (∀ a, a < r → G'.2 a = G.2 a) ∧ r ≤ G'.1) := by
  refine ⟨by decide, by rw [ml81]; exact Nat.le_of_ble_eq_true rfl, ?_⟩
  rw [ml81, pp81]
  show jEv _ none _ c81_0 13 1814 _ (c81_0, [(2, 7), (0, a1), (9, 0), (9, 0)], [], h, 0, 0)
  have k0 := Kp.rf [(1000000, 0)] h
  refine ev_aload_n rfl ?_
  refine ev_iload_n rfl ?_
  refine ev_in (d := 14) (a := 0) (b := 0) (cd' := c66_0) (m := 2) (L0 := [(2, 7), (0, a1)]) (jcall_v (A := [(0, a1)]) (S' := []) (r := 7) rfl (g.lt ad7) (g.tg ad7) (Nat.le_of_ble_eq_true rfl)) (by decide) ml66 pp66 (Nat.le_of_ble_eq_true rfl) rfl (by decide) (by decide) ?_
  refine ev_iload_n rfl ?_
  refine ev_iflt f66_12 (fun c75300 => absurd c75300 (by omega)) (fun c75300 => ?_)
  refine ev_iload_n rfl ?_
  refine ev_aload_n rfl ?_
  obtain ⟨v75301, ev75301, lv75301, uv75301⟩ := g.rd ad7 (show 3 < 15 by decide) rf7_3
  refine g_getv (r := 7) (v := v75301) g ad7 (by decide) ft5_3 ev75301 ?_
  refine ev_icmplt f66_16 (fun c75302 => ?_) (fun c75302 => ?_)
  · refine ev_aload_n rfl ?_
    refine g_getp (r := 7) (c := 17) g ad7 (by decide) (by decide) rf7_14 ft5_14 ?_
    refine ev_iload_n rfl ?_
    refine g_iald g ad17 rt17 (by omega) (by omega) (fun v75303 ev75303 lv75303 uv75303 => ?_)
    refine ev_ret rfl (by decide) (by decide) ?_
    show jEv _ _ _ _ _ _ _ (_, [(2, 7), (0, a1), (9, 0), (9, 0)], [(0, v75303)], _, _, _)
    refine ev_istore_n (L' := [(2, 7), (0, a1), (0, v75303), (9, 0)]) (Nat.le_of_ble_eq_true rfl) rfl ?_
    refine ev_new jn4 (by decide) (by decide) ?_
    refine ev_dup (by decide) ?_
    refine ev_iload_n rfl ?_
    refine ev_iconst ?_
    refine ev_icmplt f81_21 (fun c75304 => ?_) (fun c75304 => ?_)
    · refine ev_iconst ?_
      refine ev_goto f81_26 ?_
      refine ev_call (jcall_i (A := [(0, 1)]) (S' := [(2, (h.1 : Int))]) (r := h.1) (by decide) rfl (Nat.le_of_ble_eq_true rfl)) (jOk_le (by decide) (s21 g (by omega) (by omega))) (by decide) (by decide) (fun w75305 h75305 z75305 => ?_)
      obtain ⟨rfl, z75305⟩ := z75305
      have s75305 : h75305.1 = h.1 + 13 := z75305.1
      obtain ⟨g75305, qr75306, x75305⟩ := z75305.gd g rfl (by omega) (by omega)
      obtain ⟨r75306, er75306⟩ : ∃ x : Nat, x = h.1 := ⟨_, rfl⟩
      obtain ⟨m75307, em75307⟩ : ∃ x : Int, x = 1 := ⟨_, rfl⟩
      rw [← er75306, ← em75307] at g75305 qr75306
      rw [← er75306]
      have wr75306 := g75305.qb qr75306
      have zr75306 := qr75306.1
      have k75305 : Kx [(1000000, 0)] h h75305 := ⟨x75305.1, x75305.2.1, fun a i ha hw => x75305.2.2 a i ha rfl⟩
      show jEv _ _ _ _ _ _ _ (_, [(2, 7), (0, a1), (0, v75303), (9, 0)], [(2, (r75306 : Int))], _, _, _)
      refine ev_astore_n (L' := [(2, 7), (0, a1), (0, v75303), (2, (r75306 : Int))]) (Nat.le_of_ble_eq_true rfl) rfl ?_
      refine ev_aload_n rfl ?_
      refine ev_aload_n rfl ?_
      refine ev_iload_n rfl ?_
      refine ev_iconst ?_
      refine ev_iconst ?_
      refine ev_iconst ?_
      refine ev_call (jcall_v (A := [(0, 0), (0, 0), (0, (-1)), (0, a1), (2, (r75306 : Int))]) (S' := []) (r := 7) rfl (g75305.lt ad7) (g75305.tg ad7) (Nat.le_of_ble_eq_true rfl)) (jOk_le (by decide) (s82_0 g75305 qr75306 (by omega) (by omega) (by omega) (by omega) (by omega) (by omega))) (by decide) (by decide) (fun w75308 h75308 q75308 => ?_)
      obtain ⟨v75309, rfl, lv75309, uv75309, g75308, kk75308⟩ := q75308
      have k75308 := k75305.tr kk75308 (by decide)
      show jEv _ _ _ _ _ _ _ (_, [(2, 7), (0, a1), (0, v75303), (2, (r75306 : Int))], [(0, v75309)], _, _, _)
      refine ev_pop (by decide) ?_
      refine ev_aload_n rfl ?_
      exact ev_ret rfl (by decide) (by decide) ⟨_, r75306, m75307, rfl, g75308, qr75306, k75308, rfl, by rw [kk75308.1, s75305, er75306], fun a ha => gQ_lo ha, Nat.le_add_right _ _⟩
    · refine ev_iload_n rfl ?_
      refine ev_bipush ?_
      refine ev_icmple f81_25 (fun c75310 => ?_) (fun c75310 => ?_)
      · refine ev_iload_n rfl ?_
        refine ev_call (jcall_i (A := [(0, v75303)]) (S' := [(2, (h.1 : Int))]) (r := h.1) (by decide) rfl (Nat.le_of_ble_eq_true rfl)) (jOk_le (by decide) (s21 g (by omega) (by omega))) (by decide) (by decide) (fun w75311 h75311 z75311 => ?_)
        obtain ⟨rfl, z75311⟩ := z75311
        have s75311 : h75311.1 = h.1 + 13 := z75311.1
        obtain ⟨g75311, qr75312, x75311⟩ := z75311.gd g rfl (by omega) (by omega)
        obtain ⟨r75312, er75312⟩ : ∃ x : Nat, x = h.1 := ⟨_, rfl⟩
        obtain ⟨m75313, em75313⟩ : ∃ x : Int, x = v75303 := ⟨_, rfl⟩
        rw [← er75312, ← em75313] at g75311 qr75312
        rw [← er75312]
        have wr75312 := g75311.qb qr75312
        have zr75312 := qr75312.1
        have k75311 : Kx [(1000000, 0)] h h75311 := ⟨x75311.1, x75311.2.1, fun a i ha hw => x75311.2.2 a i ha rfl⟩
        show jEv _ _ _ _ _ _ _ (_, [(2, 7), (0, a1), (0, v75303), (9, 0)], [(2, (r75312 : Int))], _, _, _)
        refine ev_astore_n (L' := [(2, 7), (0, a1), (0, v75303), (2, (r75312 : Int))]) (Nat.le_of_ble_eq_true rfl) rfl ?_
        refine ev_aload_n rfl ?_
        refine ev_aload_n rfl ?_
        refine ev_iload_n rfl ?_
        refine ev_iconst ?_
        refine ev_iconst ?_
        refine ev_iconst ?_
        refine ev_call (jcall_v (A := [(0, 0), (0, 0), (0, (-1)), (0, a1), (2, (r75312 : Int))]) (S' := []) (r := 7) rfl (g75311.lt ad7) (g75311.tg ad7) (Nat.le_of_ble_eq_true rfl)) (jOk_le (by decide) (s82_0 g75311 qr75312 (by omega) (by omega) (by omega) (by omega) (by omega) (by omega))) (by decide) (by decide) (fun w75314 h75314 q75314 => ?_)
        obtain ⟨v75315, rfl, lv75315, uv75315, g75314, kk75314⟩ := q75314
        have k75314 := k75311.tr kk75314 (by decide)
        show jEv _ _ _ _ _ _ _ (_, [(2, 7), (0, a1), (0, v75303), (2, (r75312 : Int))], [(0, v75315)], _, _, _)
        refine ev_pop (by decide) ?_
        refine ev_aload_n rfl ?_
        exact ev_ret rfl (by decide) (by decide) ⟨_, r75312, m75313, rfl, g75314, qr75312, k75314, rfl, by rw [kk75314.1, s75311, er75312], fun a ha => gQ_lo ha, Nat.le_add_right _ _⟩
      · refine ev_iconst ?_
        refine ev_goto f81_26 ?_
        refine ev_call (jcall_i (A := [(0, 1)]) (S' := [(2, (h.1 : Int))]) (r := h.1) (by decide) rfl (Nat.le_of_ble_eq_true rfl)) (jOk_le (by decide) (s21 g (by omega) (by omega))) (by decide) (by decide) (fun w75316 h75316 z75316 => ?_)
        obtain ⟨rfl, z75316⟩ := z75316
        have s75316 : h75316.1 = h.1 + 13 := z75316.1
        obtain ⟨g75316, qr75317, x75316⟩ := z75316.gd g rfl (by omega) (by omega)
        obtain ⟨r75317, er75317⟩ : ∃ x : Nat, x = h.1 := ⟨_, rfl⟩
        obtain ⟨m75318, em75318⟩ : ∃ x : Int, x = 1 := ⟨_, rfl⟩
        rw [← er75317, ← em75318] at g75316 qr75317
        rw [← er75317]
        have wr75317 := g75316.qb qr75317
        have zr75317 := qr75317.1
        have k75316 : Kx [(1000000, 0)] h h75316 := ⟨x75316.1, x75316.2.1, fun a i ha hw => x75316.2.2 a i ha rfl⟩
        show jEv _ _ _ _ _ _ _ (_, [(2, 7), (0, a1), (0, v75303), (9, 0)], [(2, (r75317 : Int))], _, _, _)
        refine ev_astore_n (L' := [(2, 7), (0, a1), (0, v75303), (2, (r75317 : Int))]) (Nat.le_of_ble_eq_true rfl) rfl ?_
        refine ev_aload_n rfl ?_
        refine ev_aload_n rfl ?_
        refine ev_iload_n rfl ?_
        refine ev_iconst ?_
        refine ev_iconst ?_
        refine ev_iconst ?_
        refine ev_call (jcall_v (A := [(0, 0), (0, 0), (0, (-1)), (0, a1), (2, (r75317 : Int))]) (S' := []) (r := 7) rfl (g75316.lt ad7) (g75316.tg ad7) (Nat.le_of_ble_eq_true rfl)) (jOk_le (by decide) (s82_0 g75316 qr75317 (by omega) (by omega) (by omega) (by omega) (by omega) (by omega))) (by decide) (by decide) (fun w75319 h75319 q75319 => ?_)
        obtain ⟨v75320, rfl, lv75320, uv75320, g75319, kk75319⟩ := q75319
        have k75319 := k75316.tr kk75319 (by decide)
        show jEv _ _ _ _ _ _ _ (_, [(2, 7), (0, a1), (0, v75303), (2, (r75317 : Int))], [(0, v75320)], _, _, _)
        refine ev_pop (by decide) ?_
        refine ev_aload_n rfl ?_
        exact ev_ret rfl (by decide) (by decide) ⟨_, r75317, m75318, rfl, g75319, qr75317, k75319, rfl, by rw [kk75319.1, s75316, er75317], fun a ha => gQ_lo ha, Nat.le_add_right _ _⟩
  · refine ev_iconst ?_
    refine ev_goto f66_22 ?_
    refine ev_ret rfl (by decide) (by decide) ?_
    show jEv _ _ _ _ _ _ _ (_, [(2, 7), (0, a1), (9, 0), (9, 0)], [(0, 0)], _, _, _)
    refine ev_istore_n (L' := [(2, 7), (0, a1), (0, 0), (9, 0)]) (Nat.le_of_ble_eq_true rfl) rfl ?_
    refine ev_new jn4 (by decide) (by decide) ?_
    refine ev_dup (by decide) ?_
    refine ev_iload_n rfl ?_
    refine ev_iconst ?_
    refine ev_icmplt f81_21 (fun c75321 => ?_) (fun c75321 => absurd c75321 (by omega))
    refine ev_iconst ?_
    refine ev_goto f81_26 ?_
    refine ev_call (jcall_i (A := [(0, 1)]) (S' := [(2, (h.1 : Int))]) (r := h.1) (by decide) rfl (Nat.le_of_ble_eq_true rfl)) (jOk_le (by decide) (s21 g (by omega) (by omega))) (by decide) (by decide) (fun w75322 h75322 z75322 => ?_)
    obtain ⟨rfl, z75322⟩ := z75322
    have s75322 : h75322.1 = h.1 + 13 := z75322.1
    obtain ⟨g75322, qr75323, x75322⟩ := z75322.gd g rfl (by omega) (by omega)
    obtain ⟨r75323, er75323⟩ : ∃ x : Nat, x = h.1 := ⟨_, rfl⟩
    obtain ⟨m75324, em75324⟩ : ∃ x : Int, x = 1 := ⟨_, rfl⟩
    rw [← er75323, ← em75324] at g75322 qr75323
    rw [← er75323]
    have wr75323 := g75322.qb qr75323
    have zr75323 := qr75323.1
    have k75322 : Kx [(1000000, 0)] h h75322 := ⟨x75322.1, x75322.2.1, fun a i ha hw => x75322.2.2 a i ha rfl⟩
    show jEv _ _ _ _ _ _ _ (_, [(2, 7), (0, a1), (0, 0), (9, 0)], [(2, (r75323 : Int))], _, _, _)
    refine ev_astore_n (L' := [(2, 7), (0, a1), (0, 0), (2, (r75323 : Int))]) (Nat.le_of_ble_eq_true rfl) rfl ?_
    refine ev_aload_n rfl ?_
    refine ev_aload_n rfl ?_
    refine ev_iload_n rfl ?_
    refine ev_iconst ?_
    refine ev_iconst ?_
    refine ev_iconst ?_
    refine ev_call (jcall_v (A := [(0, 0), (0, 0), (0, (-1)), (0, a1), (2, (r75323 : Int))]) (S' := []) (r := 7) rfl (g75322.lt ad7) (g75322.tg ad7) (Nat.le_of_ble_eq_true rfl)) (jOk_le (by decide) (s82_0 g75322 qr75323 (by omega) (by omega) (by omega) (by omega) (by omega) (by omega))) (by decide) (by decide) (fun w75325 h75325 q75325 => ?_)
    obtain ⟨v75326, rfl, lv75326, uv75326, g75325, kk75325⟩ := q75325
    have k75325 := k75322.tr kk75325 (by decide)
    show jEv _ _ _ _ _ _ _ (_, [(2, 7), (0, a1), (0, 0), (2, (r75323 : Int))], [(0, v75326)], _, _, _)
    refine ev_pop (by decide) ?_
    refine ev_aload_n rfl ?_
    exact ev_ret rfl (by decide) (by decide) ⟨_, r75323, m75324, rfl, g75325, qr75323, k75325, rfl, by rw [kk75325.1, s75322, er75323], fun a ha => gQ_lo ha, Nat.le_add_right _ _⟩
set_option maxHeartbeats 4000000 in
theorem t173 {G : GH} {h : JH} (g : Gd G h) (hB : h.1 ≤ 1000000) : jOk 31 13 1814 173 [(2, 0)] h (fun v h' => PN [(7, 2), (7, 3), (7, 4), (10, 0), (11, 0), (12, 0), (13, 0), (14, 0), (15, 0), (16, 0), (17, 0), (7, 5), (9, 0), (7, 1), (0, 4), (18, 0), (1000000, 0)] h 0 (-300) 6 v h' ∧ FeS G h h') := by
  refine ⟨by decide, by rw [ml173]; exact Nat.le_of_ble_eq_true rfl, ?_⟩
  rw [ml173, pp173]
  show jEv _ none _ c173_0 13 1814 _ (c173_0, [(2, 0), (9, 0), (9, 0)], [], h, 0, 0)
  have k0 := Kp.rf [(7, 2), (7, 3), (7, 4), (10, 0), (11, 0), (12, 0), (13, 0), (14, 0), (15, 0), (16, 0), (17, 0), (7, 5), (9, 0), (7, 1), (0, 4), (18, 0), (1000000, 0)] h
  refine ev_aload_n rfl ?_
  obtain ⟨v75379, ev75379, lv75379, uv75379⟩ := g.rd ad0 (show 3 < 17 by decide) rf0_3
  refine g_getv (r := 0) (v := v75379) g ad0 (by decide) ft11_3 ev75379 ?_
  refine ev_bipush ?_
  refine ev_icmplt f173_12 (fun c75380 => ?_) (fun c75380 => ?_)
  · refine ev_aload_n rfl ?_
    refine g_getp (r := 0) (c := 7) g ad0 (by decide) (by decide) rf0_1 ft11_1 ?_
    refine ev_aload_n rfl ?_
    refine g_getp (r := 0) (c := 1) g ad0 (by decide) (by decide) rf0_0 ft11_0 ?_
    refine ev_call (jcall_v (A := [(2, 1)]) (S' := []) (r := 7) rfl (g.lt ad7) (g.tg ad7) (Nat.le_of_ble_eq_true rfl)) (jOk_le (by decide) (s67 g )) (by decide) (by decide) (fun w75381 h75381 q75381 => ?_)
    obtain ⟨v75382, rfl, lv75382, uv75382, g75381, kk75381⟩ := q75381
    have k75381 := k0.tr kk75381 (by decide)
    show jEv _ _ _ _ _ _ _ (_, [(2, 0), (9, 0), (9, 0)], [(0, v75382)], _, _, _)
    refine ev_istore_n (L' := [(2, 0), (0, v75382), (9, 0)]) (Nat.le_of_ble_eq_true rfl) rfl ?_
    refine ev_iload_n rfl ?_
    refine ev_ifge f173_42 (fun c75383 => ?_) (fun c75383 => ?_)
    · refine ev_aload_n rfl ?_
      refine g_getp (r := 0) (c := 7) g75381 ad0 (by decide) (by decide) rf0_1 ft11_1 ?_
      refine ev_iload_n rfl ?_
      refine ev_in (d := 29) (a := 0) (b := 0) (cd' := c66_0) (m := 2) (L0 := [(2, 7), (0, v75382)]) (jcall_v (A := [(0, v75382)]) (S' := []) (r := 7) rfl (g75381.lt ad7) (g75381.tg ad7) (Nat.le_of_ble_eq_true rfl)) (by decide) ml66 pp66 (Nat.le_of_ble_eq_true rfl) rfl (by decide) (by decide) ?_
      refine ev_iload_n rfl ?_
      refine ev_iflt f66_12 (fun c75384 => absurd c75384 (by omega)) (fun c75384 => ?_)
      refine ev_iload_n rfl ?_
      refine ev_aload_n rfl ?_
      obtain ⟨v75385, ev75385, lv75385, uv75385⟩ := g75381.rd ad7 (show 3 < 15 by decide) rf7_3
      refine g_getv (r := 7) (v := v75385) g75381 ad7 (by decide) ft5_3 ev75385 ?_
      refine ev_icmplt f66_16 (fun c75386 => ?_) (fun c75386 => ?_)
      · refine ev_aload_n rfl ?_
        refine g_getp (r := 7) (c := 17) g75381 ad7 (by decide) (by decide) rf7_14 ft5_14 ?_
        refine ev_iload_n rfl ?_
        refine g_iald g75381 ad17 rt17 (by omega) (by omega) (fun v75387 ev75387 lv75387 uv75387 => ?_)
        refine ev_ret rfl (by decide) (by decide) ?_
        show jEv _ _ _ _ _ _ _ (_, [(2, 0), (0, v75382), (9, 0)], [(0, v75387)], _, _, _)
        refine ev_bipush ?_
        refine ev_icmple f173_61 (fun c75388 => ?_) (fun c75388 => ?_)
        · refine ev_aload_n rfl ?_
          refine g_getv (r := 0) (v := v75379) g75381 ad0 (by decide) ft11_3 (((kk75381.v (by decide)).trans ev75379)) ?_
          refine ev_istore_n (L' := [(2, 0), (0, v75382), (0, v75379)]) (Nat.le_of_ble_eq_true rfl) rfl ?_
          refine ev_aload_n rfl ?_
          refine g_getp (r := 0) (c := 18) g75381 ad0 (by decide) (by decide) rf0_2 ft11_2 ?_
          refine ev_aload_n rfl ?_
          refine g_getv (r := 0) (v := v75379) g75381 ad0 (by decide) ft11_3 (((kk75381.v (by decide)).trans ev75379)) ?_
          refine ev_aload_n rfl ?_
          refine g_getp (r := 0) (c := 7) g75381 ad0 (by decide) (by decide) rf0_1 ft11_1 ?_
          refine ev_iload_n rfl ?_
          refine ev_call (jcall_v (A := [(0, v75382)]) (S' := [(0, v75379), (2, 18)]) (r := 7) rfl (g75381.lt ad7) (g75381.tg ad7) (Nat.le_of_ble_eq_true rfl)) (jOk_le (by decide) (t81 g75381 (by omega) (by omega))) (by decide) (by decide) (fun w75389 h75389 z75389 => ?_)
          obtain ⟨G75389, r75390, m75391, rfl, g75389, qr75390, x75389, er75389, es75389, ex75389, el75389⟩ := z75389
          have hz75389 := k75381.1
          have k75389 := Kx.tx k75381 x75389 (by decide)
          have wr75390 := g75389.qb qr75390
          have zr75390 := qr75390.1
          show jEv _ _ _ _ _ _ _ (_, [(2, 0), (0, v75382), (0, v75379)], [(2, (r75390 : Int)), (0, v75379), (2, 18)], _, _, _)
          refine ev_astoG (r := 18) (j := (v75379).toNat) (v := r75390) (g75389.lt ad18) (g75389.tg ad18) (by omega) (by rw [g75389.ln ad18]; omega) (g75389.qlt qr75390) (by rw [g75389.qtg qr75390]; rfl) (fun h75392 e75392 => ?_)
          have g75392 := g75389.wr18 qr75390 e75392 (by rw [(((x75389.2.2 0 3 (g75381.lt ad0) (by decide)).trans ((kk75381.v (by decide)).trans ev75379)))]; omega) (by omega)
          have k75392 := k75389.wr e75392 rfl
          refine ev_aload_n rfl ?_
          refine ev_dup (by decide) ?_
          refine g_getv (r := 0) (v := v75379) g75392 ad0 (by decide) ft11_3 (((jw_ne e75392 (Or.inl (by decide))).trans ((x75389.2.2 0 3 (g75381.lt ad0) (by decide)).trans ((kk75381.v (by decide)).trans ev75379)))) ?_
          refine ev_iconst ?_
          refine ev_iadd (r := (v75379 + 1)) (by unfold w32; omega) ?_
          refine ev_putfG (r := 0) (g75392.lt ad0) (g75392.fam ad0 (by decide)) ft11_3 (fun e => absurd e nz11_3) (fun e => absurd e (by decide)) (fun h75393 e75393 => ?_)
          have g75393 := g75392.wr03 qr75390 e75393 (((jw_ne e75392 (Or.inl (by decide))).trans ((x75389.2.2 0 3 (g75381.lt ad0) (by decide)).trans ((kk75381.v (by decide)).trans ev75379)))) (jw_eq e75392) (by omega) (by omega)
          have k75393 := k75392.wr e75393 rfl
          refine ev_aload_n rfl ?_
          refine g_getp (r := 0) (c := 7) g75393 ad0 (by decide) (by decide) rf0_1 ft11_1 ?_
          refine ev_in (d := 29) (a := 0) (b := 0) (cd' := c65_0) (m := 1) (L0 := [(2, 7)]) (jcall_v (A := []) (S' := []) (r := 7) rfl (g75393.lt ad7) (g75393.tg ad7) (Nat.le_of_ble_eq_true rfl)) (by decide) ml65 pp65 (Nat.le_of_ble_eq_true rfl) rfl (by decide) (by decide) ?_
          refine ev_aload_n rfl ?_
          refine ev_iconst ?_
          refine g_putf (r := 7) g75393 ad7 (by decide) ft5_0 (by decide) (fun e => absurd e nz5_0) rf7_0 (by decide) (by omega) (by omega) (fun h75394 e75394 g75394 => ?_)
          have k75394 := k75393.wr e75394 rfl
          refine ev_ret rfl (by decide) (by decide) ?_
          show jEv _ _ _ _ _ _ _ (_, [(2, 0), (0, v75382), (0, v75379)], [], _, _, _)
          refine ev_iload_n rfl ?_
          exact ev_ret rfl (by decide) (by decide) ⟨⟨_, rfl, by omega, by omega, ⟨_, g75394⟩, k75394, by rw [(jwr_ty e75394).1, (jwr_ty e75393).1, (jwr_ty e75392).1, es75389]; omega⟩, fe_same g g75394 (fun a ha => ex75389 a (by rw [er75389, ← g75381.1] at *; omega)) (by have := el75389; rw [er75389, g75381.1] at this; exact this)⟩
        · refine ev_bipush ?_
          refine ev_istore_n (L' := [(2, 0), (0, v75382), (0, (-3))]) (Nat.le_of_ble_eq_true rfl) rfl ?_
          refine ev_goto f173_93 ?_
          refine ev_aload_n rfl ?_
          refine g_getp (r := 0) (c := 7) g75381 ad0 (by decide) (by decide) rf0_1 ft11_1 ?_
          refine ev_in (d := 29) (a := 0) (b := 0) (cd' := c65_0) (m := 1) (L0 := [(2, 7)]) (jcall_v (A := []) (S' := []) (r := 7) rfl (g75381.lt ad7) (g75381.tg ad7) (Nat.le_of_ble_eq_true rfl)) (by decide) ml65 pp65 (Nat.le_of_ble_eq_true rfl) rfl (by decide) (by decide) ?_
          refine ev_aload_n rfl ?_
          refine ev_iconst ?_
          refine g_putf (r := 7) g75381 ad7 (by decide) ft5_0 (by decide) (fun e => absurd e nz5_0) rf7_0 (by decide) (by omega) (by omega) (fun h75395 e75395 g75395 => ?_)
          have k75395 := k75381.wr e75395 rfl
          refine ev_ret rfl (by decide) (by decide) ?_
          show jEv _ _ _ _ _ _ _ (_, [(2, 0), (0, v75382), (0, (-3))], [], _, _, _)
          refine ev_iload_n rfl ?_
          exact ev_ret rfl (by decide) (by decide) ⟨⟨_, rfl, by omega, by omega, ⟨_, g75395⟩, k75395.x, by rw [k75395.1]; omega⟩, fe_same g g75395 (fun _ _ => rfl) (Nat.le_refl _)⟩
      · refine ev_iconst ?_
        refine ev_goto f66_22 ?_
        refine ev_ret rfl (by decide) (by decide) ?_
        show jEv _ _ _ _ _ _ _ (_, [(2, 0), (0, v75382), (9, 0)], [(0, 0)], _, _, _)
        refine ev_bipush ?_
        refine ev_icmple f173_61 (fun c75396 => ?_) (fun c75396 => absurd c75396 (by omega))
        refine ev_aload_n rfl ?_
        refine g_getv (r := 0) (v := v75379) g75381 ad0 (by decide) ft11_3 (((kk75381.v (by decide)).trans ev75379)) ?_
        refine ev_istore_n (L' := [(2, 0), (0, v75382), (0, v75379)]) (Nat.le_of_ble_eq_true rfl) rfl ?_
        refine ev_aload_n rfl ?_
        refine g_getp (r := 0) (c := 18) g75381 ad0 (by decide) (by decide) rf0_2 ft11_2 ?_
        refine ev_aload_n rfl ?_
        refine g_getv (r := 0) (v := v75379) g75381 ad0 (by decide) ft11_3 (((kk75381.v (by decide)).trans ev75379)) ?_
        refine ev_aload_n rfl ?_
        refine g_getp (r := 0) (c := 7) g75381 ad0 (by decide) (by decide) rf0_1 ft11_1 ?_
        refine ev_iload_n rfl ?_
        refine ev_call (jcall_v (A := [(0, v75382)]) (S' := [(0, v75379), (2, 18)]) (r := 7) rfl (g75381.lt ad7) (g75381.tg ad7) (Nat.le_of_ble_eq_true rfl)) (jOk_le (by decide) (t81 g75381 (by omega) (by omega))) (by decide) (by decide) (fun w75397 h75397 z75397 => ?_)
        obtain ⟨G75397, r75398, m75399, rfl, g75397, qr75398, x75397, er75397, es75397, ex75397, el75397⟩ := z75397
        have hz75397 := k75381.1
        have k75397 := Kx.tx k75381 x75397 (by decide)
        have wr75398 := g75397.qb qr75398
        have zr75398 := qr75398.1
        show jEv _ _ _ _ _ _ _ (_, [(2, 0), (0, v75382), (0, v75379)], [(2, (r75398 : Int)), (0, v75379), (2, 18)], _, _, _)
        refine ev_astoG (r := 18) (j := (v75379).toNat) (v := r75398) (g75397.lt ad18) (g75397.tg ad18) (by omega) (by rw [g75397.ln ad18]; omega) (g75397.qlt qr75398) (by rw [g75397.qtg qr75398]; rfl) (fun h75400 e75400 => ?_)
        have g75400 := g75397.wr18 qr75398 e75400 (by rw [(((x75397.2.2 0 3 (g75381.lt ad0) (by decide)).trans ((kk75381.v (by decide)).trans ev75379)))]; omega) (by omega)
        have k75400 := k75397.wr e75400 rfl
        refine ev_aload_n rfl ?_
        refine ev_dup (by decide) ?_
        refine g_getv (r := 0) (v := v75379) g75400 ad0 (by decide) ft11_3 (((jw_ne e75400 (Or.inl (by decide))).trans ((x75397.2.2 0 3 (g75381.lt ad0) (by decide)).trans ((kk75381.v (by decide)).trans ev75379)))) ?_
        refine ev_iconst ?_
        refine ev_iadd (r := (v75379 + 1)) (by unfold w32; omega) ?_
        refine ev_putfG (r := 0) (g75400.lt ad0) (g75400.fam ad0 (by decide)) ft11_3 (fun e => absurd e nz11_3) (fun e => absurd e (by decide)) (fun h75401 e75401 => ?_)
        have g75401 := g75400.wr03 qr75398 e75401 (((jw_ne e75400 (Or.inl (by decide))).trans ((x75397.2.2 0 3 (g75381.lt ad0) (by decide)).trans ((kk75381.v (by decide)).trans ev75379)))) (jw_eq e75400) (by omega) (by omega)
        have k75401 := k75400.wr e75401 rfl
        refine ev_aload_n rfl ?_
        refine g_getp (r := 0) (c := 7) g75401 ad0 (by decide) (by decide) rf0_1 ft11_1 ?_
        refine ev_in (d := 29) (a := 0) (b := 0) (cd' := c65_0) (m := 1) (L0 := [(2, 7)]) (jcall_v (A := []) (S' := []) (r := 7) rfl (g75401.lt ad7) (g75401.tg ad7) (Nat.le_of_ble_eq_true rfl)) (by decide) ml65 pp65 (Nat.le_of_ble_eq_true rfl) rfl (by decide) (by decide) ?_
        refine ev_aload_n rfl ?_
        refine ev_iconst ?_
        refine g_putf (r := 7) g75401 ad7 (by decide) ft5_0 (by decide) (fun e => absurd e nz5_0) rf7_0 (by decide) (by omega) (by omega) (fun h75402 e75402 g75402 => ?_)
        have k75402 := k75401.wr e75402 rfl
        refine ev_ret rfl (by decide) (by decide) ?_
        show jEv _ _ _ _ _ _ _ (_, [(2, 0), (0, v75382), (0, v75379)], [], _, _, _)
        refine ev_iload_n rfl ?_
        exact ev_ret rfl (by decide) (by decide) ⟨⟨_, rfl, by omega, by omega, ⟨_, g75402⟩, k75402, by rw [(jwr_ty e75402).1, (jwr_ty e75401).1, (jwr_ty e75400).1, es75397]; omega⟩, fe_same g g75402 (fun a ha => ex75397 a (by rw [er75397, ← g75381.1] at *; omega)) (by have := el75397; rw [er75397, g75381.1] at this; exact this)⟩
    · refine ev_bipush ?_
      refine ev_aload_n rfl ?_
      refine g_getp (r := 0) (c := 7) g75381 ad0 (by decide) (by decide) rf0_1 ft11_1 ?_
      obtain ⟨v75403, ev75403, lv75403, uv75403⟩ := g75381.rd ad7 (show 1 < 15 by decide) rf7_1
      refine g_getv (r := 7) (v := v75403) g75381 ad7 (by decide) ft5_1 ev75403 ?_
      refine ev_isub (r := ((-v75403) - 100)) (by unfold w32; omega) ?_
      refine ev_istore_n (L' := [(2, 0), (0, v75382), (0, ((-v75403) - 100))]) (Nat.le_of_ble_eq_true rfl) rfl ?_
      refine ev_goto f173_93 ?_
      refine ev_aload_n rfl ?_
      refine g_getp (r := 0) (c := 7) g75381 ad0 (by decide) (by decide) rf0_1 ft11_1 ?_
      refine ev_in (d := 29) (a := 0) (b := 0) (cd' := c65_0) (m := 1) (L0 := [(2, 7)]) (jcall_v (A := []) (S' := []) (r := 7) rfl (g75381.lt ad7) (g75381.tg ad7) (Nat.le_of_ble_eq_true rfl)) (by decide) ml65 pp65 (Nat.le_of_ble_eq_true rfl) rfl (by decide) (by decide) ?_
      refine ev_aload_n rfl ?_
      refine ev_iconst ?_
      refine g_putf (r := 7) g75381 ad7 (by decide) ft5_0 (by decide) (fun e => absurd e nz5_0) rf7_0 (by decide) (by omega) (by omega) (fun h75404 e75404 g75404 => ?_)
      have k75404 := k75381.wr e75404 rfl
      refine ev_ret rfl (by decide) (by decide) ?_
      show jEv _ _ _ _ _ _ _ (_, [(2, 0), (0, v75382), (0, ((-v75403) - 100))], [], _, _, _)
      refine ev_iload_n rfl ?_
      exact ev_ret rfl (by decide) (by decide) ⟨⟨_, rfl, by omega, by omega, ⟨_, g75404⟩, k75404.x, by rw [k75404.1]; omega⟩, fe_same g g75404 (fun _ _ => rfl) (Nat.le_refl _)⟩
  · refine ev_bipush ?_
    exact ev_ret rfl (by decide) (by decide) ⟨⟨_, rfl, by omega, by omega, ⟨_, g⟩, k0.x, by rw [k0.1]; omega⟩, fe_same g g (fun _ _ => rfl) (Nat.le_refl _)⟩
set_option maxHeartbeats 4000000 in
theorem t90_l {G : GH} {h : JH} {a1 : Int} (la1 : (-9999) ≤ a1) (ua1 : a1 ≤ 9999) {a2 : Int} (la2 : 0 ≤ a2) (ua2 : a2 ≤ 90) {w0 : Int} (ew0 : h.2.2 19 3 = w0) (lw0 : 0 ≤ w0) (uw0 : w0 ≤ 5) {w1 : Int} (ew1 : h.2.2 19 4 = w1) (lw1 : 0 ≤ w1) (uw1 : w1 ≤ 5) (F0 : ((-w0) + w1) ≤ 0) : ∀ N : Nat, (∀ (h1 : JH) (x3 y0 y1 : Int) (j4 : AV), Gd G h1 → Kp [(19, 4), (19, 5), (20, 0), (21, 0)] h h1 → (-9999) ≤ a1 → a1 ≤ 9999 → 0 ≤ a2 → a2 ≤ 90 → 0 ≤ x3 → x3 ≤ 5 → ((-y0) + y1) ≤ 0 → ((-w0) + y0) ≤ 0 → (w0 + (-y0)) ≤ 0 → ((-w1) + y1) ≤ 0 → (w1 + (-y1)) ≤ 0 → ((-w1) + x3) ≤ 0 → h1.2.2 19 3 = y0 → 0 ≤ y0 → y0 ≤ 5 → h1.2.2 19 4 = y1 → 0 ≤ y1 → y1 ≤ 5 → Lo h x3 a1 → Sm h h1 20 → Sm h h1 21 → ((-x3) + 11) < N → jEv (jOk 0) none (fun _ => 0) c90_0 0 0 (fun v h' => ∃ r : Int, v = some (0, r) ∧ Gd G h' ∧ Kp [(19, 4), (19, 5), (20, 0), (21, 0)] h h' ∧ 1 ≤ r ∧ r ≤ 6 ∧ h'.2.2 19 3 = w0 + 1 ∧ AdS h h' a1 a2 w1) (c90_2, [(2, 19), (0, a1), (0, a2), (0, x3), j4], [], h1, 0, 0)) ∧ (∀ (h1 : JH) (x3 x4 y0 y1 : Int), Gd G h1 → Kp [(19, 4), (19, 5), (20, 0), (21, 0)] h h1 → (-9999) ≤ a1 → a1 ≤ 9999 → 0 ≤ a2 → a2 ≤ 90 → 0 ≤ x3 → x3 ≤ 5 → 0 ≤ x4 → x4 ≤ 5 → ((-y0) + y1) ≤ 0 → ((-w0) + y0) ≤ 0 → (w0 + (-y0)) ≤ 0 → ((-w1) + y1) ≤ 0 → (w1 + (-y1)) ≤ 0 → ((-w1) + x3) ≤ 0 → ((-w1) + x4) ≤ 0 → (x3 + (-x4)) ≤ 0 → h1.2.2 19 3 = y0 → 0 ≤ y0 → y0 ≤ 5 → h1.2.2 19 4 = y1 → 0 ≤ y1 → y1 ≤ 5 → Lo h x3 a1 → (x3 = w1 ∨ a1 < h.2.2 20 (x3).toNat) → Sf h h1 20 w1 x4 → Sf h h1 21 w1 x4 → x4 < N → jEv (jOk 0) none (fun _ => 0) c90_0 0 0 (fun v h' => ∃ r : Int, v = some (0, r) ∧ Gd G h' ∧ Kp [(19, 4), (19, 5), (20, 0), (21, 0)] h h' ∧ 1 ≤ r ∧ r ≤ 6 ∧ h'.2.2 19 3 = w0 + 1 ∧ AdS h h' a1 a2 w1) (c90_50, [(2, 19), (0, a1), (0, a2), (0, x3), (0, x4)], [], h1, 0, 0)) := by
  intro N
  induction N with
  | zero => exact ⟨fun h1 x3 y0 y1 j4 g1 k1 b0 b1 b2 b3 b4 b5 b6 b7 b8 b9 b10 b11 b12 b13 b14 b15 b16 b17 b18 b19 b20 hm => absurd hm (by omega), fun h1 x3 x4 y0 y1 g1 k1 b0 b1 b2 b3 b4 b5 b6 b7 b8 b9 b10 b11 b12 b13 b14 b15 b16 b17 b18 b19 b20 b21 b22 b23 b24 b25 hm => absurd hm (by omega)⟩
  | succ N ih =>
    refine ⟨?_, ?_⟩
    · intro h1 x3 y0 y1 j4 g1 k1 b0 b1 b2 b3 b4 b5 b6 b7 b8 b9 b10 b11 ey0 ly0 uy0 ey1 ly1 uy1 H0 H1 H2 hm
      refine ev_iload_n rfl ?_
      refine ev_aload_n rfl ?_
      refine g_getv (r := 19) (v := y1) g1 ad19 (by decide) ft7_4 (ey1) ?_
      refine ev_icmpge f90_26 (fun c75475 => ?_) (fun c75475 => ?_)
      · refine ev_iload_n rfl ?_
        refine ev_aload_n rfl ?_
        refine g_getv (r := 19) (v := y1) g1 ad19 (by decide) ft7_4 (ey1) ?_
        refine ev_icmpeq f90_44 (fun c75476 => ?_) (fun c75476 => absurd c75476 (by omega))
        refine ev_aload_n rfl ?_
        refine g_getv (r := 19) (v := y1) g1 ad19 (by decide) ft7_4 (ey1) ?_
        refine ev_istore (L' := [(2, 19), (0, a1), (0, a2), (0, x3), (0, y1)]) (Nat.le_of_ble_eq_true rfl) rfl ?_
        exact ih.2 _ _ _ _ _ g1 k1 (by omega) (by omega) (by omega) (by omega) (by omega) (by omega) (by omega) (by omega) (by omega) (by omega) (by omega) (by omega) (by omega) (by omega) (by omega) (by omega) (ey0) (by omega) (by omega) (ey1) (by omega) (by omega) H0 (Or.inl (by omega)) (Sf.start H1 (by omega)) (Sf.start H2 (by omega)) (by omega)
      · refine ev_aload_n rfl ?_
        refine g_getp (r := 19) (c := 20) g1 ad19 (by decide) (by decide) rf19_0 ft7_0 ?_
        refine ev_iload_n rfl ?_
        refine g_iald g1 ad20 rt20 (by omega) (by omega) (fun v75477 ev75477 lv75477 uv75477 => ?_)
        refine ev_iload_n rfl ?_
        refine ev_icmpge f90_26 (fun c75478 => ?_) (fun c75478 => ?_)
        · refine ev_iload_n rfl ?_
          refine ev_aload_n rfl ?_
          refine g_getv (r := 19) (v := y1) g1 ad19 (by decide) ft7_4 (ey1) ?_
          refine ev_icmpeq f90_44 (fun c75479 => absurd c75479 (by omega)) (fun c75479 => ?_)
          refine ev_aload_n rfl ?_
          refine g_getp (r := 19) (c := 20) g1 ad19 (by decide) (by decide) rf19_0 ft7_0 ?_
          refine ev_iload_n rfl ?_
          refine g_ialdv (v := v75477) g1 ad20 (by omega) (by omega) (ev75477) ?_
          refine ev_iload_n rfl ?_
          refine ev_icmpeq f90_111 (fun c75480 => ?_) (fun c75480 => ?_)
          · refine ev_aload_n rfl ?_
            refine g_getp (r := 19) (c := 21) g1 ad19 (by decide) (by decide) rf19_1 ft7_1 ?_
            refine ev_iload_n rfl ?_
            refine ev_iload_n rfl ?_
            refine g_iast g1 ad21 rt21 (fun _ => rfl) (by omega) (by omega) (by omega) (by omega) (fun h75481 e75481 g75481 => ?_)
            have k75481 := k1.wr e75481 rfl
            refine ev_aload_n rfl ?_
            refine ev_dup (by decide) ?_
            refine g_getv (r := 19) (v := y0) g75481 ad19 (by decide) ft7_3 (((jw_ne e75481 (Or.inl (by decide))).trans ey0)) ?_
            refine ev_iconst ?_
            refine ev_iadd (r := (y0 + 1)) (by unfold w32; omega) ?_
            refine ev_putfG (r := 19) (g75481.lt ad19) (g75481.fam ad19 (by decide)) ft7_3 (fun e => absurd e nz7_3) (fun e => absurd e (by decide)) (fun h75482 e75482 => ?_)
            have g75482 := g75481.told e75482 (by rw [(((jw_ne e75481 (Or.inl (by decide))).trans ey0))]; omega) (by omega) (by omega)
            have k75482 := k75481.wr e75482 rfl
            refine ev_aload_n rfl ?_
            refine g_getv (r := 19) (v := (y0 + 1)) g75482 ad19 (by decide) ft7_3 ((jw_eq e75482)) ?_
            exact ev_ret rfl (by decide) (by decide) ⟨_, rfl, g75482, k75482, by omega, by omega, (((jw_eq e75482))).trans (by omega), x3, by omega, by omega, H0, Or.inl ⟨by omega, by rw [← H1, ev75477]; omega, ((((jw_ne e75482 (Or.inr (by decide))).trans ((jw_ne e75481 (Or.inl (by decide))).trans ey1)))).trans (by omega), ((H1.ne e75481 (by decide)).ne e75482 (by decide)), ((H2.up e75481).ne e75482 (by decide))⟩⟩
          · refine ev_aload_n rfl ?_
            refine g_getv (r := 19) (v := y1) g1 ad19 (by decide) ft7_4 (ey1) ?_
            refine ev_istore (L' := [(2, 19), (0, a1), (0, a2), (0, x3), (0, y1)]) (Nat.le_of_ble_eq_true rfl) rfl ?_
            exact ih.2 _ _ _ _ _ g1 k1 (by omega) (by omega) (by omega) (by omega) (by omega) (by omega) (by omega) (by omega) (by omega) (by omega) (by omega) (by omega) (by omega) (by omega) (by omega) (by omega) (ey0) (by omega) (by omega) (ey1) (by omega) (by omega) H0 (Or.inr (by rw [← H1, ev75477]; omega)) (Sf.start H1 (by omega)) (Sf.start H2 (by omega)) (by omega)
        · refine ev_iinc (w := (x3 + 1)) (L' := [(2, 19), (0, a1), (0, a2), (0, (x3 + 1)), j4]) rfl (by unfold w32; omega) rfl ?_
          refine ev_goto f90_2 ?_
          exact ih.1 _ _ _ _ _ g1 k1 (by omega) (by omega) (by omega) (by omega) (by omega) (by omega) (by omega) (by omega) (by omega) (by omega) (by omega) (by omega) (ey0) (by omega) (by omega) (ey1) (by omega) (by omega) (H0.add H1 ev75477 rfl (by omega) (by omega) (by omega)) H1 H2 (by omega)
    · intro h1 x3 x4 y0 y1 g1 k1 b0 b1 b2 b3 b4 b5 b6 b7 b8 b9 b10 b11 b12 b13 b14 b15 ey0 ly0 uy0 ey1 ly1 uy1 H0 H1 H2 H3 hm
      refine ev_iload rfl ?_
      refine ev_iload_n rfl ?_
      refine ev_icmple f90_94 (fun c75483 => ?_) (fun c75483 => ?_)
      · refine ev_aload_n rfl ?_
        refine g_getp (r := 19) (c := 20) g1 ad19 (by decide) (by decide) rf19_0 ft7_0 ?_
        refine ev_iload_n rfl ?_
        refine ev_iload_n rfl ?_
        refine g_iast g1 ad20 rt20 (fun _ => rfl) (by omega) (by omega) (by omega) (by omega) (fun h75484 e75484 g75484 => ?_)
        have k75484 := k1.wr e75484 rfl
        refine ev_aload_n rfl ?_
        refine ev_dup (by decide) ?_
        refine g_getv (r := 19) (v := y1) g75484 ad19 (by decide) ft7_4 (((jw_ne e75484 (Or.inl (by decide))).trans ey1)) ?_
        refine ev_iconst ?_
        refine ev_iadd (r := (y1 + 1)) (by unfold w32; omega) ?_
        refine ev_putfG (r := 19) (g75484.lt ad19) (g75484.fam ad19 (by decide)) ft7_4 (fun e => absurd e nz7_4) (fun e => absurd e (by decide)) (fun h75485a e75485a => ?_)
        refine ev_aload_n rfl ?_
        refine ev_getf (r := 19) (v := 21) (by rw [(jwr_ty e75485a).1]; exact g75484.lt ad19) (by rw [(jwr_ty e75485a).2]; exact g75484.fam ad19 (by decide)) ft7_1 ((jw_ne e75485a (Or.inr (by decide))).trans (g75484.pt ad19 (i := 1) (by decide) rf19_1)) ?_
        refine ev_iload_n rfl ?_
        refine ev_iload_n rfl ?_
        refine ev_iastG (r := 21) (j := (x3).toNat) (by rw [(jwr_ty e75485a).1]; exact g75484.lt ad21) (by rw [(jwr_ty e75485a).2]; exact g75484.tg ad21) (by omega) (by rw [(jwr_ty e75485a).2, g75484.ln ad21]; omega) (fun h75485b e75485b => ?_)
        refine ev_aload_n rfl ?_
        refine ev_dup (by decide) ?_
        refine ev_getf (r := 19) (v := y0) (by rw [(jwr_ty e75485b).1, (jwr_ty e75485a).1]; exact g75484.lt ad19) (by rw [(jwr_ty e75485b).2, (jwr_ty e75485a).2]; exact g75484.fam ad19 (by decide)) ft7_3 ((jw_ne e75485b (Or.inl (by decide))).trans ((jw_ne e75485a (Or.inr (by decide))).trans (((jw_ne e75484 (Or.inl (by decide))).trans ey0)))) ?_
        refine ev_iconst ?_
        refine ev_iadd (r := (y0 + 1)) (by unfold w32; omega) ?_
        refine ev_putfG (r := 19) (by rw [(jwr_ty e75485b).1, (jwr_ty e75485a).1]; exact g75484.lt ad19) (by rw [(jwr_ty e75485b).2, (jwr_ty e75485a).2]; exact g75484.fam ad19 (by decide)) ft7_3 (fun e => absurd e nz7_3) (fun e => absurd e (by decide)) (fun h75485c e75485c => ?_)
        have g75485c := g75484.steps e75485a e75485b e75485c (by omega) (by omega) (by omega) (by omega) (by omega)
        have k75485c := ((k75484.wr e75485a rfl).wr e75485b rfl).wr e75485c rfl
        refine ev_aload_n rfl ?_
        refine g_getv (r := 19) (v := (y0 + 1)) g75485c ad19 (by decide) ft7_3 ((jw_eq e75485c)) ?_
        obtain ⟨v75486, ev75486, lv75486, uv75486⟩ := g75485c.rd ad19 (show 4 < 6 by decide) rf19_4
        have tv75486 := g75485c.2.2.2.2.2.2.1
        rw [ev75486, ((jw_eq e75485c))] at tv75486
        exact ev_ret rfl (by decide) (by decide) ⟨_, rfl, g75485c, k75485c, by omega, by omega, (((jw_eq e75485c))).trans (by omega), x3, by omega, by omega, H0, Or.inr ⟨H1, (((jw_ne e75485c (Or.inr (by decide))).trans ((jw_ne e75485b (Or.inl (by decide))).trans (jw_eq e75485a)))).trans (by omega), ((((H2.ins (by omega) (by omega) (by omega) e75484).ne e75485a (by decide)).ne e75485b (by decide)).ne e75485c (by decide)), ((((H3.ne e75484 (by decide)).ne e75485a (by decide)).ins (by omega) (by omega) (by omega) e75485b).ne e75485c (by decide))⟩⟩
      · refine ev_aload_n rfl ?_
        refine g_getp (r := 19) (c := 20) g1 ad19 (by decide) (by decide) rf19_0 ft7_0 ?_
        refine ev_iload rfl ?_
        refine ev_aload_n rfl ?_
        refine g_getp (r := 19) (c := 20) g1 ad19 (by decide) (by decide) rf19_0 ft7_0 ?_
        refine ev_iload rfl ?_
        refine ev_iconst ?_
        refine ev_isub (r := (x4 - 1)) (by unfold w32; omega) ?_
        refine g_iald g1 ad20 rt20 (by omega) (by omega) (fun v75487 ev75487 lv75487 uv75487 => ?_)
        refine g_iast g1 ad20 rt20 (fun _ => rfl) (by omega) (by omega) (by omega) (by omega) (fun h75488 e75488 g75488 => ?_)
        have k75488 := k1.wr e75488 rfl
        refine ev_aload_n rfl ?_
        refine g_getp (r := 19) (c := 21) g75488 ad19 (by decide) (by decide) rf19_1 ft7_1 ?_
        refine ev_iload rfl ?_
        refine ev_aload_n rfl ?_
        refine g_getp (r := 19) (c := 21) g75488 ad19 (by decide) (by decide) rf19_1 ft7_1 ?_
        refine ev_iload rfl ?_
        refine ev_iconst ?_
        refine ev_isub (r := (x4 - 1)) (by unfold w32; omega) ?_
        refine g_iald g75488 ad21 rt21 (by omega) (by omega) (fun v75489 ev75489 lv75489 uv75489 => ?_)
        refine g_iast g75488 ad21 rt21 (fun _ => rfl) (by omega) (by omega) (by omega) (by omega) (fun h75490 e75490 g75490 => ?_)
        have k75490 := k75488.wr e75490 rfl
        refine ev_iinc (w := (x4 - 1)) (L' := [(2, 19), (0, a1), (0, a2), (0, x3), (0, (x4 - 1))]) rfl (by unfold w32; omega) rfl ?_
        refine ev_goto f90_50 ?_
        exact ih.2 _ _ _ _ _ g75490 k75490 (by omega) (by omega) (by omega) (by omega) (by omega) (by omega) (by omega) (by omega) (by omega) (by omega) (by omega) (by omega) (by omega) (by omega) (by omega) (by omega) (((jw_ne e75490 (Or.inl (by decide))).trans ((jw_ne e75488 (Or.inl (by decide))).trans ey0))) (by omega) (by omega) (((jw_ne e75490 (Or.inl (by decide))).trans ((jw_ne e75488 (Or.inl (by decide))).trans ey1))) (by omega) (by omega) H0 H1 ((H2.step (i := (x4 - 1)) (by omega) (by omega) ev75487 (by omega) e75488 (by omega)).ne e75490 (by decide)) ((H3.ne e75488 (by decide)).step (i := (x4 - 1)) (by omega) (by omega) ev75489 (by omega) e75490 (by omega)) (by omega)
set_option maxHeartbeats 4000000 in
theorem t90 {G : GH} {h : JH} (g : Gd G h) {a1 : Int} (la1 : (-9999) ≤ a1) (ua1 : a1 ≤ 9999) {a2 : Int} (la2 : 0 ≤ a2) (ua2 : a2 ≤ 90) {w0 : Int} (ew0 : h.2.2 19 3 = w0) (lw0 : 0 ≤ w0) (uw0 : w0 ≤ 5) {w1 : Int} (ew1 : h.2.2 19 4 = w1) (lw1 : 0 ≤ w1) (uw1 : w1 ≤ 5) (F0 : ((-w0) + w1) ≤ 0) : jOk 1 0 0 90 [(2, 19), (0, a1), (0, a2)] h (fun v h' => ∃ r : Int, v = some (0, r) ∧ Gd G h' ∧ Kp [(19, 4), (19, 5), (20, 0), (21, 0)] h h' ∧ 1 ≤ r ∧ r ≤ 6 ∧ h'.2.2 19 3 = w0 + 1 ∧ AdS h h' a1 a2 w1) := by
  refine ⟨by decide, by rw [ml90]; exact Nat.le_of_ble_eq_true rfl, ?_⟩
  rw [ml90, pp90]
  show jEv _ none _ c90_0 0 0 _ (c90_0, [(2, 19), (0, a1), (0, a2), (9, 0), (9, 0)], [], h, 0, 0)
  have k0 := Kp.rf [(19, 4), (19, 5), (20, 0), (21, 0)] h
  refine ev_iconst ?_
  refine ev_istore_n (L' := [(2, 19), (0, a1), (0, a2), (0, 0), (9, 0)]) (Nat.le_of_ble_eq_true rfl) rfl ?_
  exact (t90_l la1 ua1 la2 ua2 ew0 lw0 uw0 ew1 lw1 uw1 F0 18).1 _ _ _ _ _ g k0 (by omega) (by omega) (by omega) (by omega) (by omega) (by omega) (by omega) (by omega) (by omega) (by omega) (by omega) (by omega) (ew0) (by omega) (by omega) (ew1) (by omega) (by omega) (fun j hj => by omega) (fun _ => rfl) (fun _ => rfl) (by omega)
set_option maxHeartbeats 4000000 in
theorem t179 {G : GH} {h : JH} (g : Gd G h) {a1 : Int} (la1 : (-2147483648) ≤ a1) (ua1 : a1 ≤ 2147483647) {a2 : Int} (la2 : (-2147483648) ≤ a2) (ua2 : a2 ≤ 2147483647) {w0 : Int} (ew0 : h.2.2 19 3 = w0) (lw0 : 0 ≤ w0) (uw0 : w0 ≤ 6) {w1 : Int} (ew1 : h.2.2 19 4 = w1) (lw1 : 0 ≤ w1) (uw1 : w1 ≤ 6) (F0 : ((-w0) + w1) ≤ 0) : jOk 2 0 0 179 [(2, 0), (0, a1), (0, a2)] h (fun v h' => ∃ r : Int, v = some (0, r) ∧ Gd G h' ∧ Kp [(19, 4), (19, 5), (20, 0), (21, 0)] h h' ∧ (-3) ≤ r ∧ r ≤ 6 ∧ StC h h' a1 a2 w0 w1) := by
  refine ⟨by decide, by rw [ml179]; exact Nat.le_of_ble_eq_true rfl, ?_⟩
  rw [ml179, pp179]
  show jEv _ none _ c179_0 0 0 _ (c179_0, [(2, 0), (0, a1), (0, a2)], [], h, 0, 0)
  have k0 := Kp.rf [(19, 4), (19, 5), (20, 0), (21, 0)] h
  refine ev_iload_n rfl ?_
  refine ev_sipush ?_
  refine ev_icmplt f179_24 (fun c75509 => ?_) (fun c75509 => ?_)
  · refine ev_iconst ?_
    exact ev_ret rfl (by decide) (by decide) ⟨_, rfl, g, k0, by omega, by omega, Or.inr ⟨by unfold SV; omega, rfl⟩⟩
  · refine ev_iload_n rfl ?_
    refine ev_sipush ?_
    refine ev_icmpgt f179_24 (fun c75510 => ?_) (fun c75510 => ?_)
    · refine ev_iconst ?_
      exact ev_ret rfl (by decide) (by decide) ⟨_, rfl, g, k0, by omega, by omega, Or.inr ⟨by unfold SV; omega, rfl⟩⟩
    · refine ev_iload_n rfl ?_
      refine ev_iflt f179_24 (fun c75511 => ?_) (fun c75511 => ?_)
      · refine ev_iconst ?_
        exact ev_ret rfl (by decide) (by decide) ⟨_, rfl, g, k0, by omega, by omega, Or.inr ⟨by unfold SV; omega, rfl⟩⟩
      · refine ev_iload_n rfl ?_
        refine ev_bipush ?_
        refine ev_icmple f179_26 (fun c75512 => ?_) (fun c75512 => ?_)
        · refine ev_aload_n rfl ?_
          refine g_getp (r := 0) (c := 19) g ad0 (by decide) (by decide) rf0_4 ft11_4 ?_
          refine ev_in (d := 0) (a := 0) (b := 0) (cd' := c89_0) (m := 1) (L0 := [(2, 19)]) (jcall_v (A := []) (S' := []) (r := 19) rfl (g.lt ad19) (g.tg ad19) (Nat.le_of_ble_eq_true rfl)) (by decide) ml89 pp89 (Nat.le_of_ble_eq_true rfl) rfl (by decide) (by decide) ?_
          refine ev_aload_n rfl ?_
          refine g_getv (r := 19) (v := w0) g ad19 (by decide) ft7_3 (ew0) ?_
          refine ev_bipush ?_
          refine ev_icmpge f89_13 (fun c75513 => ?_) (fun c75513 => ?_)
          · refine ev_iconst ?_
            refine ev_ret rfl (by decide) (by decide) ?_
            show jEv _ _ _ _ _ _ _ (_, [(2, 0), (0, a1), (0, a2)], [(0, 0)], _, _, _)
            refine ev_ifeq f179_51 (fun c75514 => ?_) (fun c75514 => absurd c75514 (by omega))
            refine ev_bipush ?_
            exact ev_ret rfl (by decide) (by decide) ⟨_, rfl, g, k0, by omega, by omega, Or.inr ⟨by unfold SV; omega, rfl⟩⟩
          · refine ev_iconst ?_
            refine ev_goto f89_14 ?_
            refine ev_ret rfl (by decide) (by decide) ?_
            show jEv _ _ _ _ _ _ _ (_, [(2, 0), (0, a1), (0, a2)], [(0, 1)], _, _, _)
            refine ev_ifeq f179_51 (fun c75515 => absurd c75515 (by omega)) (fun c75515 => ?_)
            refine ev_aload_n rfl ?_
            refine g_getp (r := 0) (c := 19) g ad0 (by decide) (by decide) rf0_4 ft11_4 ?_
            refine ev_iload_n rfl ?_
            refine ev_bipush ?_
            refine ev_iload_n rfl ?_
            refine ev_imul (r := (10 * a2)) (by unfold w32; omega) ?_
            refine ev_call (jcall_v (A := [(0, (10 * a2)), (0, a1)]) (S' := []) (r := 19) rfl (g.lt ad19) (g.tg ad19) (Nat.le_of_ble_eq_true rfl)) (jOk_le (by decide) (t90 g (by omega) (by omega) (by omega) (by omega) (ew0) (by omega) (by omega) (ew1) (by omega) (by omega) (by omega))) (by decide) (by decide) (fun w75516 h75516 q75516 => ?_)
            obtain ⟨v75517, rfl, g75516, kk75516, lv75517, uv75517, X75516⟩ := q75516
            have k75516 := k0.tr kk75516 (by decide)
            show jEv _ _ _ _ _ _ _ (_, [(2, 0), (0, a1), (0, a2)], [(0, v75517)], _, _, _)
            refine ev_goto f179_53 ?_
            exact ev_ret rfl (by decide) (by decide) ⟨_, rfl, g75516, k75516, by omega, by omega, Or.inl ⟨by unfold SV; omega, X75516.1, by rw [show 10 * a2 = (10 * a2) by omega]; exact X75516.2⟩⟩
        · refine ev_iconst ?_
          exact ev_ret rfl (by decide) (by decide) ⟨_, rfl, g, k0, by omega, by omega, Or.inr ⟨by unfold SV; omega, rfl⟩⟩
set_option maxHeartbeats 4000000 in
theorem t286 {G : GH} {h : JH} (g : Gd G h) {a1 : Int} (la1 : (-2147483648) ≤ a1) (ua1 : a1 ≤ 2147483647) {a2 : Int} (la2 : (-2147483648) ≤ a2) (ua2 : a2 ≤ 2147483647) {w0 : Int} (ew0 : h.2.2 42 31 = w0) (lw0 : 0 ≤ w0) (uw0 : w0 ≤ 6) : jOk 2 0 0 286 [(2, 42), (0, a1), (0, a2)] h (fun v h' => ∃ r : Int, v = some (0, r) ∧ Gd G h' ∧ Kp [(42, 32), (62, 0), (63, 0)] h h' ∧ (-3) ≤ r ∧ r ≤ 6 ∧ StE h h' a1 a2 w0) := by
  refine ⟨by decide, by rw [ml286]; exact Nat.le_of_ble_eq_true rfl, ?_⟩
  rw [ml286, pp286]
  show jEv _ none _ c286_0 0 0 _ (c286_0, [(2, 42), (0, a1), (0, a2)], [], h, 0, 0)
  have k0 := Kp.rf [(42, 32), (62, 0), (63, 0)] h
  refine ev_iload_n rfl ?_
  refine ev_sipush ?_
  refine ev_sipush ?_
  refine ev_in (d := 0) (a := 0) (b := 0) (cd' := c242_0) (m := 3) (L0 := [(0, a1), (0, (-9999)), (0, 9999)]) (jcall_s (A := [(0, 9999), (0, (-9999)), (0, a1)]) (S' := []) (by decide) rfl (Nat.le_of_ble_eq_true rfl)) (by decide) ml242 pp242 (Nat.le_of_ble_eq_true rfl) rfl (by decide) (by decide) ?_
  refine ev_iload_n rfl ?_
  refine ev_iload_n rfl ?_
  refine ev_icmplt f242_14 (fun c75546 => ?_) (fun c75546 => ?_)
  · refine ev_iconst ?_
    refine ev_ret rfl (by decide) (by decide) ?_
    show jEv _ _ _ _ _ _ _ (_, [(2, 42), (0, a1), (0, a2)], [(0, 0)], _, _, _)
    refine ev_ifeq f286_23 (fun c75547 => ?_) (fun c75547 => absurd c75547 (by omega))
    refine ev_iconst ?_
    exact ev_ret rfl (by decide) (by decide) ⟨_, rfl, g, k0, by omega, by omega, Or.inr ⟨by unfold SV; omega, rfl⟩⟩
  · refine ev_iload_n rfl ?_
    refine ev_iload_n rfl ?_
    refine ev_icmpgt f242_14 (fun c75548 => ?_) (fun c75548 => ?_)
    · refine ev_iconst ?_
      refine ev_ret rfl (by decide) (by decide) ?_
      show jEv _ _ _ _ _ _ _ (_, [(2, 42), (0, a1), (0, a2)], [(0, 0)], _, _, _)
      refine ev_ifeq f286_23 (fun c75549 => ?_) (fun c75549 => absurd c75549 (by omega))
      refine ev_iconst ?_
      exact ev_ret rfl (by decide) (by decide) ⟨_, rfl, g, k0, by omega, by omega, Or.inr ⟨by unfold SV; omega, rfl⟩⟩
    · refine ev_iconst ?_
      refine ev_goto f242_15 ?_
      refine ev_ret rfl (by decide) (by decide) ?_
      show jEv _ _ _ _ _ _ _ (_, [(2, 42), (0, a1), (0, a2)], [(0, 1)], _, _, _)
      refine ev_ifeq f286_23 (fun c75550 => absurd c75550 (by omega)) (fun c75550 => ?_)
      refine ev_iload_n rfl ?_
      refine ev_iconst ?_
      refine ev_bipush ?_
      refine ev_in (d := 0) (a := 0) (b := 0) (cd' := c242_0) (m := 3) (L0 := [(0, a2), (0, 0), (0, 9)]) (jcall_s (A := [(0, 9), (0, 0), (0, a2)]) (S' := []) (by decide) rfl (Nat.le_of_ble_eq_true rfl)) (by decide) ml242 pp242 (Nat.le_of_ble_eq_true rfl) rfl (by decide) (by decide) ?_
      refine ev_iload_n rfl ?_
      refine ev_iload_n rfl ?_
      refine ev_icmplt f242_14 (fun c75551 => ?_) (fun c75551 => ?_)
      · refine ev_iconst ?_
        refine ev_ret rfl (by decide) (by decide) ?_
        show jEv _ _ _ _ _ _ _ (_, [(2, 42), (0, a1), (0, a2)], [(0, 0)], _, _, _)
        refine ev_ifne f286_25 (fun c75552 => absurd c75552 (by omega)) (fun c75552 => ?_)
        refine ev_iconst ?_
        exact ev_ret rfl (by decide) (by decide) ⟨_, rfl, g, k0, by omega, by omega, Or.inr ⟨by unfold SV; omega, rfl⟩⟩
      · refine ev_iload_n rfl ?_
        refine ev_iload_n rfl ?_
        refine ev_icmpgt f242_14 (fun c75553 => ?_) (fun c75553 => ?_)
        · refine ev_iconst ?_
          refine ev_ret rfl (by decide) (by decide) ?_
          show jEv _ _ _ _ _ _ _ (_, [(2, 42), (0, a1), (0, a2)], [(0, 0)], _, _, _)
          refine ev_ifne f286_25 (fun c75554 => absurd c75554 (by omega)) (fun c75554 => ?_)
          refine ev_iconst ?_
          exact ev_ret rfl (by decide) (by decide) ⟨_, rfl, g, k0, by omega, by omega, Or.inr ⟨by unfold SV; omega, rfl⟩⟩
        · refine ev_iconst ?_
          refine ev_goto f242_15 ?_
          refine ev_ret rfl (by decide) (by decide) ?_
          show jEv _ _ _ _ _ _ _ (_, [(2, 42), (0, a1), (0, a2)], [(0, 1)], _, _, _)
          refine ev_ifne f286_25 (fun c75555 => ?_) (fun c75555 => absurd c75555 (by omega))
          refine ev_aload_n rfl ?_
          refine g_getv (r := 42) (v := w0) g ad42 (by decide) ft12_31 (ew0) ?_
          refine ev_bipush ?_
          refine ev_icmpne f286_37 (fun c75556 => ?_) (fun c75556 => ?_)
          · refine ev_aload_n rfl ?_
            refine g_getp (r := 42) (c := 62) g ad42 (by decide) (by decide) rf42_32 ft12_32 ?_
            refine ev_aload_n rfl ?_
            refine g_getv (r := 42) (v := w0) g ad42 (by decide) ft12_31 (ew0) ?_
            refine ev_iload_n rfl ?_
            refine g_iast g ad62 rt62 (fun _ => rfl) (by omega) (by omega) (by omega) (by omega) (fun h75557 e75557 g75557 => ?_)
            have k75557 := k0.wr e75557 rfl
            refine ev_aload_n rfl ?_
            refine g_getp (r := 42) (c := 63) g75557 ad42 (by decide) (by decide) rf42_33 ft12_33 ?_
            refine ev_aload_n rfl ?_
            refine g_getv (r := 42) (v := w0) g75557 ad42 (by decide) ft12_31 (((jw_ne e75557 (Or.inl (by decide))).trans ew0)) ?_
            refine ev_iload_n rfl ?_
            refine g_iast g75557 ad63 rt63 (fun _ => rfl) (by omega) (by omega) (by omega) (by omega) (fun h75558 e75558 g75558 => ?_)
            have k75558 := k75557.wr e75558 rfl
            refine ev_aload_n rfl ?_
            refine ev_dup (by decide) ?_
            refine g_getv (r := 42) (v := w0) g75558 ad42 (by decide) ft12_31 (((jw_ne e75558 (Or.inl (by decide))).trans ((jw_ne e75557 (Or.inl (by decide))).trans ew0))) ?_
            refine ev_iconst ?_
            refine ev_iadd (r := (w0 + 1)) (by unfold w32; omega) ?_
            refine g_putf (r := 42) g75558 ad42 (by decide) ft12_31 (by decide) (fun e => absurd e nz12_31) rf42_31 (by decide) (by omega) (by omega) (fun h75559 e75559 g75559 => ?_)
            have k75559 := k75558.wr e75559 rfl
            refine ev_aload_n rfl ?_
            refine g_getv (r := 42) (v := (w0 + 1)) g75559 ad42 (by decide) ft12_31 ((jw_eq e75559)) ?_
            exact ev_ret rfl (by decide) (by decide) ⟨_, rfl, g75559, k75559, by omega, by omega, Or.inl ⟨by unfold SV; omega, (((jw_eq e75559))).trans (by omega), (Up.kp (Up.kp (Up.mk2 (i := w0) (i' := w0) (v' := a1) e75557 (by omega) (by omega)) ((Kp.rf [(63, 0)] _).wr e75558 rfl) (fun _ => rfl)) ((Kp.rf [(42, 0)] _).wr e75559 rfl) (fun _ => rfl)), (Up.kp (Up.pk ((Kp.rf [(62, 0)] _).wr e75557 rfl) (fun _ => rfl) (Up.mk2 (i := w0) (i' := w0) (v' := a2) e75558 (by omega) (by omega))) ((Kp.rf [(42, 0)] _).wr e75559 rfl) (fun _ => rfl))⟩⟩
          · refine ev_bipush ?_
            exact ev_ret rfl (by decide) (by decide) ⟨_, rfl, g, k0, by omega, by omega, Or.inr ⟨by unfold SV; omega, rfl⟩⟩
set_option maxHeartbeats 4000000 in
theorem t92_l {G : GH} {h : JH} {a1 : Int} (la1 : (-9998) ≤ a1) (ua1 : a1 ≤ 1) {a2 : Int} (la2 : 0 ≤ a2) (ua2 : a2 ≤ 9999) {w0 : Int} (ew0 : h.2.2 19 4 = w0) (lw0 : 0 ≤ w0) (uw0 : w0 ≤ 6) (F0 : (a1 + (-a2)) ≤ 1) (F1 : ((-a1) + a2) ≤ 9998) (hS : Ss h (w0).toNat) : ∀ N : Nat, (∀ (h1 : JH) (x3 x4 x5 x6 : Int), Gd G h1 → Kp [] h h1 → (-9998) ≤ a1 → a1 ≤ 1 → 0 ≤ a2 → a2 ≤ 9999 → 0 ≤ x3 → x3 ≤ 1999700 → (-9998) ≤ x4 → x4 ≤ 9999 → 0 ≤ x5 → x5 ≤ 100 → 0 ≤ x6 → x6 ≤ 6 → x5 ≤ 100 → ((-x5)) ≤ 0 → ((-a2) + x4) ≤ 1 → (a1 + (-x4)) ≤ 0 → ((-x3)) ≤ 0 → (100 * a1 + x3 + (-100) * x4) ≤ 0 → ((-w0) + x6) ≤ 0 → Ac h (w0).toNat a1 x3 x4 x5 x6 → ((-x6) + 6) < N → jEv (jOk 0) none (fun _ => 0) c92_0 0 0 (fun v h' => ∃ r : Int, v = some (0, r) ∧ Gd G h' ∧ Kp [] h h' ∧ 0 ≤ r ∧ r ≤ 999900 ∧ r = sg (fun c => lC h c (w0).toNat) a1 (a2 + 1 - a1).toNat) (c92_12, [(2, 19), (0, a1), (0, a2), (0, x3), (0, x4), (0, x5), (0, x6)], [], h1, 0, 0)) := by
  intro N
  induction N with
  | zero => exact fun h1 x3 x4 x5 x6 g1 k1 b0 b1 b2 b3 b4 b5 b6 b7 b8 b9 b10 b11 b12 b13 b14 b15 b16 b17 b18 b19 hm => absurd hm (by omega)
  | succ N ih =>
    show _
    intro h1 x3 x4 x5 x6 g1 k1 b0 b1 b2 b3 b4 b5 b6 b7 b8 b9 b10 b11 b12 b13 b14 b15 b16 b17 b18 H0 hm
    refine ev_iload rfl ?_
    refine ev_aload_n rfl ?_
    refine g_getv (r := 19) (v := w0) g1 ad19 (by decide) ft7_4 (((k1.v (by decide)).trans ew0)) ?_
    refine ev_icmpge f92_84 (fun c75632 => ?_) (fun c75632 => ?_)
    · refine ev_iload_n rfl ?_
      refine ev_iload_n rfl ?_
      refine ev_iload rfl ?_
      refine ev_isub (r := (a2 + (-x4))) (by unfold w32; omega) ?_
      refine ev_iconst ?_
      refine ev_iadd (r := (a2 + (-x4) + 1)) (by unfold w32; omega) ?_
      refine ev_iload rfl ?_
      obtain ⟨v75633, ev75633⟩ : ∃ v : Int, (a2 + (-x4) + 1) * x5 = v := ⟨_, rfl⟩
      have bv75633 := mul_le100 (D := 20000) (by omega) (by omega) (by omega) (by omega) ev75633
      refine ev_imul (r := v75633) (by rw [ev75633]; unfold w32; omega) ?_
      refine ev_iadd (r := (v75633 + x3)) (by unfold w32; omega) ?_
      exact ev_ret rfl (by decide) (by decide) ⟨_, rfl, g1, k1, by omega, by omega, H0.fin hS (t := a2) (by omega) (Or.inl (by omega)) (e := (a2 + (-x4) + 1)) (by omega) ev75633 (by omega)⟩
    · refine ev_aload_n rfl ?_
      refine g_getp (r := 19) (c := 20) g1 ad19 (by decide) (by decide) rf19_0 ft7_0 ?_
      refine ev_iload rfl ?_
      refine g_iald g1 ad20 rt20 (by omega) (by omega) (fun v75634 ev75634 lv75634 uv75634 => ?_)
      have bv75634 := hS.at k1 (fun _ => rfl) (i := x6) (by omega) (by omega) ev75634
      refine ev_iload_n rfl ?_
      refine ev_icmpgt f92_84 (fun c75635 => ?_) (fun c75635 => ?_)
      · refine ev_iload_n rfl ?_
        refine ev_iload_n rfl ?_
        refine ev_iload rfl ?_
        refine ev_isub (r := (a2 + (-x4))) (by unfold w32; omega) ?_
        refine ev_iconst ?_
        refine ev_iadd (r := (a2 + (-x4) + 1)) (by unfold w32; omega) ?_
        refine ev_iload rfl ?_
        obtain ⟨v75636, ev75636⟩ : ∃ v : Int, (a2 + (-x4) + 1) * x5 = v := ⟨_, rfl⟩
        have bv75636 := mul_le100 (D := 20000) (by omega) (by omega) (by omega) (by omega) ev75636
        refine ev_imul (r := v75636) (by rw [ev75636]; unfold w32; omega) ?_
        refine ev_iadd (r := (v75636 + x3)) (by unfold w32; omega) ?_
        exact ev_ret rfl (by decide) (by decide) ⟨_, rfl, g1, k1, by omega, by omega, H0.fin hS (t := a2) (by omega) (Or.inr (by rw [((k1.v rfl).symm.trans ev75634)]; omega)) (e := (a2 + (-x4) + 1)) (by omega) ev75636 (by omega)⟩
      · refine ev_aload_n rfl ?_
        refine g_getp (r := 19) (c := 20) g1 ad19 (by decide) (by decide) rf19_0 ft7_0 ?_
        refine ev_iload rfl ?_
        refine g_ialdv (v := v75634) g1 ad20 (by omega) (by omega) (ev75634) ?_
        refine ev_iload rfl ?_
        refine ev_icmple f92_69 (fun c75637 => ?_) (fun c75637 => ?_)
        · refine ev_aload_n rfl ?_
          refine g_getp (r := 19) (c := 21) g1 ad19 (by decide) (by decide) rf19_1 ft7_1 ?_
          refine ev_iload rfl ?_
          refine g_iald g1 ad21 rt21 (by omega) (by omega) (fun v75638 ev75638 lv75638 uv75638 => ?_)
          have bv75638 := hS.rt k1 (fun _ => rfl) (i := x6) (by omega) (by omega) ev75638
          refine ev_istore (L' := [(2, 19), (0, a1), (0, a2), (0, x3), (0, x4), (0, v75638), (0, x6)]) (Nat.le_of_ble_eq_true rfl) rfl ?_
          refine ev_iinc (w := (x6 + 1)) (L' := [(2, 19), (0, a1), (0, a2), (0, x3), (0, x4), (0, v75638), (0, (x6 + 1))]) rfl (by unfold w32; omega) rfl ?_
          refine ev_goto f92_12 ?_
          exact ih _ _ _ _ _ g1 k1 (by omega) (by omega) (by omega) (by omega) (by omega) (by omega) (by omega) (by omega) (by omega) (by omega) (by omega) (by omega) (by omega) (by omega) (by omega) (by omega) (by omega) (by omega) (by omega) (H0.go (by omega) ((k1.v rfl).symm.trans ev75634) ((k1.v rfl).symm.trans ev75638) (by omega) ⟨H0.2.1, H0.1⟩ (by omega)) (by omega)
        · refine ev_iload_n rfl ?_
          refine ev_aload_n rfl ?_
          refine g_getp (r := 19) (c := 20) g1 ad19 (by decide) (by decide) rf19_0 ft7_0 ?_
          refine ev_iload rfl ?_
          refine g_ialdv (v := v75634) g1 ad20 (by omega) (by omega) (ev75634) ?_
          refine ev_iload rfl ?_
          refine ev_isub (r := (v75634 + (-x4))) (by unfold w32; omega) ?_
          refine ev_iload rfl ?_
          obtain ⟨v75639, ev75639⟩ : ∃ v : Int, (v75634 + (-x4)) * x5 = v := ⟨_, rfl⟩
          have bv75639 := mul_le100 (D := 20000) (by omega) (by omega) (by omega) (by omega) ev75639
          refine ev_imul (r := v75639) (by rw [ev75639]; unfold w32; omega) ?_
          refine ev_iadd (r := (v75639 + x3)) (by unfold w32; omega) ?_
          refine ev_istore_n (L' := [(2, 19), (0, a1), (0, a2), (0, (v75639 + x3)), (0, x4), (0, x5), (0, x6)]) (Nat.le_of_ble_eq_true rfl) rfl ?_
          refine ev_aload_n rfl ?_
          refine g_getp (r := 19) (c := 20) g1 ad19 (by decide) (by decide) rf19_0 ft7_0 ?_
          refine ev_iload rfl ?_
          refine g_ialdv (v := v75634) g1 ad20 (by omega) (by omega) (ev75634) ?_
          refine ev_istore (L' := [(2, 19), (0, a1), (0, a2), (0, (v75639 + x3)), (0, v75634), (0, x5), (0, x6)]) (Nat.le_of_ble_eq_true rfl) rfl ?_
          refine ev_aload_n rfl ?_
          refine g_getp (r := 19) (c := 21) g1 ad19 (by decide) (by decide) rf19_1 ft7_1 ?_
          refine ev_iload rfl ?_
          refine g_iald g1 ad21 rt21 (by omega) (by omega) (fun v75640 ev75640 lv75640 uv75640 => ?_)
          have bv75640 := hS.rt k1 (fun _ => rfl) (i := x6) (by omega) (by omega) ev75640
          refine ev_istore (L' := [(2, 19), (0, a1), (0, a2), (0, (v75639 + x3)), (0, v75634), (0, v75640), (0, x6)]) (Nat.le_of_ble_eq_true rfl) rfl ?_
          refine ev_iinc (w := (x6 + 1)) (L' := [(2, 19), (0, a1), (0, a2), (0, (v75639 + x3)), (0, v75634), (0, v75640), (0, (x6 + 1))]) rfl (by unfold w32; omega) rfl ?_
          refine ev_goto f92_12 ?_
          exact ih _ _ _ _ _ g1 k1 (by omega) (by omega) (by omega) (by omega) (by omega) (by omega) (by omega) (by omega) (by omega) (by omega) (by omega) (by omega) (by omega) (by omega) (by omega) (by omega) (by omega) (by omega) (by omega) (H0.go (by omega) ((k1.v rfl).symm.trans ev75634) ((k1.v rfl).symm.trans ev75640) (by omega) (H0.up hS (by omega) ((k1.v rfl).symm.trans ev75634) (by omega) (e := (v75634 + (-x4))) (by omega) ev75639 (by omega)) (by omega)) (by omega)
set_option maxHeartbeats 4000000 in
theorem t92 {G : GH} {h : JH} (g : Gd G h) {a1 : Int} (la1 : (-9998) ≤ a1) (ua1 : a1 ≤ 1) {a2 : Int} (la2 : 0 ≤ a2) (ua2 : a2 ≤ 9999) {w0 : Int} (ew0 : h.2.2 19 4 = w0) (lw0 : 0 ≤ w0) (uw0 : w0 ≤ 6) (F0 : (a1 + (-a2)) ≤ 1) (F1 : ((-a1) + a2) ≤ 9998) (hS : Ss h (w0).toNat) : jOk 1 0 0 92 [(2, 19), (0, a1), (0, a2)] h (fun v h' => ∃ r : Int, v = some (0, r) ∧ Gd G h' ∧ Kp [] h h' ∧ 0 ≤ r ∧ r ≤ 999900 ∧ r = sg (fun c => lC h c (w0).toNat) a1 (a2 + 1 - a1).toNat) := by
  refine ⟨by decide, by rw [ml92]; exact Nat.le_of_ble_eq_true rfl, ?_⟩
  rw [ml92, pp92]
  show jEv _ none _ c92_0 0 0 _ (c92_0, [(2, 19), (0, a1), (0, a2), (9, 0), (9, 0), (9, 0), (9, 0)], [], h, 0, 0)
  have k0 := Kp.rf [] h
  refine ev_iconst ?_
  refine ev_istore_n (L' := [(2, 19), (0, a1), (0, a2), (0, 0), (9, 0), (9, 0), (9, 0)]) (Nat.le_of_ble_eq_true rfl) rfl ?_
  refine ev_iload_n rfl ?_
  refine ev_istore (L' := [(2, 19), (0, a1), (0, a2), (0, 0), (0, a1), (9, 0), (9, 0)]) (Nat.le_of_ble_eq_true rfl) rfl ?_
  refine ev_bipush ?_
  refine ev_istore (L' := [(2, 19), (0, a1), (0, a2), (0, 0), (0, a1), (0, 100), (9, 0)]) (Nat.le_of_ble_eq_true rfl) rfl ?_
  refine ev_iconst ?_
  refine ev_istore (L' := [(2, 19), (0, a1), (0, a2), (0, 0), (0, a1), (0, 100), (0, 0)]) (Nat.le_of_ble_eq_true rfl) rfl ?_
  exact (t92_l la1 ua1 la2 ua2 ew0 lw0 uw0 F0 F1 hS 14) _ _ _ _ _ g k0 (by omega) (by omega) (by omega) (by omega) (by omega) (by omega) (by omega) (by omega) (by omega) (by omega) (by omega) (by omega) (by omega) (by omega) (by omega) (by omega) (by omega) (by omega) (by omega) (Ac.start rfl) (by omega)
set_option maxHeartbeats 4000000 in
theorem t91 {G : GH} {h : JH} (g : Gd G h) {a1 : Int} (la1 : (-9999) ≤ a1) (ua1 : a1 ≤ 9999) {w0 : Int} (ew0 : h.2.2 19 4 = w0) (lw0 : 0 ≤ w0) (uw0 : w0 ≤ 6) (hS : Ss h (w0).toNat) : jOk 2 0 0 91 [(2, 19), (0, a1)] h (fun v h' => ∃ r : Int, v = some (0, r) ∧ Gd G h' ∧ Kp [] h h' ∧ (-999900) ≤ r ∧ r ≤ 999900 ∧ r = ftF (fun c => lC h c (w0).toNat) a1) := by
  refine ⟨by decide, by rw [ml91]; exact Nat.le_of_ble_eq_true rfl, ?_⟩
  rw [ml91, pp91]
  show jEv _ none _ c91_0 0 0 _ (c91_0, [(2, 19), (0, a1)], [], h, 0, 0)
  have k0 := Kp.rf [] h
  refine ev_iload_n rfl ?_
  refine ev_ifle f91_13 (fun c75651 => ?_) (fun c75651 => ?_)
  · refine ev_aload_n rfl ?_
    refine ev_iload_n rfl ?_
    refine ev_iconst ?_
    refine ev_iadd (r := (a1 + 1)) (by unfold w32; omega) ?_
    refine ev_iconst ?_
    refine ev_call (jcall_v (A := [(0, 0), (0, (a1 + 1))]) (S' := []) (r := 19) rfl (g.lt ad19) (g.tg ad19) (Nat.le_of_ble_eq_true rfl)) (jOk_le (by decide) (t92 g (by omega) (by omega) (by omega) (by omega) (ew0) (by omega) (by omega) (by omega) (by omega) (hS.kp k0 (fun _ => rfl) (fun _ => rfl)))) (by decide) (by decide) (fun w75652 h75652 q75652 => ?_)
    obtain ⟨v75653, rfl, g75652, kk75652, lv75653, uv75653, X75652⟩ := q75652
    have k75652 := k0.tr kk75652 (by decide)
    show jEv _ _ _ _ _ _ _ (_, [(2, 19), (0, a1)], [(0, v75653)], _, _, _)
    refine ev_ineg (r := ((-v75653))) (by unfold w32; omega) ?_
    exact ev_ret rfl (by decide) (by decide) ⟨_, rfl, g75652, k75652, by omega, by omega, by unfold ftF; rw [if_neg (by omega), X75652, show (0 + 1 - (a1 + 1)).toNat = (-a1).toNat by omega]⟩
  · refine ev_aload_n rfl ?_
    refine ev_iconst ?_
    refine ev_iload_n rfl ?_
    refine ev_call (jcall_v (A := [(0, a1), (0, 1)]) (S' := []) (r := 19) rfl (g.lt ad19) (g.tg ad19) (Nat.le_of_ble_eq_true rfl)) (jOk_le (by decide) (t92 g (by omega) (by omega) (by omega) (by omega) (ew0) (by omega) (by omega) (by omega) (by omega) (hS.kp k0 (fun _ => rfl) (fun _ => rfl)))) (by decide) (by decide) (fun w75654 h75654 q75654 => ?_)
    obtain ⟨v75655, rfl, g75654, kk75654, lv75655, uv75655, X75654⟩ := q75654
    have k75654 := k0.tr kk75654 (by decide)
    show jEv _ _ _ _ _ _ _ (_, [(2, 19), (0, a1)], [(0, v75655)], _, _, _)
    refine ev_goto f91_22 ?_
    exact ev_ret rfl (by decide) (by decide) ⟨_, rfl, g75654, k75654, by omega, by omega, by unfold ftF; rw [if_pos (by omega), X75654, show (a1 + 1 - 1).toNat = (a1).toNat by omega]⟩
set_option maxHeartbeats 4000000 in
theorem t180 {G : GH} {h : JH} (g : Gd G h) {a1 : Int} (la1 : (-2147483648) ≤ a1) (ua1 : a1 ≤ 2147483647) {a2 : Int} (la2 : (-2147483648) ≤ a2) (ua2 : a2 ≤ 2147483647) {w0 : Int} (ew0 : h.2.2 19 4 = w0) (lw0 : 0 ≤ w0) (uw0 : w0 ≤ 6) (hS : Ss h (w0).toNat) : jOk 4 0 0 180 [(2, 0), (0, a1), (0, a2)] h (fun v h' => ∃ r : Int, v = some (0, r) ∧ Gd G h' ∧ Kp [] h h' ∧ (-2147483648) ≤ r ∧ r ≤ 2147483647 ∧ CnC h a1 a2 w0 r) := by
  refine ⟨by decide, by rw [ml180]; exact Nat.le_of_ble_eq_true rfl, ?_⟩
  rw [ml180, pp180]
  show jEv _ none _ c180_0 0 0 _ (c180_0, [(2, 0), (0, a1), (0, a2), (9, 0)], [], h, 0, 0)
  have k0 := Kp.rf [] h
  refine ev_aload_n rfl ?_
  refine ev_iload_n rfl ?_
  refine ev_in (d := 2) (a := 0) (b := 0) (cd' := c220_0) (m := 2) (L0 := [(2, 0), (0, a1)]) (jcall_v (A := [(0, a1)]) (S' := []) (r := 0) rfl (g.lt ad0) (g.tg ad0) (Nat.le_of_ble_eq_true rfl)) (by decide) ml220 pp220 (Nat.le_of_ble_eq_true rfl) rfl (by decide) (by decide) ?_
  refine ev_iload_n rfl ?_
  refine ev_iflt f220_12 (fun c75724 => ?_) (fun c75724 => ?_)
  · refine ev_aconst_null ?_
    refine ev_goto f220_22 ?_
    refine ev_ret rfl (by decide) (by decide) ?_
    show jEv _ _ _ _ _ _ _ (_, [(2, 0), (0, a1), (0, a2), (9, 0)], [(2, (-1))], _, _, _)
    refine ev_astore_n (L' := [(2, 0), (0, a1), (0, a2), (2, (-1))]) (Nat.le_of_ble_eq_true rfl) rfl ?_
    refine ev_aload_n rfl ?_
    refine ev_ifnull f180_24 (fun c75725 => ?_) (fun c75725 => absurd c75725 (by decide))
    refine ev_ldc ?_
    exact ev_ret rfl (by decide) (by decide) ⟨_, rfl, g, k0, by omega, by omega, Or.inl ⟨(by unfold CV; omega), rfl⟩⟩
  · refine ev_iload_n rfl ?_
    refine ev_aload_n rfl ?_
    obtain ⟨v75726, ev75726, lv75726, uv75726⟩ := g.rd ad0 (show 7 < 17 by decide) rf0_7
    refine g_getv (r := 0) (v := v75726) g ad0 (by decide) ft11_7 ev75726 ?_
    refine ev_icmplt f220_16 (fun c75727 => ?_) (fun c75727 => ?_)
    · refine ev_aload_n rfl ?_
      refine g_getp (r := 0) (c := 24) g ad0 (by decide) (by decide) rf0_6 ft11_6 ?_
      refine ev_iload_n rfl ?_
      refine g_faaldF g (i := a1) (ev75726) (by omega) (by omega) (fun f75728 qf75728 bf75728 ef75728 => ?_)
      obtain ⟨v75729, ev75729, lv75729, uv75729⟩ : ∃ v : Int, h.2.2 f75728 1 = v ∧ 0 ≤ v ∧ v ≤ 19 := ⟨_, rfl, (g.fd qf75728).2.2.1.1, (g.fd qf75728).2.2.1.2⟩
      obtain ⟨v75730, ev75730, lv75730, uv75730⟩ : ∃ v : Int, h.2.2 f75728 2 = v ∧ 0 ≤ v ∧ v ≤ 100 := ⟨_, rfl, (g.fd qf75728).2.2.2.1, (g.fd qf75728).2.2.2.2⟩
      have c75731 := jfam_in (g.ffam qf75728)
      simp only [jtags, if_true, List.mem_cons, List.not_mem_nil, or_false] at c75731
      rcases c75731 with tyf75728 | tyf75728 | tyf75728 | tyf75728 | tyf75728 | tyf75728
      · refine ev_ret rfl (by decide) (by decide) ?_
        show jEv _ _ _ _ _ _ _ (_, [(2, 0), (0, a1), (0, a2), (9, 0)], [(2, (f75728 : Int))], _, _, _)
        refine ev_astore_n (L' := [(2, 0), (0, a1), (0, a2), (2, (f75728 : Int))]) (Nat.le_of_ble_eq_true rfl) rfl ?_
        refine ev_aload_n rfl ?_
        refine ev_ifnull f180_24 (fun c75732 => absurd c75732 (by omega)) (fun c75732 => ?_)
        refine ev_iload_n rfl ?_
        refine ev_sipush ?_
        refine ev_icmplt f180_24 (fun c75733 => ?_) (fun c75733 => ?_)
        · refine ev_ldc ?_
          exact ev_ret rfl (by decide) (by decide) ⟨_, rfl, g, k0, by omega, by omega, Or.inl ⟨(by unfold CV; rw [ev75726]; omega), rfl⟩⟩
        · refine ev_iload_n rfl ?_
          refine ev_sipush ?_
          refine ev_icmple f180_27 (fun c75734 => ?_) (fun c75734 => ?_)
          · refine ev_aload_n rfl ?_
            refine ev_iload_n rfl ?_
            refine ev_in (d := 2) (a := 0) (b := 0) (cd' := c2_0) (m := 2) (L0 := [(2, (f75728 : Int)), (0, a2)]) (jcall_F (A := [(0, a2)]) (S' := []) (r := f75728) (k := 2) rfl (g.flt qf75728) (g.ffam qf75728) (by rw [k0.2.1, tyf75728]; rfl) (by decide) (Nat.le_of_ble_eq_true rfl)) (by decide) ml2 pp2 (Nat.le_of_ble_eq_true rfl) rfl (by decide) (by decide) ?_
            refine ev_bipush ?_
            refine ev_iload_n rfl ?_
            refine ev_imul (r := (100 * a2)) (by unfold w32; omega) ?_
            refine ev_ret rfl (by decide) (by decide) ?_
            show jEv _ _ _ _ _ _ _ (_, [(2, 0), (0, a1), (0, a2), (2, (f75728 : Int))], [(0, (100 * a2))], _, _, _)
            exact ev_ret rfl (by decide) (by decide) ⟨_, rfl, g, k0, by omega, by omega, Or.inr ⟨(by unfold CV; rw [ev75726]; omega), f75728, ef75728, by rw [tyf75728, show kdT 0 = 0 from rfl, ev75730]; unfold cnF; rw [if_neg (by decide), if_pos (Or.inl (by decide))] <;> omega⟩⟩
          · refine ev_ldc ?_
            exact ev_ret rfl (by decide) (by decide) ⟨_, rfl, g, k0, by omega, by omega, Or.inl ⟨(by unfold CV; rw [ev75726]; omega), rfl⟩⟩
      · refine ev_ret rfl (by decide) (by decide) ?_
        show jEv _ _ _ _ _ _ _ (_, [(2, 0), (0, a1), (0, a2), (9, 0)], [(2, (f75728 : Int))], _, _, _)
        refine ev_astore_n (L' := [(2, 0), (0, a1), (0, a2), (2, (f75728 : Int))]) (Nat.le_of_ble_eq_true rfl) rfl ?_
        refine ev_aload_n rfl ?_
        refine ev_ifnull f180_24 (fun c75735 => absurd c75735 (by omega)) (fun c75735 => ?_)
        refine ev_iload_n rfl ?_
        refine ev_sipush ?_
        refine ev_icmplt f180_24 (fun c75736 => ?_) (fun c75736 => ?_)
        · refine ev_ldc ?_
          exact ev_ret rfl (by decide) (by decide) ⟨_, rfl, g, k0, by omega, by omega, Or.inl ⟨(by unfold CV; rw [ev75726]; omega), rfl⟩⟩
        · refine ev_iload_n rfl ?_
          refine ev_sipush ?_
          refine ev_icmple f180_27 (fun c75737 => ?_) (fun c75737 => ?_)
          · refine ev_aload_n rfl ?_
            refine ev_iload_n rfl ?_
            refine ev_in (d := 2) (a := 0) (b := 0) (cd' := c11_0) (m := 2) (L0 := [(2, (f75728 : Int)), (0, a2)]) (jcall_F (A := [(0, a2)]) (S' := []) (r := f75728) (k := 11) rfl (g.flt qf75728) (g.ffam qf75728) (by rw [k0.2.1, tyf75728]; rfl) (by decide) (Nat.le_of_ble_eq_true rfl)) (by decide) ml11 pp11 (Nat.le_of_ble_eq_true rfl) rfl (by decide) (by decide) ?_
            refine ev_aload_n rfl ?_
            refine g_fget0 g qf75728 ft0_0 ?_
            refine ev_iload_n rfl ?_
            refine ev_call (jcall_v (A := [(0, a2)]) (S' := []) (r := 19) rfl (g.lt ad19) (g.tg ad19) (Nat.le_of_ble_eq_true rfl)) (jOk_le (by decide) (t91 g (by omega) (by omega) (ew0) (by omega) (by omega) (hS.kp k0 (fun _ => rfl) (fun _ => rfl)))) (by decide) (by decide) (fun w75738 h75738 q75738 => ?_)
            obtain ⟨v75739, rfl, g75738, kk75738, lv75739, uv75739, X75738⟩ := q75738
            have k75738 := k0.tr kk75738 (by decide)
            show jEv _ _ _ _ _ _ _ (_, [(2, (f75728 : Int)), (0, a2)], [(0, v75739)], _, _, _)
            refine ev_ret rfl (by decide) (by decide) ?_
            show jEv _ _ _ _ _ _ _ (_, [(2, 0), (0, a1), (0, a2), (2, (f75728 : Int))], [(0, v75739)], _, _, _)
            exact ev_ret rfl (by decide) (by decide) ⟨_, rfl, g75738, k75738, by omega, by omega, Or.inr ⟨(by unfold CV; rw [ev75726]; omega), f75728, ef75728, by rw [tyf75728, show kdT 1 = 1 from rfl, ev75730]; unfold cnF; rw [if_pos (by decide), X75738]⟩⟩
          · refine ev_ldc ?_
            exact ev_ret rfl (by decide) (by decide) ⟨_, rfl, g, k0, by omega, by omega, Or.inl ⟨(by unfold CV; rw [ev75726]; omega), rfl⟩⟩
      · refine ev_ret rfl (by decide) (by decide) ?_
        show jEv _ _ _ _ _ _ _ (_, [(2, 0), (0, a1), (0, a2), (9, 0)], [(2, (f75728 : Int))], _, _, _)
        refine ev_astore_n (L' := [(2, 0), (0, a1), (0, a2), (2, (f75728 : Int))]) (Nat.le_of_ble_eq_true rfl) rfl ?_
        refine ev_aload_n rfl ?_
        refine ev_ifnull f180_24 (fun c75740 => absurd c75740 (by omega)) (fun c75740 => ?_)
        refine ev_iload_n rfl ?_
        refine ev_sipush ?_
        refine ev_icmplt f180_24 (fun c75741 => ?_) (fun c75741 => ?_)
        · refine ev_ldc ?_
          exact ev_ret rfl (by decide) (by decide) ⟨_, rfl, g, k0, by omega, by omega, Or.inl ⟨(by unfold CV; rw [ev75726]; omega), rfl⟩⟩
        · refine ev_iload_n rfl ?_
          refine ev_sipush ?_
          refine ev_icmple f180_27 (fun c75742 => ?_) (fun c75742 => ?_)
          · refine ev_aload_n rfl ?_
            refine ev_iload_n rfl ?_
            refine ev_in (d := 2) (a := 0) (b := 0) (cd' := c2_0) (m := 2) (L0 := [(2, (f75728 : Int)), (0, a2)]) (jcall_F (A := [(0, a2)]) (S' := []) (r := f75728) (k := 2) rfl (g.flt qf75728) (g.ffam qf75728) (by rw [k0.2.1, tyf75728]; rfl) (by decide) (Nat.le_of_ble_eq_true rfl)) (by decide) ml2 pp2 (Nat.le_of_ble_eq_true rfl) rfl (by decide) (by decide) ?_
            refine ev_bipush ?_
            refine ev_iload_n rfl ?_
            refine ev_imul (r := (100 * a2)) (by unfold w32; omega) ?_
            refine ev_ret rfl (by decide) (by decide) ?_
            show jEv _ _ _ _ _ _ _ (_, [(2, 0), (0, a1), (0, a2), (2, (f75728 : Int))], [(0, (100 * a2))], _, _, _)
            exact ev_ret rfl (by decide) (by decide) ⟨_, rfl, g, k0, by omega, by omega, Or.inr ⟨(by unfold CV; rw [ev75726]; omega), f75728, ef75728, by rw [tyf75728, show kdT 2 = 2 from rfl, ev75730]; unfold cnF; rw [if_neg (by decide), if_pos (Or.inl (by decide))] <;> omega⟩⟩
          · refine ev_ldc ?_
            exact ev_ret rfl (by decide) (by decide) ⟨_, rfl, g, k0, by omega, by omega, Or.inl ⟨(by unfold CV; rw [ev75726]; omega), rfl⟩⟩
      · refine ev_ret rfl (by decide) (by decide) ?_
        show jEv _ _ _ _ _ _ _ (_, [(2, 0), (0, a1), (0, a2), (9, 0)], [(2, (f75728 : Int))], _, _, _)
        refine ev_astore_n (L' := [(2, 0), (0, a1), (0, a2), (2, (f75728 : Int))]) (Nat.le_of_ble_eq_true rfl) rfl ?_
        refine ev_aload_n rfl ?_
        refine ev_ifnull f180_24 (fun c75743 => absurd c75743 (by omega)) (fun c75743 => ?_)
        refine ev_iload_n rfl ?_
        refine ev_sipush ?_
        refine ev_icmplt f180_24 (fun c75744 => ?_) (fun c75744 => ?_)
        · refine ev_ldc ?_
          exact ev_ret rfl (by decide) (by decide) ⟨_, rfl, g, k0, by omega, by omega, Or.inl ⟨(by unfold CV; rw [ev75726]; omega), rfl⟩⟩
        · refine ev_iload_n rfl ?_
          refine ev_sipush ?_
          refine ev_icmple f180_27 (fun c75745 => ?_) (fun c75745 => ?_)
          · refine ev_aload_n rfl ?_
            refine ev_iload_n rfl ?_
            refine ev_in (d := 2) (a := 0) (b := 0) (cd' := c19_0) (m := 2) (L0 := [(2, (f75728 : Int)), (0, a2)]) (jcall_F (A := [(0, a2)]) (S' := []) (r := f75728) (k := 19) rfl (g.flt qf75728) (g.ffam qf75728) (by rw [k0.2.1, tyf75728]; rfl) (by decide) (Nat.le_of_ble_eq_true rfl)) (by decide) ml19 pp19 (Nat.le_of_ble_eq_true rfl) rfl (by decide) (by decide) ?_
            refine ev_aload_n rfl ?_
            refine ev_getf (g.flt qf75728) (g.ffam qf75728) ft0_2 (ev75730) ?_
            refine ev_iload_n rfl ?_
            refine g_imulG (fun v75746 ev75746 lv75746 uv75746 => ?_)
            refine ev_ret rfl (by decide) (by decide) ?_
            show jEv _ _ _ _ _ _ _ (_, [(2, 0), (0, a1), (0, a2), (2, (f75728 : Int))], [(0, v75746)], _, _, _)
            exact ev_ret rfl (by decide) (by decide) ⟨_, rfl, g, k0, by omega, by omega, Or.inr ⟨(by unfold CV; rw [ev75726]; omega), f75728, ef75728, by rw [tyf75728, show kdT 3 = 4 from rfl, ev75730]; unfold cnF; rw [if_neg (by decide), if_neg (by omega)]; first | exact ev75746.symm | (rw [ev75746]; exact (jw32_id (by omega) (by omega)).symm)⟩⟩
          · refine ev_ldc ?_
            exact ev_ret rfl (by decide) (by decide) ⟨_, rfl, g, k0, by omega, by omega, Or.inl ⟨(by unfold CV; rw [ev75726]; omega), rfl⟩⟩
      · refine ev_ret rfl (by decide) (by decide) ?_
        show jEv _ _ _ _ _ _ _ (_, [(2, 0), (0, a1), (0, a2), (9, 0)], [(2, (f75728 : Int))], _, _, _)
        refine ev_astore_n (L' := [(2, 0), (0, a1), (0, a2), (2, (f75728 : Int))]) (Nat.le_of_ble_eq_true rfl) rfl ?_
        refine ev_aload_n rfl ?_
        refine ev_ifnull f180_24 (fun c75747 => absurd c75747 (by omega)) (fun c75747 => ?_)
        refine ev_iload_n rfl ?_
        refine ev_sipush ?_
        refine ev_icmplt f180_24 (fun c75748 => ?_) (fun c75748 => ?_)
        · refine ev_ldc ?_
          exact ev_ret rfl (by decide) (by decide) ⟨_, rfl, g, k0, by omega, by omega, Or.inl ⟨(by unfold CV; rw [ev75726]; omega), rfl⟩⟩
        · refine ev_iload_n rfl ?_
          refine ev_sipush ?_
          refine ev_icmple f180_27 (fun c75749 => ?_) (fun c75749 => ?_)
          · refine ev_aload_n rfl ?_
            refine ev_iload_n rfl ?_
            refine ev_in (d := 2) (a := 0) (b := 0) (cd' := c11_0) (m := 2) (L0 := [(2, (f75728 : Int)), (0, a2)]) (jcall_F (A := [(0, a2)]) (S' := []) (r := f75728) (k := 11) rfl (g.flt qf75728) (g.ffam qf75728) (by rw [k0.2.1, tyf75728]; rfl) (by decide) (Nat.le_of_ble_eq_true rfl)) (by decide) ml11 pp11 (Nat.le_of_ble_eq_true rfl) rfl (by decide) (by decide) ?_
            refine ev_aload_n rfl ?_
            refine g_fget0 g qf75728 ft0_0 ?_
            refine ev_iload_n rfl ?_
            refine ev_call (jcall_v (A := [(0, a2)]) (S' := []) (r := 19) rfl (g.lt ad19) (g.tg ad19) (Nat.le_of_ble_eq_true rfl)) (jOk_le (by decide) (t91 g (by omega) (by omega) (ew0) (by omega) (by omega) (hS.kp k0 (fun _ => rfl) (fun _ => rfl)))) (by decide) (by decide) (fun w75750 h75750 q75750 => ?_)
            obtain ⟨v75751, rfl, g75750, kk75750, lv75751, uv75751, X75750⟩ := q75750
            have k75750 := k0.tr kk75750 (by decide)
            show jEv _ _ _ _ _ _ _ (_, [(2, (f75728 : Int)), (0, a2)], [(0, v75751)], _, _, _)
            refine ev_ret rfl (by decide) (by decide) ?_
            show jEv _ _ _ _ _ _ _ (_, [(2, 0), (0, a1), (0, a2), (2, (f75728 : Int))], [(0, v75751)], _, _, _)
            exact ev_ret rfl (by decide) (by decide) ⟨_, rfl, g75750, k75750, by omega, by omega, Or.inr ⟨(by unfold CV; rw [ev75726]; omega), f75728, ef75728, by rw [tyf75728, show kdT 6 = 3 from rfl, ev75730]; unfold cnF; rw [if_pos (by decide), X75750]⟩⟩
          · refine ev_ldc ?_
            exact ev_ret rfl (by decide) (by decide) ⟨_, rfl, g, k0, by omega, by omega, Or.inl ⟨(by unfold CV; rw [ev75726]; omega), rfl⟩⟩
      · refine ev_ret rfl (by decide) (by decide) ?_
        show jEv _ _ _ _ _ _ _ (_, [(2, 0), (0, a1), (0, a2), (9, 0)], [(2, (f75728 : Int))], _, _, _)
        refine ev_astore_n (L' := [(2, 0), (0, a1), (0, a2), (2, (f75728 : Int))]) (Nat.le_of_ble_eq_true rfl) rfl ?_
        refine ev_aload_n rfl ?_
        refine ev_ifnull f180_24 (fun c75752 => absurd c75752 (by omega)) (fun c75752 => ?_)
        refine ev_iload_n rfl ?_
        refine ev_sipush ?_
        refine ev_icmplt f180_24 (fun c75753 => ?_) (fun c75753 => ?_)
        · refine ev_ldc ?_
          exact ev_ret rfl (by decide) (by decide) ⟨_, rfl, g, k0, by omega, by omega, Or.inl ⟨(by unfold CV; rw [ev75726]; omega), rfl⟩⟩
        · refine ev_iload_n rfl ?_
          refine ev_sipush ?_
          refine ev_icmple f180_27 (fun c75754 => ?_) (fun c75754 => ?_)
          · refine ev_aload_n rfl ?_
            refine ev_iload_n rfl ?_
            refine ev_in (d := 2) (a := 0) (b := 0) (cd' := c99_0) (m := 2) (L0 := [(2, (f75728 : Int)), (0, a2)]) (jcall_F (A := [(0, a2)]) (S' := []) (r := f75728) (k := 99) rfl (g.flt qf75728) (g.ffam qf75728) (by rw [k0.2.1, tyf75728]; rfl) (by decide) (Nat.le_of_ble_eq_true rfl)) (by decide) ml99 pp99 (Nat.le_of_ble_eq_true rfl) rfl (by decide) (by decide) ?_
            refine ev_iload_n rfl ?_
            refine ev_ifge f99_11 (fun c75755 => ?_) (fun c75755 => ?_)
            · refine ev_aload_n rfl ?_
              refine ev_getf (g.flt qf75728) (g.ffam qf75728) ft0_2 (ev75730) ?_
              refine ev_iload_n rfl ?_
              refine g_imulB (a := 100) (b := 9999) (a' := 0) (b' := 0) (by omega) (by omega) (by omega) (by omega) (by decide) (lo := 0) (hi := 999900) (by decide) (by decide) (fun v75756 ev75756 lv75756 uv75756 => ?_)
              refine ev_ret rfl (by decide) (by decide) ?_
              show jEv _ _ _ _ _ _ _ (_, [(2, 0), (0, a1), (0, a2), (2, (f75728 : Int))], [(0, v75756)], _, _, _)
              exact ev_ret rfl (by decide) (by decide) ⟨_, rfl, g, k0, by omega, by omega, Or.inr ⟨(by unfold CV; rw [ev75726]; omega), f75728, ef75728, by rw [tyf75728, show kdT 8 = 5 from rfl, ev75730]; unfold cnF; rw [if_neg (by decide), if_neg (by omega)]; first | exact ev75756.symm | (rw [ev75756]; exact (jw32_id (by omega) (by omega)).symm)⟩⟩
            · refine ev_bipush ?_
              refine ev_iload_n rfl ?_
              refine ev_imul (r := (100 * a2)) (by unfold w32; omega) ?_
              refine ev_goto f99_17 ?_
              refine ev_ret rfl (by decide) (by decide) ?_
              show jEv _ _ _ _ _ _ _ (_, [(2, 0), (0, a1), (0, a2), (2, (f75728 : Int))], [(0, (100 * a2))], _, _, _)
              exact ev_ret rfl (by decide) (by decide) ⟨_, rfl, g, k0, by omega, by omega, Or.inr ⟨(by unfold CV; rw [ev75726]; omega), f75728, ef75728, by rw [tyf75728, show kdT 8 = 5 from rfl, ev75730]; unfold cnF; rw [if_neg (by decide), if_pos (by omega)] <;> omega⟩⟩
          · refine ev_ldc ?_
            exact ev_ret rfl (by decide) (by decide) ⟨_, rfl, g, k0, by omega, by omega, Or.inl ⟨(by unfold CV; rw [ev75726]; omega), rfl⟩⟩
    · refine ev_aconst_null ?_
      refine ev_goto f220_22 ?_
      refine ev_ret rfl (by decide) (by decide) ?_
      show jEv _ _ _ _ _ _ _ (_, [(2, 0), (0, a1), (0, a2), (9, 0)], [(2, (-1))], _, _, _)
      refine ev_astore_n (L' := [(2, 0), (0, a1), (0, a2), (2, (-1))]) (Nat.le_of_ble_eq_true rfl) rfl ?_
      refine ev_aload_n rfl ?_
      refine ev_ifnull f180_24 (fun c75757 => ?_) (fun c75757 => absurd c75757 (by decide))
      refine ev_ldc ?_
      exact ev_ret rfl (by decide) (by decide) ⟨_, rfl, g, k0, by omega, by omega, Or.inl ⟨(by unfold CV; rw [ev75726]; omega), rfl⟩⟩
set_option maxHeartbeats 4000000 in
theorem t287_l {G : GH} {h : JH} {a1 : Int} (la1 : (-9999) ≤ a1) (ua1 : a1 ≤ 9999) {w0 : Int} (ew0 : h.2.2 42 31 = w0) (lw0 : 0 ≤ w0) (uw0 : w0 ≤ 6) : ∀ N : Nat, (∀ (h1 : JH) (x2 x3 : Int), Gd G h1 → Kp [] h h1 → (-9999) ≤ a1 → a1 ≤ 9999 → (-1) ≤ x2 → x2 ≤ 5 → 0 ≤ x3 → x3 ≤ 6 → ((-w0) + x3) ≤ 0 → (x2 + (-x3)) ≤ (-1) → ((-x2)) ≤ 1 → x2 = bR h a1 (x3).toNat → ((-x3) + 6) < N → jEv (jOk 0) none (fun _ => 0) c287_0 0 0 (fun v h' => ∃ r : Int, v = some (0, r) ∧ Gd G h' ∧ Kp [] h h' ∧ 0 ≤ r ∧ r ≤ 100 ∧ r = cR h (w0).toNat a1) (c287_4, [(2, 42), (0, a1), (0, x2), (0, x3)], [], h1, 0, 0)) := by
  intro N
  induction N with
  | zero => exact fun h1 x2 x3 g1 k1 b0 b1 b2 b3 b4 b5 b6 b7 b8 b9 hm => absurd hm (by omega)
  | succ N ih =>
    show _
    intro h1 x2 x3 g1 k1 b0 b1 b2 b3 b4 b5 b6 b7 b8 H0 hm
    refine ev_iload_n rfl ?_
    refine ev_aload_n rfl ?_
    refine g_getv (r := 42) (v := w0) g1 ad42 (by decide) ft12_31 (((k1.v (by decide)).trans ew0)) ?_
    refine ev_icmpge f287_49 (fun c75819 => ?_) (fun c75819 => ?_)
    · refine ev_iload_n rfl ?_
      refine ev_ifge f287_58 (fun c75820 => ?_) (fun c75820 => ?_)
      · refine ev_bipush ?_
        refine ev_aload_n rfl ?_
        refine g_getp (r := 42) (c := 63) g1 ad42 (by decide) (by decide) rf42_33 ft12_33 ?_
        refine ev_iload_n rfl ?_
        refine g_iald g1 ad63 rt63 (by omega) (by omega) (fun v75821 ev75821 lv75821 uv75821 => ?_)
        refine ev_imul (r := (10 * v75821)) (by unfold w32; omega) ?_
        exact ev_ret rfl (by decide) (by decide) ⟨_, rfl, g1, k1, by omega, by omega, by unfold cR; rw [show (w0).toNat = (x3).toNat by omega, ← H0]; rw [if_neg (by omega), show h.2.2 63 (x2).toNat = v75821 from (k1.v rfl).symm.trans ev75821] <;> omega⟩
      · refine ev_bipush ?_
        refine ev_goto f287_67 ?_
        exact ev_ret rfl (by decide) (by decide) ⟨_, rfl, g1, k1, by omega, by omega, by unfold cR; rw [show (w0).toNat = (x3).toNat by omega, ← H0]; rw [if_pos (by omega)]⟩
    · refine ev_aload_n rfl ?_
      refine g_getp (r := 42) (c := 62) g1 ad42 (by decide) (by decide) rf42_32 ft12_32 ?_
      refine ev_iload_n rfl ?_
      refine g_iald g1 ad62 rt62 (by omega) (by omega) (fun v75822 ev75822 lv75822 uv75822 => ?_)
      refine ev_iload_n rfl ?_
      refine ev_icmpgt f287_43 (fun c75823 => ?_) (fun c75823 => ?_)
      · refine ev_iinc (w := (x3 + 1)) (L' := [(2, 42), (0, a1), (0, x2), (0, (x3 + 1))]) rfl (by unfold w32; omega) rfl ?_
        refine ev_goto f287_4 ?_
        exact ih _ _ _ g1 k1 (by omega) (by omega) (by omega) (by omega) (by omega) (by omega) (by omega) (by omega) (by omega) (bR_no (w := 0) k1 (fun _ => rfl) H0 (by omega) ev75822 (Or.inl (by omega)) (by omega)) (by omega)
      · refine ev_iload_n rfl ?_
        refine ev_iflt f287_41 (fun c75824 => ?_) (fun c75824 => ?_)
        · refine ev_iload_n rfl ?_
          refine ev_istore_n (L' := [(2, 42), (0, a1), (0, x3), (0, x3)]) (Nat.le_of_ble_eq_true rfl) rfl ?_
          refine ev_iinc (w := (x3 + 1)) (L' := [(2, 42), (0, a1), (0, x3), (0, (x3 + 1))]) rfl (by unfold w32; omega) rfl ?_
          refine ev_goto f287_4 ?_
          exact ih _ _ _ g1 k1 (by omega) (by omega) (by omega) (by omega) (by omega) (by omega) (by omega) (by omega) (by omega) (bR_st (w := 0) k1 (fun _ => rfl) H0 (by omega) ev75822 (by omega) (Or.inl (by omega)) (by omega)) (by omega)
        · refine ev_aload_n rfl ?_
          refine g_getp (r := 42) (c := 62) g1 ad42 (by decide) (by decide) rf42_32 ft12_32 ?_
          refine ev_iload_n rfl ?_
          refine g_ialdv (v := v75822) g1 ad62 (by omega) (by omega) (ev75822) ?_
          refine ev_aload_n rfl ?_
          refine g_getp (r := 42) (c := 62) g1 ad42 (by decide) (by decide) rf42_32 ft12_32 ?_
          refine ev_iload_n rfl ?_
          refine g_iald g1 ad62 rt62 (by omega) (by omega) (fun v75825 ev75825 lv75825 uv75825 => ?_)
          refine ev_icmplt f287_43 (fun c75826 => ?_) (fun c75826 => ?_)
          · refine ev_iinc (w := (x3 + 1)) (L' := [(2, 42), (0, a1), (0, x2), (0, (x3 + 1))]) rfl (by unfold w32; omega) rfl ?_
            refine ev_goto f287_4 ?_
            exact ih _ _ _ g1 k1 (by omega) (by omega) (by omega) (by omega) (by omega) (by omega) (by omega) (by omega) (by omega) (bR_no (w := v75825) k1 (fun _ => rfl) H0 (by omega) ev75822 (Or.inr ⟨by omega, ev75825, by omega⟩) (by omega)) (by omega)
          · refine ev_iload_n rfl ?_
            refine ev_istore_n (L' := [(2, 42), (0, a1), (0, x3), (0, x3)]) (Nat.le_of_ble_eq_true rfl) rfl ?_
            refine ev_iinc (w := (x3 + 1)) (L' := [(2, 42), (0, a1), (0, x3), (0, (x3 + 1))]) rfl (by unfold w32; omega) rfl ?_
            refine ev_goto f287_4 ?_
            exact ih _ _ _ g1 k1 (by omega) (by omega) (by omega) (by omega) (by omega) (by omega) (by omega) (by omega) (by omega) (bR_st (w := v75825) k1 (fun _ => rfl) H0 (by omega) ev75822 (by omega) (Or.inr ⟨ev75825, by omega⟩) (by omega)) (by omega)
set_option maxHeartbeats 4000000 in
theorem t287 {G : GH} {h : JH} (g : Gd G h) {a1 : Int} (la1 : (-9999) ≤ a1) (ua1 : a1 ≤ 9999) {w0 : Int} (ew0 : h.2.2 42 31 = w0) (lw0 : 0 ≤ w0) (uw0 : w0 ≤ 6) : jOk 1 0 0 287 [(2, 42), (0, a1)] h (fun v h' => ∃ r : Int, v = some (0, r) ∧ Gd G h' ∧ Kp [] h h' ∧ 0 ≤ r ∧ r ≤ 100 ∧ r = cR h (w0).toNat a1) := by
  refine ⟨by decide, by rw [ml287]; exact Nat.le_of_ble_eq_true rfl, ?_⟩
  rw [ml287, pp287]
  show jEv _ none _ c287_0 0 0 _ (c287_0, [(2, 42), (0, a1), (9, 0), (9, 0)], [], h, 0, 0)
  have k0 := Kp.rf [] h
  refine ev_iconst ?_
  refine ev_istore_n (L' := [(2, 42), (0, a1), (0, (-1)), (9, 0)]) (Nat.le_of_ble_eq_true rfl) rfl ?_
  refine ev_iconst ?_
  refine ev_istore_n (L' := [(2, 42), (0, a1), (0, (-1)), (0, 0)]) (Nat.le_of_ble_eq_true rfl) rfl ?_
  exact (t287_l la1 ua1 ew0 lw0 uw0 14) _ _ _ g k0 (by omega) (by omega) (by omega) (by omega) (by omega) (by omega) (by omega) (by omega) (by omega) rfl (by omega)
set_option maxHeartbeats 4000000 in
theorem t288_l {G : GH} {h : JH} {a1 : Int} (la1 : (-9999) ≤ a1) (ua1 : a1 ≤ 9999) {w0 : Int} (ew0 : h.2.2 42 31 = w0) (lw0 : 0 ≤ w0) (uw0 : w0 ≤ 6) : ∀ N : Nat, (∀ (h1 : JH) (x2 x3 : Int), Gd G h1 → Kp [] h h1 → (-9999) ≤ a1 → a1 ≤ 9999 → 0 ≤ x2 → x2 ≤ 1000000 → 1 ≤ x3 → x3 ≤ 100000 → (x2 + (-100) * x3) ≤ (-100) → ((-x2)) ≤ 0 → ((-x3)) ≤ (-1) → x3 ≤ 10000 → ((-a1) + x3) ≤ 10001 → x2 = sg (cR h (w0).toNat) 1 (x3 - 1).toNat → (x3 ≤ a1 + 1 ∨ x3 = 1) → ((-x3) + 200000) < N → jEv (jOk 1) none (fun _ => 0) c288_0 0 0 (fun v h' => ∃ r : Int, v = some (0, r) ∧ Gd G h' ∧ Kp [] h h' ∧ (-999900) ≤ r ∧ r ≤ 999900 ∧ r = ftF (cR h (w0).toNat) a1) (c288_4, [(2, 42), (0, a1), (0, x2), (0, x3)], [], h1, 0, 0)) ∧ (∀ (h1 : JH) (x2 x3 : Int), Gd G h1 → Kp [] h h1 → (-9999) ≤ a1 → a1 ≤ 9999 → (-1000000000) ≤ x2 → x2 ≤ 1000000 → (-9999) ≤ x3 → x3 ≤ 0 → x2 ≤ 999900 → ((-x2) + 100 * x3) ≤ 0 → x3 ≤ 0 → ((-x3)) ≤ 9999 → ((0 < a1 ∧ x2 = sg (cR h (w0).toNat) 1 (a1).toNat) ∨ (a1 ≤ 0 ∧ x2 = -(sg (cR h (w0).toNat) (x3 + 1) (-x3).toNat))) → (a1 ≤ x3 ∨ 0 < a1) → (x3 + 9999) < N → jEv (jOk 1) none (fun _ => 0) c288_0 0 0 (fun v h' => ∃ r : Int, v = some (0, r) ∧ Gd G h' ∧ Kp [] h h' ∧ (-999900) ≤ r ∧ r ≤ 999900 ∧ r = ftF (cR h (w0).toNat) a1) (c288_25, [(2, 42), (0, a1), (0, x2), (0, x3)], [], h1, 0, 0)) := by
  intro N
  induction N with
  | zero => exact ⟨fun h1 x2 x3 g1 k1 b0 b1 b2 b3 b4 b5 b6 b7 b8 b9 b10 b11 b12 hm => absurd hm (by omega), fun h1 x2 x3 g1 k1 b0 b1 b2 b3 b4 b5 b6 b7 b8 b9 b10 b11 hm => absurd hm (by omega)⟩
  | succ N ih =>
    refine ⟨?_, ?_⟩
    · intro h1 x2 x3 g1 k1 b0 b1 b2 b3 b4 b5 b6 b7 b8 b9 b10 H0 H1 hm
      refine ev_iload_n rfl ?_
      refine ev_iload_n rfl ?_
      refine ev_icmpgt f288_23 (fun c76091 => ?_) (fun c76091 => ?_)
      · refine ev_iconst ?_
        refine ev_istore_n (L' := [(2, 42), (0, a1), (0, x2), (0, 0)]) (Nat.le_of_ble_eq_true rfl) rfl ?_
        exact ih.2 _ _ _ g1 k1 (by omega) (by omega) (by omega) (by omega) (by omega) (by omega) (by omega) (by omega) (by omega) (by omega) (ft_mid H0 (by omega) H1) (by omega) (by omega)
      · refine ev_iload_n rfl ?_
        refine ev_aload_n rfl ?_
        refine ev_iload_n rfl ?_
        refine ev_call (jcall_v (A := [(0, x3)]) (S' := [(0, x2)]) (r := 42) rfl (g1.lt ad42) (g1.tg ad42) (Nat.le_of_ble_eq_true rfl)) (jOk_le (by decide) (t287 g1 (by omega) (by omega) (((k1.v (by decide)).trans ew0)) (by omega) (by omega))) (by decide) (by decide) (fun w76092 h76092 q76092 => ?_)
        obtain ⟨v76093, rfl, g76092, kk76092, lv76093, uv76093, X76092⟩ := q76092
        have k76092 := k1.tr kk76092 (by decide)
        show jEv _ _ _ _ _ _ _ (_, [(2, 42), (0, a1), (0, x2), (0, x3)], [(0, v76093), (0, x2)], _, _, _)
        refine ev_iadd (r := (v76093 + x2)) (by unfold w32; omega) ?_
        refine ev_istore_n (L' := [(2, 42), (0, a1), (0, (v76093 + x2)), (0, x3)]) (Nat.le_of_ble_eq_true rfl) rfl ?_
        refine ev_iinc (w := (x3 + 1)) (L' := [(2, 42), (0, a1), (0, (v76093 + x2)), (0, (x3 + 1))]) rfl (by unfold w32; omega) rfl ?_
        refine ev_goto f288_4 ?_
        exact ih.1 _ _ _ g76092 k76092 (by omega) (by omega) (by omega) (by omega) (by omega) (by omega) (by omega) (by omega) (by omega) (by omega) (by omega) (by rw [show (x3 + 1 - 1).toNat = (x3 - 1).toNat + 1 by omega]; show _ = sg _ _ _ + _; rw [← H0, show 1 + (((x3 - 1).toNat : Nat) : Int) = x3 by omega, ← (X76092.trans (congrFun (cR_kp k1 (fun _ => rfl) (fun _ => rfl) _) _))]; omega) (Or.inl (by omega)) (by omega)
    · intro h1 x2 x3 g1 k1 b0 b1 b2 b3 b4 b5 b6 b7 b8 b9 H0 H1 hm
      refine ev_iload_n rfl ?_
      refine ev_iload_n rfl ?_
      refine ev_icmple f288_44 (fun c76094 => ?_) (fun c76094 => ?_)
      · refine ev_iload_n rfl ?_
        exact ev_ret rfl (by decide) (by decide) ⟨_, rfl, g1, k1, by omega, by omega, ft_end H0 (by omega) H1⟩
      · refine ev_iload_n rfl ?_
        refine ev_aload_n rfl ?_
        refine ev_iload_n rfl ?_
        refine ev_call (jcall_v (A := [(0, x3)]) (S' := [(0, x2)]) (r := 42) rfl (g1.lt ad42) (g1.tg ad42) (Nat.le_of_ble_eq_true rfl)) (jOk_le (by decide) (t287 g1 (by omega) (by omega) (((k1.v (by decide)).trans ew0)) (by omega) (by omega))) (by decide) (by decide) (fun w76095 h76095 q76095 => ?_)
        obtain ⟨v76096, rfl, g76095, kk76095, lv76096, uv76096, X76095⟩ := q76095
        have k76095 := k1.tr kk76095 (by decide)
        show jEv _ _ _ _ _ _ _ (_, [(2, 42), (0, a1), (0, x2), (0, x3)], [(0, v76096), (0, x2)], _, _, _)
        refine ev_isub (r := ((-v76096) + x2)) (by unfold w32; omega) ?_
        refine ev_istore_n (L' := [(2, 42), (0, a1), (0, ((-v76096) + x2)), (0, x3)]) (Nat.le_of_ble_eq_true rfl) rfl ?_
        refine ev_iinc (w := (x3 - 1)) (L' := [(2, 42), (0, a1), (0, ((-v76096) + x2)), (0, (x3 - 1))]) rfl (by unfold w32; omega) rfl ?_
        refine ev_goto f288_25 ?_
        exact ih.2 _ _ _ g76095 k76095 (by omega) (by omega) (by omega) (by omega) (by omega) (by omega) (by omega) (by omega) (by omega) (by omega) (Or.inr ⟨by omega, by have q := (H0.resolve_left (by omega)).2; rw [show (-(x3 - 1)).toNat = (-x3).toNat + 1 by omega, sg_front, show x3 - 1 + 1 = x3 by omega, ← (X76095.trans (congrFun (cR_kp k1 (fun _ => rfl) (fun _ => rfl) _) _))]; omega⟩) (Or.inl (by omega)) (by omega)
set_option maxHeartbeats 4000000 in
theorem t288 {G : GH} {h : JH} (g : Gd G h) {a1 : Int} (la1 : (-9999) ≤ a1) (ua1 : a1 ≤ 9999) {w0 : Int} (ew0 : h.2.2 42 31 = w0) (lw0 : 0 ≤ w0) (uw0 : w0 ≤ 6) : jOk 2 0 0 288 [(2, 42), (0, a1)] h (fun v h' => ∃ r : Int, v = some (0, r) ∧ Gd G h' ∧ Kp [] h h' ∧ (-999900) ≤ r ∧ r ≤ 999900 ∧ r = ftF (cR h (w0).toNat) a1) := by
  refine ⟨by decide, by rw [ml288]; exact Nat.le_of_ble_eq_true rfl, ?_⟩
  rw [ml288, pp288]
  show jEv _ none _ c288_0 0 0 _ (c288_0, [(2, 42), (0, a1), (9, 0), (9, 0)], [], h, 0, 0)
  have k0 := Kp.rf [] h
  refine ev_iconst ?_
  refine ev_istore_n (L' := [(2, 42), (0, a1), (0, 0), (9, 0)]) (Nat.le_of_ble_eq_true rfl) rfl ?_
  refine ev_iconst ?_
  refine ev_istore_n (L' := [(2, 42), (0, a1), (0, 0), (0, 1)]) (Nat.le_of_ble_eq_true rfl) rfl ?_
  exact (t288_l la1 ua1 ew0 lw0 uw0 300000).1 _ _ _ g k0 (by omega) (by omega) (by omega) (by omega) (by omega) (by omega) (by omega) (by omega) (by omega) (by omega) (by omega) rfl (Or.inr rfl) (by omega)
set_option maxHeartbeats 4000000 in
theorem t289 {G : GH} {h : JH} (g : Gd G h) {a1 : Int} (la1 : 0 ≤ a1) (ua1 : a1 ≤ 5) {a2 : Int} (la2 : 0 ≤ a2) (ua2 : a2 ≤ 100) {a3 : Int} (la3 : (-9999) ≤ a3) (ua3 : a3 ≤ 9999) {w0 : Int} (ew0 : h.2.2 42 31 = w0) (lw0 : 0 ≤ w0) (uw0 : w0 ≤ 6) : jOk 3 0 0 289 [(2, 42), (0, a1), (0, a2), (0, a3)] h (fun v h' => ∃ r : Int, v = some (0, r) ∧ Gd G h' ∧ Kp [] h h' ∧ (-2147483648) ≤ r ∧ r ≤ 2147483647 ∧ r = cnF (cR h (w0).toNat) a1 a2 a3) := by
  refine ⟨by decide, by rw [ml289]; exact Nat.le_of_ble_eq_true rfl, ?_⟩
  rw [ml289, pp289]
  show jEv _ none _ c289_0 0 0 _ (c289_0, [(2, 42), (0, a1), (0, a2), (0, a3)], [], h, 0, 0)
  have k0 := Kp.rf [] h
  refine ev_iload_n rfl ?_
  refine ev_iconst ?_
  refine ev_icmpeq f289_10 (fun c76119 => ?_) (fun c76119 => ?_)
  · refine ev_aload_n rfl ?_
    refine ev_iload_n rfl ?_
    refine ev_call (jcall_v (A := [(0, a3)]) (S' := []) (r := 42) rfl (g.lt ad42) (g.tg ad42) (Nat.le_of_ble_eq_true rfl)) (jOk_le (by decide) (t288 g (by omega) (by omega) (ew0) (by omega) (by omega))) (by decide) (by decide) (fun w76120 h76120 q76120 => ?_)
    obtain ⟨v76121, rfl, g76120, kk76120, lv76121, uv76121, X76120⟩ := q76120
    have k76120 := k0.tr kk76120 (by decide)
    show jEv _ _ _ _ _ _ _ (_, [(2, 42), (0, a1), (0, a2), (0, a3)], [(0, v76121)], _, _, _)
    exact ev_ret rfl (by decide) (by decide) ⟨_, rfl, g76120, k76120, by omega, by omega, by unfold cnF; rw [if_pos (by omega)]; exact X76120⟩
  · refine ev_iload_n rfl ?_
    refine ev_iconst ?_
    refine ev_icmpne f289_16 (fun c76122 => ?_) (fun c76122 => ?_)
    · refine ev_iload_n rfl ?_
      refine ev_iconst ?_
      refine ev_icmplt f289_30 (fun c76123 => ?_) (fun c76123 => ?_)
      · refine ev_bipush ?_
        refine ev_iload_n rfl ?_
        refine ev_imul (r := (100 * a3)) (by unfold w32; omega) ?_
        refine ev_goto f289_40 ?_
        exact ev_ret rfl (by decide) (by decide) ⟨_, rfl, g, k0, by omega, by omega, by unfold cnF; rw [if_neg (by omega), if_pos (by omega)] <;> omega⟩
      · refine ev_iload_n rfl ?_
        refine ev_iconst ?_
        refine ev_icmpne f289_37 (fun c76124 => ?_) (fun c76124 => ?_)
        · refine ev_iload_n rfl ?_
          refine ev_iload_n rfl ?_
          refine g_imulG (fun v76125 ev76125 lv76125 uv76125 => ?_)
          exact ev_ret rfl (by decide) (by decide) ⟨_, rfl, g, k0, by omega, by omega, by unfold cnF; rw [if_neg (by omega), if_neg (by omega)]; first | exact ev76125.symm | (rw [ev76125]; exact (jw32_id (by omega) (by omega)).symm)⟩
        · refine ev_iload_n rfl ?_
          refine ev_ifge f289_37 (fun c76126 => ?_) (fun c76126 => ?_)
          · refine ev_iload_n rfl ?_
            refine ev_iload_n rfl ?_
            refine g_imulB (a := 100) (b := 9999) (a' := 0) (b' := 0) (by omega) (by omega) (by omega) (by omega) (by decide) (lo := 0) (hi := 999900) (by decide) (by decide) (fun v76127 ev76127 lv76127 uv76127 => ?_)
            exact ev_ret rfl (by decide) (by decide) ⟨_, rfl, g, k0, by omega, by omega, by unfold cnF; rw [if_neg (by omega), if_neg (by omega)]; first | exact ev76127.symm | (rw [ev76127]; exact (jw32_id (by omega) (by omega)).symm)⟩
          · refine ev_bipush ?_
            refine ev_iload_n rfl ?_
            refine ev_imul (r := (100 * a3)) (by unfold w32; omega) ?_
            refine ev_goto f289_40 ?_
            exact ev_ret rfl (by decide) (by decide) ⟨_, rfl, g, k0, by omega, by omega, by unfold cnF; rw [if_neg (by omega), if_pos (by omega)] <;> omega⟩
    · refine ev_aload_n rfl ?_
      refine ev_iload_n rfl ?_
      refine ev_call (jcall_v (A := [(0, a3)]) (S' := []) (r := 42) rfl (g.lt ad42) (g.tg ad42) (Nat.le_of_ble_eq_true rfl)) (jOk_le (by decide) (t288 g (by omega) (by omega) (ew0) (by omega) (by omega))) (by decide) (by decide) (fun w76128 h76128 q76128 => ?_)
      obtain ⟨v76129, rfl, g76128, kk76128, lv76129, uv76129, X76128⟩ := q76128
      have k76128 := k0.tr kk76128 (by decide)
      show jEv _ _ _ _ _ _ _ (_, [(2, 42), (0, a1), (0, a2), (0, a3)], [(0, v76129)], _, _, _)
      exact ev_ret rfl (by decide) (by decide) ⟨_, rfl, g76128, k76128, by omega, by omega, by unfold cnF; rw [if_pos (by omega)]; exact X76128⟩
set_option maxHeartbeats 4000000 in
theorem t290 {G : GH} {h : JH} (g : Gd G h) {a1 : Int} (la1 : (-2147483648) ≤ a1) (ua1 : a1 ≤ 2147483647) {a2 : Int} (la2 : (-2147483648) ≤ a2) (ua2 : a2 ≤ 2147483647) {w0 : Int} (ew0 : h.2.2 42 31 = w0) (lw0 : 0 ≤ w0) (uw0 : w0 ≤ 6) {w1 : Int} (ew1 : h.2.2 42 28 = w1) (lw1 : 0 ≤ w1) (uw1 : w1 ≤ 20) : jOk 4 0 0 290 [(2, 42), (0, a1), (0, a2)] h (fun v h' => ∃ r : Int, v = some (0, r) ∧ Gd G h' ∧ Kp [] h h' ∧ (-2147483648) ≤ r ∧ r ≤ 2147483647 ∧ CnR h a1 a2 w0 r) := by
  refine ⟨by decide, by rw [ml290]; exact Nat.le_of_ble_eq_true rfl, ?_⟩
  rw [ml290, pp290]
  show jEv _ none _ c290_0 0 0 _ (c290_0, [(2, 42), (0, a1), (0, a2)], [], h, 0, 0)
  have k0 := Kp.rf [] h
  refine ev_aload_n rfl ?_
  refine ev_iload_n rfl ?_
  refine ev_in (d := 2) (a := 0) (b := 0) (cd' := c284_0) (m := 2) (L0 := [(2, 42), (0, a1)]) (jcall_v (A := [(0, a1)]) (S' := []) (r := 42) rfl (g.lt ad42) (g.tg ad42) (Nat.le_of_ble_eq_true rfl)) (by decide) ml284 pp284 (Nat.le_of_ble_eq_true rfl) rfl (by decide) (by decide) ?_
  refine ev_iload_n rfl ?_
  refine ev_iconst ?_
  refine ev_aload_n rfl ?_
  refine g_getv (r := 42) (v := w1) g ad42 (by decide) ft12_28 (ew1) ?_
  refine ev_iconst ?_
  refine ev_isub (r := (w1 - 1)) (by unfold w32; omega) ?_
  refine ev_in (d := 1) (a := 0) (b := 0) (cd' := c242_0) (m := 3) (L0 := [(0, a1), (0, 0), (0, (w1 - 1))]) (jcall_s (A := [(0, (w1 - 1)), (0, 0), (0, a1)]) (S' := []) (by decide) rfl (Nat.le_of_ble_eq_true rfl)) (by decide) ml242 pp242 (Nat.le_of_ble_eq_true rfl) rfl (by decide) (by decide) ?_
  refine ev_iload_n rfl ?_
  refine ev_iload_n rfl ?_
  refine ev_icmplt f242_14 (fun c76158 => ?_) (fun c76158 => ?_)
  · refine ev_iconst ?_
    refine ev_ret rfl (by decide) (by decide) ?_
    show jEv _ _ _ _ _ _ _ (_, [(2, 42), (0, a1)], [(0, 0)], _, _, _)
    refine ev_ret rfl (by decide) (by decide) ?_
    show jEv _ _ _ _ _ _ _ (_, [(2, 42), (0, a1), (0, a2)], [(0, 0)], _, _, _)
    refine ev_ifeq f290_41 (fun c76159 => ?_) (fun c76159 => absurd c76159 (by omega))
    refine ev_ldc_w ?_
    exact ev_ret rfl (by decide) (by decide) ⟨_, rfl, g, k0, by omega, by omega, Or.inl ⟨by unfold CV; rw [ew1]; omega, rfl⟩⟩
  · refine ev_iload_n rfl ?_
    refine ev_iload_n rfl ?_
    refine ev_icmpgt f242_14 (fun c76160 => ?_) (fun c76160 => ?_)
    · refine ev_iconst ?_
      refine ev_ret rfl (by decide) (by decide) ?_
      show jEv _ _ _ _ _ _ _ (_, [(2, 42), (0, a1)], [(0, 0)], _, _, _)
      refine ev_ret rfl (by decide) (by decide) ?_
      show jEv _ _ _ _ _ _ _ (_, [(2, 42), (0, a1), (0, a2)], [(0, 0)], _, _, _)
      refine ev_ifeq f290_41 (fun c76161 => ?_) (fun c76161 => absurd c76161 (by omega))
      refine ev_ldc_w ?_
      exact ev_ret rfl (by decide) (by decide) ⟨_, rfl, g, k0, by omega, by omega, Or.inl ⟨by unfold CV; rw [ew1]; omega, rfl⟩⟩
    · refine ev_iconst ?_
      refine ev_goto f242_15 ?_
      refine ev_ret rfl (by decide) (by decide) ?_
      show jEv _ _ _ _ _ _ _ (_, [(2, 42), (0, a1)], [(0, 1)], _, _, _)
      refine ev_ret rfl (by decide) (by decide) ?_
      show jEv _ _ _ _ _ _ _ (_, [(2, 42), (0, a1), (0, a2)], [(0, 1)], _, _, _)
      refine ev_ifeq f290_41 (fun c76162 => absurd c76162 (by omega)) (fun c76162 => ?_)
      refine ev_iload_n rfl ?_
      refine ev_sipush ?_
      refine ev_sipush ?_
      refine ev_in (d := 2) (a := 0) (b := 0) (cd' := c242_0) (m := 3) (L0 := [(0, a2), (0, (-9999)), (0, 9999)]) (jcall_s (A := [(0, 9999), (0, (-9999)), (0, a2)]) (S' := []) (by decide) rfl (Nat.le_of_ble_eq_true rfl)) (by decide) ml242 pp242 (Nat.le_of_ble_eq_true rfl) rfl (by decide) (by decide) ?_
      refine ev_iload_n rfl ?_
      refine ev_iload_n rfl ?_
      refine ev_icmplt f242_14 (fun c76163 => ?_) (fun c76163 => ?_)
      · refine ev_iconst ?_
        refine ev_ret rfl (by decide) (by decide) ?_
        show jEv _ _ _ _ _ _ _ (_, [(2, 42), (0, a1), (0, a2)], [(0, 0)], _, _, _)
        refine ev_ifeq f290_41 (fun c76164 => ?_) (fun c76164 => absurd c76164 (by omega))
        refine ev_ldc_w ?_
        exact ev_ret rfl (by decide) (by decide) ⟨_, rfl, g, k0, by omega, by omega, Or.inl ⟨by unfold CV; rw [ew1]; omega, rfl⟩⟩
      · refine ev_iload_n rfl ?_
        refine ev_iload_n rfl ?_
        refine ev_icmpgt f242_14 (fun c76165 => ?_) (fun c76165 => ?_)
        · refine ev_iconst ?_
          refine ev_ret rfl (by decide) (by decide) ?_
          show jEv _ _ _ _ _ _ _ (_, [(2, 42), (0, a1), (0, a2)], [(0, 0)], _, _, _)
          refine ev_ifeq f290_41 (fun c76166 => ?_) (fun c76166 => absurd c76166 (by omega))
          refine ev_ldc_w ?_
          exact ev_ret rfl (by decide) (by decide) ⟨_, rfl, g, k0, by omega, by omega, Or.inl ⟨by unfold CV; rw [ew1]; omega, rfl⟩⟩
        · refine ev_iconst ?_
          refine ev_goto f242_15 ?_
          refine ev_ret rfl (by decide) (by decide) ?_
          show jEv _ _ _ _ _ _ _ (_, [(2, 42), (0, a1), (0, a2)], [(0, 1)], _, _, _)
          refine ev_ifeq f290_41 (fun c76167 => absurd c76167 (by omega)) (fun c76167 => ?_)
          refine ev_aload_n rfl ?_
          refine ev_aload_n rfl ?_
          refine g_getp (r := 42) (c := 60) g ad42 (by decide) (by decide) rf42_29 ft12_29 ?_
          refine ev_iload_n rfl ?_
          refine g_iald g ad60 rt60 (by omega) (by omega) (fun v76168 ev76168 lv76168 uv76168 => ?_)
          refine ev_aload_n rfl ?_
          refine g_getp (r := 42) (c := 61) g ad42 (by decide) (by decide) rf42_30 ft12_30 ?_
          refine ev_iload_n rfl ?_
          refine g_iald g ad61 rt61 (by omega) (by omega) (fun v76169 ev76169 lv76169 uv76169 => ?_)
          refine ev_iload_n rfl ?_
          refine ev_call (jcall_v (A := [(0, a2), (0, v76169), (0, v76168)]) (S' := []) (r := 42) rfl (g.lt ad42) (g.tg ad42) (Nat.le_of_ble_eq_true rfl)) (jOk_le (by decide) (t289 g (by omega) (by omega) (by omega) (by omega) (by omega) (by omega) (ew0) (by omega) (by omega))) (by decide) (by decide) (fun w76170 h76170 q76170 => ?_)
          obtain ⟨v76171, rfl, g76170, kk76170, lv76171, uv76171, X76170⟩ := q76170
          have k76170 := k0.tr kk76170 (by decide)
          show jEv _ _ _ _ _ _ _ (_, [(2, 42), (0, a1), (0, a2)], [(0, v76171)], _, _, _)
          refine ev_goto f290_44 ?_
          exact ev_ret rfl (by decide) (by decide) ⟨_, rfl, g76170, k76170, by omega, by omega, Or.inr ⟨by unfold CV; rw [ew1]; omega, by rw [ev76168, ev76169]; exact X76170⟩⟩
theorem jn11 : jN 11 = 17 := by decide +kernel
theorem jn12 : jN 12 = 66 := by decide +kernel
theorem ml384 : jML jnM = 4 := by decide +kernel
theorem pp384 : jP jnM = c384_0 := rfl
set_option maxRecDepth 100000 in
theorem jlawN : jchkN jnM = true := jchkNF_ok (by decide +kernel)
set_option maxRecDepth 100000 in
theorem f384_18 : jfind c384_0 18 = some c384_18 := rfl
set_option maxRecDepth 100000 in
theorem f384_260 : jfind c384_0 260 = some c384_260 := rfl
set_option maxRecDepth 100000 in
theorem f384_283 : jfind c384_0 283 = some c384_283 := rfl
set_option maxRecDepth 100000 in
theorem f384_316 : jfind c384_0 316 = some c384_316 := rfl
set_option maxRecDepth 100000 in
theorem f384_369 : jfind c384_0 369 = some c384_369 := rfl
set_option maxRecDepth 100000 in
theorem f384_382 : jfind c384_0 382 = some c384_382 := rfl
set_option maxRecDepth 100000 in
theorem f384_405 : jfind c384_0 405 = some c384_405 := rfl
set_option maxRecDepth 100000 in
theorem f384_448 : jfind c384_0 448 = some c384_448 := rfl
set_option maxRecDepth 100000 in
theorem f384_481 : jfind c384_0 481 = some c384_481 := rfl
set_option maxRecDepth 100000 in
theorem f384_494 : jfind c384_0 494 = some c384_494 := rfl
set_option maxRecDepth 100000 in
theorem f384_537 : jfind c384_0 537 = some c384_537 := rfl
set_option maxRecDepth 100000 in
theorem f384_590 : jfind c384_0 590 = some c384_590 := rfl
set_option maxRecDepth 100000 in
theorem f384_603 : jfind c384_0 603 = some c384_603 := rfl
set_option maxRecDepth 100000 in
theorem f384_616 : jfind c384_0 616 = some c384_616 := rfl
set_option maxRecDepth 100000 in
theorem f384_649 : jfind c384_0 649 = some c384_649 := rfl
set_option maxRecDepth 100000 in
theorem f384_682 : jfind c384_0 682 = some c384_682 := rfl
set_option maxRecDepth 100000 in
theorem f384_715 : jfind c384_0 715 = some c384_715 := rfl
set_option maxRecDepth 100000 in
theorem f384_758 : jfind c384_0 758 = some c384_758 := rfl
set_option maxRecDepth 100000 in
theorem f384_801 : jfind c384_0 801 = some c384_801 := rfl
set_option maxRecDepth 100000 in
theorem f384_844 : jfind c384_0 844 = some c384_844 := rfl
set_option maxRecDepth 100000 in
theorem f384_877 : jfind c384_0 877 = some c384_877 := rfl
set_option maxRecDepth 100000 in
theorem f384_930 : jfind c384_0 930 = some c384_930 := rfl
set_option maxRecDepth 100000 in
theorem f384_963 : jfind c384_0 963 = some c384_963 := rfl
set_option maxRecDepth 100000 in
theorem f384_1006 : jfind c384_0 1006 = some c384_1006 := rfl
set_option maxRecDepth 100000 in
theorem f384_1059 : jfind c384_0 1059 = some c384_1059 := rfl
set_option maxRecDepth 100000 in
theorem f384_1082 : jfind c384_0 1082 = some c384_1082 := rfl
set_option maxRecDepth 100000 in
theorem f384_1125 : jfind c384_0 1125 = some c384_1125 := rfl
set_option maxRecDepth 100000 in
theorem f384_1178 : jfind c384_0 1178 = some c384_1178 := rfl
set_option maxRecDepth 100000 in
theorem f384_1201 : jfind c384_0 1201 = some c384_1201 := rfl
set_option maxRecDepth 100000 in
theorem f384_1254 : jfind c384_0 1254 = some c384_1254 := rfl
set_option maxRecDepth 100000 in
theorem f384_1307 : jfind c384_0 1307 = some c384_1307 := rfl
set_option maxRecDepth 100000 in
theorem f384_1340 : jfind c384_0 1340 = some c384_1340 := rfl
set_option maxRecDepth 100000 in
theorem f384_1383 : jfind c384_0 1383 = some c384_1383 := rfl
set_option maxRecDepth 100000 in
theorem f384_1406 : jfind c384_0 1406 = some c384_1406 := rfl
set_option maxRecDepth 100000 in
theorem f384_1429 : jfind c384_0 1429 = some c384_1429 := rfl
set_option maxRecDepth 100000 in
theorem f384_1452 : jfind c384_0 1452 = some c384_1452 := rfl
set_option maxRecDepth 100000 in
theorem f384_1495 : jfind c384_0 1495 = some c384_1495 := rfl
set_option maxRecDepth 100000 in
theorem f384_1518 : jfind c384_0 1518 = some c384_1518 := rfl
set_option maxRecDepth 100000 in
theorem f384_1551 : jfind c384_0 1551 = some c384_1551 := rfl
set_option maxRecDepth 100000 in
theorem f384_1564 : jfind c384_0 1564 = some c384_1564 := rfl
set_option maxRecDepth 100000 in
theorem f384_1597 : jfind c384_0 1597 = some c384_1597 := rfl
set_option maxRecDepth 100000 in
theorem f384_1630 : jfind c384_0 1630 = some c384_1630 := rfl
set_option maxRecDepth 100000 in
theorem f384_1683 : jfind c384_0 1683 = some c384_1683 := rfl
set_option maxRecDepth 100000 in
theorem f384_1726 : jfind c384_0 1726 = some c384_1726 := rfl
set_option maxRecDepth 100000 in
theorem f384_1769 : jfind c384_0 1769 = some c384_1769 := rfl
set_option maxRecDepth 100000 in
theorem f384_1812 : jfind c384_0 1812 = some c384_1812 := rfl
set_option maxRecDepth 100000 in
theorem f384_1855 : jfind c384_0 1855 = some c384_1855 := rfl
set_option maxRecDepth 100000 in
theorem f384_1878 : jfind c384_0 1878 = some c384_1878 := rfl
set_option maxRecDepth 100000 in
theorem f384_1911 : jfind c384_0 1911 = some c384_1911 := rfl
set_option maxRecDepth 100000 in
theorem f384_1954 : jfind c384_0 1954 = some c384_1954 := rfl
set_option maxRecDepth 100000 in
theorem f384_2027 : jfind c384_0 2027 = some c384_2027 := rfl
set_option maxRecDepth 100000 in
theorem f384_2060 : jfind c384_0 2060 = some c384_2060 := rfl
set_option maxRecDepth 100000 in
theorem f384_2123 : jfind c384_0 2123 = some c384_2123 := rfl
set_option maxRecDepth 100000 in
theorem f384_2156 : jfind c384_0 2156 = some c384_2156 := rfl
set_option maxRecDepth 100000 in
theorem f384_2179 : jfind c384_0 2179 = some c384_2179 := rfl
set_option maxRecDepth 100000 in
theorem f384_2185 : jfind c384_0 2185 = some c384_2185 := rfl

