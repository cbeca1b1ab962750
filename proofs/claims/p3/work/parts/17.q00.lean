/-! a tree's node; what was seen of a whole tree -/
theorem Tr.sub {h : JH} {q : Nat} : ∀ {N n e : Nat} {S : List Nat}, Tr h q N n e S → ∀ m, n ≤ m → m < e → ∃ (N' e' : Nat) (S' : List Nat), Tr h q N' m e' S' := by
  intro N
  induction N with
  | zero => intro n e S x; exact x.elim
  | succ N ih =>
    intro n e S x m m1 m2
    rcases Nat.lt_or_ge n m with z | z
    · rcases x with ⟨k0, x⟩ | ⟨k0, k, c, hv, k1, k4, hp, c0, ck, hc⟩ | ⟨k0, t, k, c, hv, ht, hS, hw, k1, c0, ck, hc⟩
      · omega
      · obtain ⟨w, w1, w2, w3⟩ := chain_at (c := c) (k := k) (m := m) (by omega) (by omega)
        exact ih (hc w w1).2.2 m w2 w3
      · obtain ⟨w, w1, w2, w3⟩ := chain_at (c := c) (k := k) (m := m) (by omega) (by omega)
        exact ih (hc w w1).2.2 m w2 w3
    · rw [show m = n by omega]
      exact ⟨_, _, _, x⟩
theorem Gd.tr {G : GH} {h : JH} {q n : Int} (g : Gd G h) (q0 : 0 ≤ q) (q1 : q < h.2.2 42 9) (n0 : 0 ≤ n) (n1 : n < h.2.2 48 q.toNat) : ∃ (N' e' : Nat) (S' : List Nat), Tr h q.toNat N' n.toNat e' S' :=
  (g.ex.2.2.2.1 q.toNat (by omega)).sub n.toNat (by omega) (by omega)
theorem Cpl.mk {h : JH} {b : Int} (e39 : h.2.2 42 39 = b) (hb : b = 0) (e0 : h.2.2 64 0 = -1) (e1 : h.2.2 64 1 = -1) (e2 : h.2.2 64 2 = -1) (e3 : h.2.2 64 3 = -1) : Cpl h [] := ⟨e39.trans hb, fun t ht _ => by
  rcases (show t = 0 ∨ t = 1 ∨ t = 2 ∨ t = 3 by omega) with r | r | r | r <;> subst r
  · exact e0
  · exact e1
  · exact e2
  · exact e3⟩
theorem Vis.all {h1 h2 : JH} {q e m : Nat} {w : Int} {P : Prop} (x : Vis h1 h2 q 0 e P) (p : P) (he : (e : Int) = w) (hm : (m : Int) < w) : Bok h2 q m := x.2.2 p m (Nat.zero_le _) (by omega)
theorem Bok.kg {W : List (Nat × Nat)} {h h' : JH} {q m : Nat} (x : Bok h q m) (k : Kp W h h') (c1 : ∀ i, inW W 49 i = false) (c2 : ∀ i, inW W 50 i = false) (c3 : ∀ i, inW W 65 i = false) : Bok h' q m := by
  unfold Bok at x ⊢
  rw [k.v (c1 _), k.v (c2 _), k.v (c3 _)]
  exact x
theorem Bok.at {h : JH} {q n i y v : Int} (x : Bok h q.toNat n.toNat) (q0 : 0 ≤ q) (n0 : 0 ≤ n) (hi : i = 100 * q + n) (hk : h.2.2 49 i.toNat = 1) (hy : h.2.2 65 n.toNat = y) (hv : h.2.2 50 i.toNat = v) : y < v := by
  rw [show i.toNat = 100 * q.toNat + n.toNat by omega] at hk hv
  have := x hk
  rw [hy, hv] at this
  exact this
