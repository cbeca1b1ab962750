/-! STATES OF THE THINGS; WHAT A SEARCH HAS SEEN -/
theorem Tr.kp {W : List (Nat × Nat)} {h h' : JH} {q N n e : Nat} {S : List Nat} (x : Tr h q N n e S) (k : Kp W h h') (c1 : inW W 42 1 = false) (c2 : ∀ i, inW W 43 i = false) (c3 : ∀ i, inW W 49 i = false) (c4 : ∀ i, inW W 50 i = false) (c5 : ∀ i, inW W 51 i = false) (c6 : ∀ i, inW W 53 i = false) : Tr h' q N n e S :=
  Tr.fr (by rw [k.v c1]; exact Int.le_refl _) (fun t _ => k.v (c2 t)) x (fun i _ _ => k.v (c3 i)) (fun i _ _ _ => k.v (c4 i)) (fun i _ _ => k.v (c5 i)) (fun i _ _ _ a b => by rw [k.v (c6 i)]; exact ⟨a, b⟩)
/-- nothing is known but of the things turned above, and no plan is followed -/
def Cpl (h : JH) (S : List Nat) : Prop := h.2.2 42 39 = 0 ∧ ∀ t : Nat, t < 4 → t ∉ S → h.2.2 64 t = -1
def Bok (h : JH) (q m : Nat) : Prop := h.2.2 49 (100 * q + m) = 1 → h.2.2 65 m < h.2.2 50 (100 * q + m)
def Vis (h h' : JH) (q a b : Nat) (P : Prop) : Prop := (∀ t, h'.2.2 64 t = h.2.2 64 t) ∧ (∀ m, (m < a ∨ b ≤ m) → h'.2.2 65 m = h.2.2 65 m) ∧ (P → ∀ m, a ≤ m → m < b → Bok h' q m)
def Kids (h : JH) (q N n e : Nat) (S : List Nat) (k : Nat) (c : Nat → Nat) : Prop := c 0 = n + 1 ∧ c k = e ∧ ∀ w, w < k → h.2.2 51 (4 * (100 * q + n) + w) = (c w : Int) ∧ c w < c (w + 1) ∧ Tr h q N (c w) (c (w + 1)) S
theorem Tr.choice {h : JH} {q N n e : Nat} {S : List Nat} (x : Tr h q N n e S) (hk : h.2.2 49 (100 * q + n) = 1) : ∃ (N' k : Nat) (c : Nat → Nat), h.2.2 50 (100 * q + n) = (k : Int) ∧ 1 ≤ k ∧ Kids h q N' n e S k c := by
  cases N with
  | zero => exact x.elim
  | succ N =>
    rcases x with ⟨k0, _⟩ | ⟨_, k, c, hv, k1, _, _, c0, ck, hc⟩ | ⟨k0, _⟩
    · rw [k0] at hk; exact absurd hk (by decide)
    · exact ⟨N, k, c, hv, k1, c0, ck, hc⟩
    · rw [k0] at hk; exact absurd hk (by decide)
theorem Tr.turn {h : JH} {q N n e : Nat} {S : List Nat} (x : Tr h q N n e S) (hk : h.2.2 49 (100 * q + n) = 2) : ∃ (N' t k : Nat) (c : Nat → Nat), h.2.2 50 (100 * q + n) = (t : Int) ∧ (t : Int) < h.2.2 42 1 ∧ t ∉ S ∧ h.2.2 43 t = (k : Int) ∧ Kids h q N' n e (t :: S) k c := by
  cases N with
  | zero => exact x.elim
  | succ N =>
    rcases x with ⟨k0, _⟩ | ⟨k0, _⟩ | ⟨_, t, k, c, hv, ht, hS, hw, k1, c0, ck, hc⟩
    · rw [k0] at hk; exact absurd hk (by decide)
    · rw [k0] at hk; exact absurd hk (by decide)
    · exact ⟨N, t, k, c, hv, ht, hS, hw, c0, ck, hc⟩
abbrev WB : List (Nat × Nat) := [(64, 0), (65, 0)]
theorem Bok.kp {h h' : JH} {q m : Nat} (k : Kp WB h h') (e : h'.2.2 65 m = h.2.2 65 m) (x : Bok h q m) : Bok h' q m := by
  unfold Bok at x ⊢
  rw [k.v rfl, k.v (a := 50) rfl, e]
  exact x
/-- a choice of which so many ways are seen -/
def VC (h h1 : JH) (q n e : Nat) (S : List Nat) (w : Int) : Prop := ∃ (N k : Nat) (c : Nat → Nat), h.2.2 50 (100 * q + n) = (k : Int) ∧ 1 ≤ k ∧ Kids h q N n e S k c ∧ 0 ≤ w ∧ w ≤ (k : Int) ∧ (∀ t, h1.2.2 64 t = h.2.2 64 t) ∧ (∀ m, (m < n ∨ c w.toNat ≤ m) → h1.2.2 65 m = h.2.2 65 m) ∧ (Cpl h S → ∀ m, n < m → m < c w.toNat → Bok h1 q m) ∧ (1 ≤ w → Bok h1 q n)
theorem VC.start {h : JH} {q n : Int} {N e : Nat} {S : List Nat} (tr : Tr h q.toNat N n.toNat e S) (q0 : 0 ≤ q) (n0 : 0 ≤ n) {i : Int} (hi : i = 100 * q + n) (hk : h.2.2 49 i.toNat = 1) : VC h h q.toNat n.toNat e S 0 := by
  rw [show i.toNat = 100 * q.toNat + n.toNat by omega] at hk
  obtain ⟨N', k, c, hv, k1, hK⟩ := tr.choice hk
  refine ⟨N', k, c, hv, k1, hK, by omega, by omega, fun _ => rfl, fun _ _ => rfl, fun _ m m1 m2 => ?_, fun z => by omega⟩
  rw [show (0 : Int).toNat = 0 from rfl, hK.1] at m2
  omega
theorem Vis.sub {h h' : JH} {q a b a' b' : Nat} {P : Prop} (x : Vis h h' q a b P) (h1 : a' ≤ a) (h2 : b ≤ b') (h3 : P → False) : Vis h h' q a' b' P := ⟨x.1, fun m hm => x.2.1 m (by omega), fun p => (h3 p).elim⟩
theorem Tr.planned {h : JH} {q n : Int} {N e : Nat} {S : List Nat} (tr : Tr h q.toNat N n.toNat e S) (q0 : 0 ≤ q) (n0 : 0 ≤ n) {i p v j ch : Int} (hi : i = 100 * q + n) (hk : h.2.2 49 i.toNat = 1) (hv : h.2.2 50 i.toNat = v) (p0 : 0 ≤ p) (p1 : p < v) (hj : j = 4 * i + p) (hc : h.2.2 51 j.toNat = ch) (hb : h.2.2 42 39 ≠ 0) : ∃ (N' e' : Nat), Tr h q.toNat N' ch.toNat e' S ∧ ∀ h2, Vis h h2 q.toNat ch.toNat e' (Cpl h S) → Vis h h2 q.toNat n.toNat e (Cpl h S) := by
  rw [show i.toNat = 100 * q.toNat + n.toNat by omega] at hk hv
  rw [show j.toNat = 4 * (100 * q.toNat + n.toNat) + p.toNat by omega] at hc
  obtain ⟨N', k, c, hv2, k1, hK⟩ := tr.choice hk
  obtain ⟨c0, ck, hw⟩ := hK
  obtain ⟨a1, a2, a3⟩ := hw p.toNat (by omega)
  have b1 := chain_le (fun w hh => (hw w hh).2.1) p.toNat (by omega)
  have b2 := chain_to (fun w hh => (hw w hh).2.1) (p.toNat + 1) (by omega)
  have ec : ch.toNat = c p.toNat := by omega
  rw [ec]
  exact ⟨N', _, a3, fun h2 x => x.sub (by omega) (by omega) (fun z => hb z.1)⟩
theorem VC.child {h h1 : JH} {q n w : Int} {e : Nat} {S : List Nat} (x : VC h h1 q.toNat n.toNat e S w) (k1 : Kp WB h h1) (q0 : 0 ≤ q) (n0 : 0 ≤ n) {i v j ch : Int} (hi : i = 100 * q + n) (hv : h1.2.2 50 i.toNat = v) (hw : w < v) (hj : j = 4 * i + w) (hc : h1.2.2 51 j.toNat = ch) : ∃ (N' e' : Nat), Tr h1 q.toNat N' ch.toNat e' S ∧ ∀ h2, Kp WB h1 h2 → Vis h1 h2 q.toNat ch.toNat e' (Cpl h1 S) → (1 ≤ w → VC h h2 q.toNat n.toNat e S (w + 1)) ∧ ∀ h3, h3 = jwr h2 65 n.toNat w → VC h h3 q.toNat n.toNat e S (w + 1) := by
  obtain ⟨N, k, c, x1, x2, x3, x4, x5, x6, x7, x8, x9⟩ := x
  obtain ⟨c0, ck, hh⟩ := x3
  rw [show i.toNat = 100 * q.toNat + n.toNat by omega] at hv
  rw [show j.toNat = 4 * (100 * q.toNat + n.toNat) + w.toNat by omega] at hc
  rw [k1.v rfl] at hv
  rw [k1.v rfl] at hc
  obtain ⟨a1, a2, a3⟩ := hh w.toNat (by omega)
  have b1 := chain_le (fun w hw => (hh w hw).2.1) w.toNat (by omega)
  have ec : ch.toNat = c w.toNat := by omega
  rw [ec]
  refine ⟨N, _, a3.kp k1 rfl (fun _ => rfl) (fun _ => rfl) (fun _ => rfl) (fun _ => rfl) (fun _ => rfl), fun h2 kk vs => ?_⟩
  have ew : (w + 1).toNat = w.toNat + 1 := by omega
  have cp : Cpl h S → Cpl h1 S := fun z => ⟨by rw [k1.v rfl]; exact z.1, fun t t1 t2 => by rw [x6]; exact z.2 t t1 t2⟩
  obtain ⟨v1, v2, v3⟩ := vs
  have base : (∀ t, h2.2.2 64 t = h.2.2 64 t) ∧ (∀ m, (m < n.toNat ∨ c (w + 1).toNat ≤ m) → h2.2.2 65 m = h.2.2 65 m) ∧ (Cpl h S → ∀ m, n.toNat < m → m < c (w + 1).toNat → Bok h2 q.toNat m) := by
    refine ⟨fun t => by rw [v1, x6], fun m hm => ?_, fun z m m1 m2 => ?_⟩
    · rw [ew] at hm
      rw [v2 m (by omega), x7 m (by omega)]
    · rw [ew] at m2
      rcases Nat.lt_or_ge m (c w.toNat) with y | y
      · exact (x8 z m m1 y).kp kk (v2 m (by omega))
      · exact v3 (cp z) m y m2
  refine ⟨fun w1 => ⟨N, k, c, x1, x2, ⟨c0, ck, hh⟩, by omega, by omega, base.1, base.2.1, base.2.2, fun _ => (x9 w1).kp kk (v2 _ (by omega))⟩, fun h3 e3 => ?_⟩
  have f3 : ∀ m, m ≠ n.toNat → h3.2.2 65 m = h2.2.2 65 m := fun m hm => jw_ne e3 (by omega)
  have g3 : ∀ a m, a ≠ 65 → h3.2.2 a m = h2.2.2 a m := fun a m hm => jw_ne e3 (by omega)
  refine ⟨N, k, c, x1, x2, ⟨c0, ck, hh⟩, by omega, by omega, fun t => by rw [g3 64 t (by decide)]; exact base.1 t, fun m hm => ?_, fun z m m1 m2 => ?_, fun _ => ?_⟩
  · have hm2 := hm
    rw [ew] at hm2
    rw [f3 m (by omega)]
    exact base.2.1 m hm
  · have := base.2.2 z m m1 m2
    unfold Bok at this ⊢
    rw [f3 m (by omega), g3 49 _ (by decide), g3 50 _ (by decide)]
    exact this
  · unfold Bok
    rw [jw_eq e3, g3 50 _ (by decide), kk.v (a := 50) rfl, k1.v (a := 50) rfl]
    intro _
    omega
theorem VC.fin {h h1 : JH} {q n w : Int} {e : Nat} {S : List Nat} (x : VC h h1 q.toNat n.toNat e S w) (k1 : Kp WB h h1) (q0 : 0 ≤ q) (n0 : 0 ≤ n) {i v : Int} (hi : i = 100 * q + n) (hv : h1.2.2 50 i.toNat = v) (hw : v ≤ w) : Vis h h1 q.toNat n.toNat e (Cpl h S) := by
  obtain ⟨N, k, c, x1, x2, x3, x4, x5, x6, x7, x8, x9⟩ := x
  rw [show i.toNat = 100 * q.toNat + n.toNat by omega, k1.v rfl] at hv
  have ew : w.toNat = k := by omega
  rw [ew, x3.2.1] at x7 x8
  refine ⟨x6, x7, fun z m m1 m2 => ?_⟩
  rcases Nat.lt_or_ge n.toNat m with y | y
  · exact x8 z m y m2
  · rw [show m = n.toNat by omega]
    exact x9 (by omega)
theorem Vis.none {h h' : JH} {q n : Int} {N e : Nat} {S : List Nat} (tr : Tr h q.toNat N n.toNat e S) (q0 : 0 ≤ q) (n0 : 0 ≤ n) {i : Int} (hi : i = 100 * q + n) (hk : h.2.2 49 i.toNat = 0) (k : Kp [] h h') : Vis h h' q.toNat n.toNat e (Cpl h S) := by
  rw [show i.toNat = 100 * q.toNat + n.toNat by omega] at hk
  refine ⟨fun t => k.v rfl, fun m _ => k.v rfl, fun _ m m1 m2 => ?_⟩
  have he : e = n.toNat + 1 := by
    cases N with
    | zero => exact tr.elim
    | succ N =>
      rcases tr with ⟨_, z⟩ | ⟨k0, _⟩ | ⟨k0, _⟩
      · exact z
      · rw [k0] at hk; exact absurd hk (by decide)
      · rw [k0] at hk; exact absurd hk (by decide)
  rw [show m = n.toNat by omega]
  intro z
  rw [k.v rfl, hk] at z
  exact absurd z (by decide)
/-- a turn of which so many ways are seen -/
def VT (h h1 : JH) (q n e : Nat) (S : List Nat) (t w was : Int) : Prop := ∃ (N k : Nat) (c : Nat → Nat), 0 ≤ t ∧ t < 4 ∧ t.toNat ∉ S ∧ h.2.2 49 (100 * q + n) = 2 ∧ h.2.2 43 t.toNat = (k : Int) ∧ Kids h q N n e (t.toNat :: S) k c ∧ 0 ≤ w ∧ w ≤ (k : Int) ∧ h.2.2 64 t.toNat = was ∧ (∀ t', t' ≠ t.toNat → h1.2.2 64 t' = h.2.2 64 t') ∧ (∀ m, (m ≤ n ∨ c w.toNat ≤ m) → h1.2.2 65 m = h.2.2 65 m) ∧ (Cpl h S → ∀ m, n < m → m < c w.toNat → Bok h1 q m)
theorem VT.start {h : JH} {q n : Int} {N e : Nat} {S : List Nat} (tr : Tr h q.toNat N n.toNat e S) (q0 : 0 ≤ q) (n0 : 0 ≤ n) {i t was : Int} (hi : i = 100 * q + n) (hk : h.2.2 49 i.toNat = 2) (hv : h.2.2 50 i.toNat = t) (h4 : h.2.2 42 1 ≤ 4) (hw : h.2.2 64 t.toNat = was) : VT h h q.toNat n.toNat e S t 0 was := by
  rw [show i.toNat = 100 * q.toNat + n.toNat by omega] at hk hv
  obtain ⟨N', t', k, c, y1, y2, y3, y4, hK⟩ := tr.turn hk
  have et : t.toNat = t' := by omega
  refine ⟨N', k, c, by omega, by omega, by rw [et]; exact y3, hk, by rw [et]; exact y4, by rw [et]; exact hK, by omega, by omega, hw, fun _ _ => rfl, fun _ _ => rfl, fun _ m m1 m2 => ?_⟩
  rw [show (0 : Int).toNat = 0 from rfl, hK.1] at m2
  omega
theorem VT.skip {h h1 : JH} {q n e : Nat} {S : List Nat} {t w was v : Int} (x : VT h h1 q n e S t w was) (k1 : Kp WB h h1) (hv : h1.2.2 43 t.toNat = v) (hw : w < v) (h0 : 0 ≤ was) : VT h h1 q n e S t (w + 1) was := by
  obtain ⟨N, k, c, x1, x2, x3, x4, x5, x6, x7, x8, x9, y1, y2, y3⟩ := x
  rw [k1.v rfl] at hv
  have ew : (w + 1).toNat = w.toNat + 1 := by omega
  have b := (x6.2.2 w.toNat (by omega)).2.1
  refine ⟨N, k, c, x1, x2, x3, x4, x5, x6, by omega, by omega, x9, y1, fun m hm => ?_, fun z m m1 m2 => ?_⟩
  · rw [ew] at hm
    exact y2 m (by omega)
  · have := z.2 t.toNat (by omega) x3
    omega
theorem VT.child {h h1 hA : JH} {q n t w was : Int} {e : Nat} {S : List Nat} (x : VT h h1 q.toNat n.toNat e S t w was) (eA : hA = jwr h1 64 t.toNat w) (kA : Kp WB h hA) (q0 : 0 ≤ q) (n0 : 0 ≤ n) {i v j ch : Int} (hi : i = 100 * q + n) (hv : hA.2.2 43 t.toNat = v) (hw : w < v) (hj : j = 4 * i + w) (hc : hA.2.2 51 j.toNat = ch) : ∃ (N' e' : Nat), Tr hA q.toNat N' ch.toNat e' (t.toNat :: S) ∧ ∀ h2, Kp WB hA h2 → Vis hA h2 q.toNat ch.toNat e' (Cpl hA (t.toNat :: S)) → VT h h2 q.toNat n.toNat e S t (w + 1) was := by
  obtain ⟨N, k, c, x1, x2, x3, x4, x5, x6, x7, x8, x9, y1, y2, y3⟩ := x
  obtain ⟨c0, ck, hh⟩ := x6
  rw [kA.v rfl] at hv
  rw [show j.toNat = 4 * (100 * q.toNat + n.toNat) + w.toNat by omega, kA.v rfl] at hc
  obtain ⟨a1, a2, a3⟩ := hh w.toNat (by omega)
  have b1 := chain_le (fun w hw => (hh w hw).2.1) w.toNat (by omega)
  have ec : ch.toNat = c w.toNat := by omega
  rw [ec]
  refine ⟨N, _, a3.kp kA rfl (fun _ => rfl) (fun _ => rfl) (fun _ => rfl) (fun _ => rfl) (fun _ => rfl), fun h2 kk vs => ?_⟩
  have ew : (w + 1).toNat = w.toNat + 1 := by omega
  have gA : ∀ a m, a ≠ 64 → hA.2.2 a m = h1.2.2 a m := fun a m hm => jw_ne eA (by omega)
  have fA : ∀ t', t' ≠ t.toNat → hA.2.2 64 t' = h.2.2 64 t' := fun t' ht => by rw [jw_ne eA (by omega), y1 t' ht]
  have cp : Cpl h S → Cpl hA (t.toNat :: S) := fun z => ⟨by rw [kA.v rfl]; exact z.1, fun t' t1 t2 => by
    simp only [List.mem_cons, not_or] at t2
    rw [fA t' t2.1]
    exact z.2 t' t1 t2.2⟩
  obtain ⟨v1, v2, v3⟩ := vs
  refine ⟨N, k, c, x1, x2, x3, x4, x5, ⟨c0, ck, hh⟩, by omega, by omega, x9, fun t' ht => by rw [v1, fA t' ht], fun m hm => ?_, fun z m m1 m2 => ?_⟩
  · rw [ew] at hm
    rw [v2 m (by omega), gA 65 m (by decide), y2 m (by omega)]
  · rw [ew] at m2
    rcases Nat.lt_or_ge m (c w.toNat) with y | y
    · have := y3 z m m1 y
      have bA : Bok hA q.toNat m := by
        unfold Bok at this ⊢
        rw [gA 49 _ (by decide), gA 50 _ (by decide), gA 65 _ (by decide)]
        exact this
      exact bA.kp kk (v2 m (by omega))
    · exact v3 (cp z) m y m2
theorem VT.fin {h h1 h2 : JH} {q n e : Nat} {S : List Nat} {t w was v : Int} (x : VT h h1 q n e S t w was) (k1 : Kp WB h h1) (hv : h1.2.2 43 t.toNat = v) (hw : v ≤ w) (e2 : h2 = jwr h1 64 t.toNat was) : Vis h h2 q n e (Cpl h S) := by
  obtain ⟨N, k, c, x1, x2, x3, x4, x5, x6, x7, x8, x9, y1, y2, y3⟩ := x
  rw [k1.v rfl] at hv
  have ew : w.toNat = k := by omega
  rw [ew, x6.2.1] at y2 y3
  have g2 : ∀ a m, a ≠ 64 → h2.2.2 a m = h1.2.2 a m := fun a m hm => jw_ne e2 (by omega)
  refine ⟨fun t' => ?_, fun m hm => by rw [g2 65 m (by decide)]; exact y2 m (by omega), fun z m m1 m2 => ?_⟩
  · rcases Decidable.em (t' = t.toNat) with r | r
    · rw [r, jw_eq e2, x9]
    · rw [jw_ne e2 (by omega)]
      exact y1 t' r
  · rcases Nat.lt_or_ge n m with y | y
    · have := y3 z m y m2
      unfold Bok at this ⊢
      rw [g2 49 _ (by decide), g2 50 _ (by decide), g2 65 _ (by decide)]
      exact this
    · rw [show m = n by omega]
      intro r
      rw [g2 49 _ (by decide), k1.v rfl, x4] at r
      exact absurd r (by decide)
theorem Gd.n48 {G : GH} {h : JH} {q v : Int} (g : Gd G h) (q0 : 0 ≤ q) (q1 : q < h.2.2 42 9) (e : h.2.2 48 q.toNat = v) : 1 ≤ v := by
  have := (g.ex.2.2.2.1 q.toNat (by omega)).lt
  omega
