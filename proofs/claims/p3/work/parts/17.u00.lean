/-! READING A TEXT -/
/-- the bytes from p on below r were eaten at level l -/
def Ad (h : JH) (l p r : Int) : Prop := p ≤ r ∧ ∀ i : Nat, p ≤ (i : Int) → (i : Int) < r → h.2.2 54 i ≠ 59 ∧ ¬ (65 + l ≤ h.2.2 54 i ∧ h.2.2 54 i ≤ 70)
/-- a capital ahead of the next ';' from p on is below l -/
def Lv (h : JH) (l p : Int) : Prop := ∀ i : Nat, p ≤ (i : Int) → (∀ j : Nat, p ≤ (j : Int) → j < i → h.2.2 54 j ≠ 59) → 65 ≤ h.2.2 54 i → h.2.2 54 i < 65 + h.2.2 42 19 → h.2.2 54 i < 65 + l
/-- each capital's text names smaller ones alone -/
def Iv (h : JH) : Prop := ∀ c : Nat, (c : Int) < h.2.2 42 19 → ∀ i : Nat, h.2.2 55 c ≤ (i : Int) → (∀ j : Nat, h.2.2 55 c ≤ (j : Int) → j < i → h.2.2 54 j ≠ 59) → 65 ≤ h.2.2 54 i → h.2.2 54 i ≤ 70 → h.2.2 54 i < 65 + (c : Int)
theorem Ad.rf (h : JH) (l p : Int) : Ad h l p p := ⟨Int.le_refl _, fun i h1 h2 => by omega⟩
theorem Ad.step {W : List (Nat × Nat)} {h h1 : JH} {l p r r' v : Int} (x : Ad h l p r) (r0 : 0 ≤ r) (k : Kp W h h1) (c : ∀ i, inW W 54 i = false) (e : h1.2.2 54 r.toNat = v) (v1 : v ≠ 59) (v2 : ¬ (65 + l ≤ v ∧ v ≤ 70)) (hr : r' = r + 1) : Ad h l p r' := by
  rw [k.v (c _)] at e
  refine ⟨by have := x.1; omega, fun i h1 h2 => ?_⟩
  rcases Decidable.em ((i : Int) = r) with z | z
  · rw [show i = r.toNat by omega, e]
    exact ⟨v1, v2⟩
  · exact x.2 i h1 (by omega)
theorem Ad.tr {W : List (Nat × Nat)} {h h1 : JH} {l p r s : Int} (x : Ad h l p r) (k : Kp W h h1) (c : ∀ i, inW W 54 i = false) (y : Ad h1 l r s) : Ad h l p s := by
  refine ⟨by have := x.1; have := y.1; omega, fun i h1 h2 => ?_⟩
  rcases Int.lt_or_le (i : Int) r with z | z
  · exact x.2 i h1 z
  · have := y.2 i z h2
    rw [k.v (c _)] at this
    exact this
theorem Lv.at {W : List (Nat × Nat)} {h h1 : JH} {l p r : Int} (x : Lv h l p) (a : Ad h l p r) (k : Kp W h h1) (c : ∀ i, inW W 54 i = false) (c2 : inW W 42 19 = false) : Lv h1 l r := fun i i1 i2 i3 i4 => by
  rw [k.v (c _)] at i3 i4 ⊢
  rw [k.v c2] at i4
  refine x i (by have := a.1; omega) (fun j j1 j2 => ?_) i3 i4
  rcases Int.lt_or_le (j : Int) r with z | z
  · exact (a.2 j j1 z).1
  · have := i2 j z j2
    rw [k.v (c _)] at this
    exact this
theorem Lv.top {h : JH} {l : Int} (p : Int) (e : h.2.2 42 19 = l) : Lv h l p := fun i _ _ _ i4 => by rw [e] at i4; exact i4
theorem Lv.cap {h : JH} {l p v c : Int} (x : Lv h l p) (p0 : 0 ≤ p) (e : h.2.2 54 p.toNat = v) (ec : h.2.2 42 19 = c) (v1 : 65 ≤ v) (v2 : v < 65 + c) : v < 65 + l := by
  have := x p.toNat (by omega) (fun j j1 j2 => by omega)
  rw [e, ec] at this
  exact this v1 v2
theorem Iv.kp {W : List (Nat × Nat)} {h h1 : JH} (x : Iv h) (k : Kp W h h1) (c : ∀ i, inW W 54 i = false) (c1 : ∀ i, inW W 55 i = false) (c2 : inW W 42 19 = false) : Iv h1 := fun c' hc i i1 i2 i3 i4 => by
  rw [k.v c2] at hc
  rw [k.v (c1 _)] at i1
  rw [k.v (c _)] at i3 i4 ⊢
  refine x c' hc i i1 (fun j j1 j2 => ?_) i3 i4
  have := i2 j (by rw [k.v (c1 _)]; exact j1) j2
  rw [k.v (c _)] at this
  exact this
theorem Iv.lv {h : JH} {c b a : Int} (x : Iv h) (c0 : 0 ≤ c) (ea : h.2.2 42 19 = a) (c1 : c < a) (a6 : a ≤ 6) (e : h.2.2 55 c.toNat = b) : Lv h c b := fun i i1 i2 i3 i4 => by
  have := x c.toNat (by omega) i (by rw [e]; exact i1) (by rw [e]; exact i2) i3 (by omega)
  omega
theorem Iv.zero {h : JH} (e : h.2.2 42 19 = 0) : Iv h := fun c hc => by omega
theorem Iv.next {h h1 h2 : JH} {c b r c' : Int} (x : Iv h) (ec : h.2.2 42 19 = c) (c0 : 0 ≤ c) (a : Ad h c b r) (b0 : 0 ≤ b) (er : h.2.2 54 r.toNat = 59) (e1 : h1 = jwr h 55 c.toNat b) (e2 : h2 = jwr h1 42 19 c') (hc : c' = c + 1) : Iv h2 := fun d hd i i1 i2 i3 i4 => by
  have f54 : ∀ j, h2.2.2 54 j = h.2.2 54 j := fun j => by rw [jw_ne e2 (Or.inl (by decide)), jw_ne e1 (Or.inl (by decide))]
  have f55 : ∀ j, j ≠ c.toNat → h2.2.2 55 j = h.2.2 55 j := fun j hj => by rw [jw_ne e2 (Or.inl (by decide)), jw_ne e1 (Or.inr hj)]
  have g55 : h2.2.2 55 c.toNat = b := by rw [jw_ne e2 (Or.inl (by decide)), jw_eq e1]
  rw [jw_eq e2] at hd
  rw [f54] at i3 i4 ⊢
  rcases Decidable.em (d = c.toNat) with z | z
  · subst z
    rw [g55] at i1 i2
    have n1 : (i : Int) ≤ r := Int.not_lt.mp (fun w => by
      have := i2 r.toNat (by have := a.1; omega) (by have := a.1; omega)
      rw [f54] at this
      exact this er)
    rcases Decidable.em ((i : Int) = r) with y | y
    · rw [show i = r.toNat by omega, er] at i3
      omega
    · have := (a.2 i i1 (by omega)).2
      omega
  · rw [f55 d z] at i1 i2
    exact x d (by omega) i i1 (fun j j1 j2 => by have := i2 j j1 j2; rw [f54] at this; exact this) i3 i4
/-- so many nodes at most -/
def nb : Nat → Int
  | 0 => 0
  | n + 1 => 1 + 4 * nb n
theorem nb_pos : ∀ n, 0 ≤ nb n := by
  intro n
  induction n with
  | zero => exact Int.le_refl _
  | succ n ih => show 0 ≤ 1 + 4 * nb n; omega
def NB (k : Int) : Int := nb (13 - k).toNat
theorem NB.split {k b : Int} (e : NB k = b) (k1 : k ≤ 11) : ∃ b1, NB (k + 1) = b1 ∧ b = 1 + 4 * b1 ∧ 1 ≤ b1 := by
  refine ⟨_, rfl, ?_, ?_⟩
  · rw [← e]
    unfold NB
    rw [show (13 - k).toNat = (13 - (k + 1)).toNat + 1 by omega]
    rfl
  · unfold NB
    rw [show (13 - (k + 1)).toNat = (12 - (k + 1)).toNat + 1 by omega]
    have := nb_pos (12 - (k + 1)).toNat
    show 1 ≤ 1 + 4 * nb _
    omega
def Mb (m0 b w m : Int) : Prop := 4 * (m - m0 - 1) ≤ w * (b - 1)
theorem Mb.start (m0 b : Int) {m : Int} (e : m = m0 + 1) : Mb m0 b 0 m := by unfold Mb; rw [Int.zero_mul]; omega
theorem Mb.room {m0 b w m b1 : Int} (x : Mb m0 b w m) (hw : w ≤ 3) (e : b = 1 + 4 * b1) (b0 : 1 ≤ b1) : m ≤ m0 + 1 + 3 * b1 := by
  unfold Mb at x
  have : w * (b - 1) ≤ 3 * (b - 1) := Int.mul_le_mul_of_nonneg_right hw (by omega)
  omega
theorem Mb.step {m0 b w m b1 m' w' : Int} (x : Mb m0 b w m) (e : b = 1 + 4 * b1) (h : m' ≤ m + b1) (hw : w' = w + 1) : Mb m0 b w' m' := by
  unfold Mb at x ⊢
  rw [hw, Int.add_mul, Int.one_mul]
  omega
theorem Mb.fin {m0 b w m b1 : Int} (x : Mb m0 b w m) (hw : w ≤ 4) (e : b = 1 + 4 * b1) (b0 : 1 ≤ b1) : m ≤ m0 + b := by
  unfold Mb at x
  have : w * (b - 1) ≤ 4 * (b - 1) := Int.mul_le_mul_of_nonneg_right hw (by omega)
  omega
/-- the nodes below z stay -/
def Fr (h h' : JH) (z : Int) : Prop := (∀ i : Nat, (i : Int) < z → h'.2.2 49 i = h.2.2 49 i ∧ h'.2.2 50 i = h.2.2 50 i ∧ h'.2.2 53 i = h.2.2 53 i) ∧ ∀ i : Nat, (i : Int) < 4 * z → h'.2.2 51 i = h.2.2 51 i
theorem Fr.rf (h : JH) (z : Int) : Fr h h z := ⟨fun _ _ => ⟨rfl, rfl, rfl⟩, fun _ _ => rfl⟩
theorem Fr.tr {h h1 h2 : JH} {z z' : Int} (x : Fr h h1 z) (y : Fr h1 h2 z') (hz : z ≤ z') : Fr h h2 z := ⟨fun i hi => by
  obtain ⟨a, b, c⟩ := x.1 i hi
  obtain ⟨a', b', c'⟩ := y.1 i (by omega)
  exact ⟨a'.trans a, b'.trans b, c'.trans c⟩, fun i hi => (y.2 i (by omega)).trans (x.2 i hi)⟩
theorem Fr.w {h h1 h2 : JH} {z : Int} {a : Nat} {i v : Int} (x : Fr h h1 z) (e : h2 = jwr h1 a i.toNat v) (hi : (a = 51 ∧ 4 * z ≤ i) ∨ (a ≠ 51 ∧ z ≤ i)) (z0 : 0 ≤ z) : Fr h h2 z := x.tr (z' := z) ⟨fun j hj => ⟨jw_ne e (by omega), jw_ne e (by omega), jw_ne e (by omega)⟩, fun j hj => jw_ne e (by omega)⟩ (Int.le_refl _)
theorem Fr.kp {W : List (Nat × Nat)} {h h1 h2 : JH} {z : Int} (x : Fr h h1 z) (k : Kp W h1 h2) (c1 : ∀ i, inW W 49 i = false) (c2 : ∀ i, inW W 50 i = false) (c3 : ∀ i, inW W 51 i = false) (c4 : ∀ i, inW W 53 i = false) : Fr h h2 z := x.tr (z' := z) ⟨fun j _ => ⟨k.v (c1 _), k.v (c2 _), k.v (c4 _)⟩, fun j _ => k.v (c3 _)⟩ (Int.le_refl _)
/-- the things of S are turned -/
def Sk (tu : Int) (S : List Nat) : Prop := ∀ t : Nat, t ∈ S → t < 4 ∧ jand (jshr tu (t : Int)) 1 = 1
theorem Sk.nil (tu : Int) : Sk tu [] := fun t ht => by cases ht
theorem Sk.not {tu t s b : Int} {S : List Nat} (x : Sk tu S) (t0 : 0 ≤ t) (e1 : jshr tu t = s) (e2 : jand s 1 = b) (hb : b ≠ 1) : t.toNat ∉ S := fun m => by
  have := (x t.toNat m).2
  rw [show ((t.toNat : Nat) : Int) = t by omega, e1, e2] at this
  exact hb this
def skOk (tu t u : Nat) : Bool := (decide (u ≠ t) && !(jand (jshr (tu : Int) (u : Int)) 1 == 1)) || jand (jshr (jor (tu : Int) (jshl 1 (t : Int))) (u : Int)) 1 == 1
set_option maxRecDepth 100000 in
theorem sk_all : (List.range 16).all (fun tu => (List.range 4).all (fun t => (List.range 4).all (fun u => skOk tu t u))) = true := by decide +kernel
theorem Sk.cons {tu t s tu' : Int} {S : List Nat} (x : Sk tu S) (u0 : 0 ≤ tu) (u1 : tu ≤ 15) (t0 : 0 ≤ t) (t1 : t ≤ 3) (e1 : jshl 1 t = s) (e2 : jor tu s = tu') : Sk tu' (t.toNat :: S) := fun u hu => by
  have u4 : u < 4 := by
    rcases List.mem_cons.mp hu with z | z
    · omega
    · exact (x u z).1
  have a1 := List.all_eq_true.mp sk_all tu.toNat (List.mem_range.mpr (by omega))
  have a2 := List.all_eq_true.mp a1 t.toNat (List.mem_range.mpr (by omega))
  have a3 := List.all_eq_true.mp a2 u (List.mem_range.mpr u4)
  unfold skOk at a3
  rw [show ((tu.toNat : Nat) : Int) = tu by omega, show ((t.toNat : Nat) : Int) = t by omega, e1, e2] at a3
  simp only [Bool.or_eq_true, Bool.and_eq_true, Bool.not_eq_true', beq_iff_eq, decide_eq_true_eq, beq_eq_false_iff_ne] at a3
  refine ⟨u4, ?_⟩
  rcases a3 with ⟨n1, n2⟩ | a3
  · rcases List.mem_cons.mp hu with z | z
    · exact absurd z n1
    · exact absurd (x u z).2 n2
  · exact a3
/-- so many ways of a node are led to their trees -/
def Ch (h : JH) (q n N : Nat) (S : List Nat) (w m : Int) : Prop := ∃ c : Nat → Nat, c 0 = n + 1 ∧ (c w.toNat : Int) = m ∧ ∀ j, j < w.toNat → h.2.2 51 (4 * (100 * q + n) + j) = (c j : Int) ∧ c j < c (j + 1) ∧ Tr h q N (c j) (c (j + 1)) S
def PC (h : JH) (q n N : Nat) (S : List Nat) (kd v w m : Int) : Prop := m ≤ 100 → h.2.2 49 (100 * q + n) = kd ∧ (kd = 2 → h.2.2 50 (100 * q + n) = v) ∧ h.2.2 53 (100 * q + n) = 0 ∧ Ch h q n N S w m
theorem PC.start {h : JH} {q n m i kd v : Int} {N : Nat} {S : List Nat} (q0 : 0 ≤ q) (n0 : 0 ≤ n) (hi : i = 100 * q + n) (e1 : h.2.2 49 i.toNat = kd) (e2 : kd = 2 → h.2.2 50 i.toNat = v) (e3 : h.2.2 53 i.toNat = 0) (hm : m = n + 1) : PC h q.toNat n.toNat N S kd v 0 m := fun _ => by
  rw [show i.toNat = 100 * q.toNat + n.toNat by omega] at e1 e2 e3
  refine ⟨e1, e2, e3, fun _ => n.toNat + 1, rfl, by show ((n.toNat + 1 : Nat) : Int) = m; omega, fun j hj => ?_⟩
  rw [show (0 : Int).toNat = 0 from rfl] at hj
  omega
theorem PC.over {h : JH} {q n N : Nat} {S : List Nat} {kd v w m : Int} (hm : 100 < m) : PC h q n N S kd v w m := fun z => by omega
theorem PC.step {W W' : List (Nat × Nat)} {h1 h2 h3 h4 : JH} {q n w m m' i j kd v w' : Int} {N : Nat} {S : List Nat} (x : PC h1 q.toNat n.toNat N S kd v w m) (q0 : 0 ≤ q) (n0 : 0 ≤ n) (w0 : 0 ≤ w) (nm : n < m) (hi : i = 100 * q + n) (hj : j = 4 * i + w) (w3 : w ≤ 3) (e : h2 = jwr h1 51 j.toNat m) (k : Kp W h2 h3) (c1 : ∀ i, inW W 49 i = false) (c2 : ∀ i, inW W 50 i = false) (c3 : ∀ i, inW W 51 i = false) (c4 : ∀ i, inW W 53 i = false) (c5 : inW W 42 1 = false) (c6 : ∀ i, inW W 43 i = false) (kk : Kp W' h3 h4) (d5 : inW W' 42 1 = false) (d6 : ∀ i, inW W' 43 i = false) (fr : Fr h3 h4 (100 * q + m)) (mm : m ≤ m') (tr : m' ≤ 100 → Tr h4 q.toNat N m.toNat m'.toNat S) (hw : w' = w + 1) : PC h4 q.toNat n.toNat N S kd v w' m' := fun z => by
  obtain ⟨x1, x2, x3, c, y1, y2, y3⟩ := x (by omega)
  have F : ∀ a b : Nat, (a = 49 ∨ a = 50 ∨ a = 53) → (b : Int) < 100 * q + m → h4.2.2 a b = h1.2.2 a b := fun a b ha hb => by
    have f1 : h4.2.2 a b = h3.2.2 a b := by
      obtain ⟨f1, f2, f3⟩ := fr.1 b hb
      rcases ha with r | r | r <;> subst r
      · exact f1
      · exact f2
      · exact f3
    have f2 : h3.2.2 a b = h2.2.2 a b := by
      rcases ha with r | r | r <;> subst r
      · exact k.v (c1 _)
      · exact k.v (c2 _)
      · exact k.v (c4 _)
    rw [f1, f2, jw_ne e (by omega)]
  have F51 : ∀ b : Nat, (b : Int) < 4 * (100 * q + m) → b ≠ j.toNat → h4.2.2 51 b = h1.2.2 51 b := fun b hb hne => by
    rw [fr.2 b hb, k.v (c3 _), jw_ne e (Or.inr hne)]
  have G51 : h4.2.2 51 j.toNat = m := by rw [fr.2 _ (by omega), k.v (c3 _), jw_eq e]
  have g1 : h4.2.2 42 1 = h1.2.2 42 1 := by rw [kk.v d5, k.v c5, jw_ne e (by omega)]
  have g2 : ∀ t, h4.2.2 43 t = h1.2.2 43 t := fun t => by rw [kk.v (d6 t), k.v (c6 t), jw_ne e (by omega)]
  have ch : ∀ u, u < w.toNat → c u < c (u + 1) := fun u hu => (y3 u hu).2.1
  refine ⟨by rw [F 49 _ (by omega) (by omega)]; exact x1, fun r => by rw [F 50 _ (by omega) (by omega)]; exact x2 r, by rw [F 53 _ (by omega) (by omega)]; exact x3, fun u => if u ≤ w.toNat then c u else m'.toNat, ?_, ?_, fun u hu => ?_⟩
  · show (if 0 ≤ w.toNat then c 0 else m'.toNat) = _
    rw [if_pos (Nat.zero_le _)]
    exact y1
  · show ((if w'.toNat ≤ w.toNat then c w'.toNat else m'.toNat : Nat) : Int) = m'
    rw [if_neg (by omega)]
    omega
  · have b0 : u ≤ w.toNat := by omega
    show h4.2.2 51 _ = ((if u ≤ w.toNat then c u else m'.toNat : Nat) : Int) ∧ (if u ≤ w.toNat then c u else m'.toNat) < (if u + 1 ≤ w.toNat then c (u + 1) else m'.toNat) ∧ Tr h4 q.toNat N (if u ≤ w.toNat then c u else m'.toNat) (if u + 1 ≤ w.toNat then c (u + 1) else m'.toNat) S
    rw [if_pos b0]
    rcases Nat.lt_or_ge u w.toNat with r | r
    · rw [if_pos (show u + 1 ≤ w.toNat by omega)]
      obtain ⟨z1, z2, z3⟩ := y3 u r
      have l1 := chain_le ch u (by omega)
      have l2 := chain_to ch (u + 1) (by omega)
      refine ⟨by rw [F51 _ (by omega) (by omega)]; exact z1, z2, z3.fr (by rw [g1]; exact Int.le_refl _) (fun t _ => g2 t) (fun b b1 b2 => F 49 b (by omega) (by omega)) (fun b b1 b2 _ => F 50 b (by omega) (by omega)) (fun b b1 b2 => F51 b (by omega) (by omega)) (fun b b1 b2 _ p1 p2 => by rw [F 53 b (by omega) (by omega)]; exact ⟨p1, p2⟩)⟩
    · rw [if_neg (show ¬ u + 1 ≤ w.toNat by omega)]
      have t1 := tr z
      have lt := t1.lt
      have cu : c u = m.toNat := by rw [show u = w.toNat by omega]; omega
      rw [cu]
      refine ⟨?_, lt, t1⟩
      rw [show 4 * (100 * q.toNat + n.toNat) + u = j.toNat by omega, G51]
      omega
/-- the ways are written: a choice stands -/
theorem PC.choice {h h' : JH} {q n w m i v : Int} {N K : Nat} {S : List Nat} (x : PC h q.toNat n.toNat N S 1 v w m) (q0 : 0 ≤ q) (n0 : 0 ≤ n) (w1 : 1 ≤ w) (w4 : w ≤ 4) (hi : i = 100 * q + n) (e : h' = jwr h 50 i.toNat w) (hK : K = N + 1) (hm : m ≤ 100) : Tr h' q.toNat K n.toNat m.toNat S := by
  obtain ⟨x1, x2, x3, c, y1, y2, y3⟩ := x hm
  subst hK
  have ei : i.toNat = 100 * q.toNat + n.toNat := by omega
  rw [ei] at e
  have ch : ∀ u, u < w.toNat → c u < c (u + 1) := fun u hu => (y3 u hu).2.1
  refine Or.inr (Or.inl ⟨by rw [jw_ne e (Or.inl (by decide))]; exact x1, w.toNat, c, by rw [jw_eq e]; omega, by omega, by omega, by rw [jw_ne e (Or.inl (by decide)), x3]; omega, y1, by omega, fun u hu => ?_⟩)
  obtain ⟨z1, z2, z3⟩ := y3 u hu
  have l1 := chain_le ch u (by omega)
  refine ⟨by rw [jw_ne e (Or.inl (by decide))]; exact z1, z2, z3.fr (by rw [jw_ne e (Or.inl (by decide))]; exact Int.le_refl _) (fun t _ => jw_ne e (Or.inl (by decide))) (fun b b1 b2 => jw_ne e (Or.inl (by decide))) (fun b b1 b2 _ => jw_ne e (Or.inr (by omega))) (fun b b1 b2 => jw_ne e (Or.inl (by decide))) (fun b b1 b2 _ p1 p2 => by rw [jw_ne e (Or.inl (by decide))]; exact ⟨p1, p2⟩)⟩
/-- all ways are led: a turn stands -/
theorem PC.turn {h : JH} {q n w m t k c : Int} {N K : Nat} {S : List Nat} (x : PC h q.toNat n.toNat N (t.toNat :: S) 2 t w m) (t0 : 0 ≤ t) (ec : h.2.2 42 1 = c) (tc : t < c) (hS : t.toNat ∉ S) (ek : h.2.2 43 t.toNat = k) (k2 : 2 ≤ k) (hw : w = k) (hK : K = N + 1) (hm : m ≤ 100) : Tr h q.toNat K n.toNat m.toNat S := by
  obtain ⟨x1, x2, x3, c', y1, y2, y3⟩ := x hm
  subst hK
  refine Or.inr (Or.inr ⟨x1, t.toNat, k.toNat, c', by rw [x2 rfl]; omega, by omega, hS, by rw [ek]; omega, by omega, y1, by rw [← hw]; omega, fun u hu => y3 u (by rw [hw]; exact hu)⟩)
theorem Tr.end {h : JH} {q n i m : Int} {K : Nat} {S : List Nat} (q0 : 0 ≤ q) (n0 : 0 ≤ n) (hi : i = 100 * q + n) (e : h.2.2 49 i.toNat = 0) (hK : 1 ≤ K) (hm : m = n + 1) : Tr h q.toNat K n.toNat m.toNat S := by
  rw [show i.toNat = 100 * q.toNat + n.toNat by omega] at e
  cases K with
  | zero => omega
  | succ K => exact Or.inl ⟨e, by omega⟩
/-- what a reading has made -/
def RI (h h' : JH) (q m k b : Int) (S : List Nat) (r : Int) : Prop := ∃ m' : Int, h'.2.2 42 21 = m' ∧ m ≤ m' ∧ m' ≤ m + b ∧ Fr h h' (100 * q + m) ∧ (0 ≤ r → m + 1 ≤ m') ∧ (0 ≤ r → m' ≤ 100 → Tr h' q.toNat (13 - k).toNat m.toNat m'.toNat S)
def RO (h' : JH) (m b : Int) (r : Int) : Prop := ∃ m' : Int, h'.2.2 42 21 = m' ∧ m ≤ m' ∧ m' ≤ m + b ∧ (0 ≤ r → m + 1 ≤ m')
/-- the first tree of a text -/
def RA (h' : JH) (q : Int) (r : Int) : Prop := ∃ m' : Int, h'.2.2 42 21 = m' ∧ 0 ≤ m' ∧ (0 ≤ r → 1 ≤ m' ∧ (m' ≤ 100 → Tr h' q.toNat 13 0 m'.toNat []))
theorem Ad.kp {W : List (Nat × Nat)} {h h1 : JH} {l p r : Int} (x : Ad h l p r) (k : Kp W h h1) (c : ∀ i, inW W 54 i = false) : Ad h1 l p r := ⟨x.1, fun i i1 i2 => by rw [k.v (c _)]; exact x.2 i i1 i2⟩
theorem Tr.at0 {h : JH} {q : Nat} {y m : Int} (t : Tr h q (13 - (0 : Int)).toNat y.toNat m.toNat []) (hy : y = 0) : Tr h q 13 0 m.toNat [] := by
  subst hy
  exact t
theorem Gd.newq {G : GH} {h h' : JH} {c v m : Int} (g : Gd G h) (e : h' = jwr h 42 9 v) (hc : h.2.2 42 9 = c) (hv : v = c + 1) (b2 : v ≤ 6) (e48 : h.2.2 48 c.toNat = m) (tr : Tr h c.toNat 13 0 m.toNat []) : Gd G h' := g.quarrels e hc hv b2 (by rw [e48]; exact tr)
