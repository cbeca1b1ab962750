/-! PLANS KEPT BY WEIGHTS; RUNS; BITS STRUCK; FRACTIONS COMPARED -/
/-- the plans kept of the weights a .. v-1 are within their choices -/
def PB (h : JH) (q : Nat) (a v : Int) : Prop := ∀ u n : Nat, a ≤ (u : Int) → (u : Int) < v → n < 100 → (n : Int) < h.2.2 48 q → h.2.2 49 (100 * q + n) = 1 → h.2.2 66 (100 * (u - 1) + n) < h.2.2 50 (100 * q + n)
def PR (h : JH) (q : Nat) (v x : Int) : Prop := ∀ n : Nat, n < 100 → (n : Int) < x → h.2.2 49 (100 * q + n) = 1 → h.2.2 66 (100 * (v.toNat - 1) + n) < h.2.2 50 (100 * q + n)
theorem PB.start (h : JH) (q : Nat) (a : Int) : PB h q a a := fun u n h1 h2 => by omega
theorem PR.start (h : JH) (q : Nat) (v : Int) : PR h q v 0 := fun n h1 h2 => by omega
theorem PB.kp {W : List (Nat × Nat)} {h h' : JH} {q : Nat} {a v : Int} (x : PB h q a v) (k : Kp W h h') (c1 : ∀ i, inW W 48 i = false) (c2 : ∀ i, inW W 49 i = false) (c3 : ∀ i, inW W 50 i = false) (c4 : ∀ i, inW W 66 i = false) : PB h' q a v := fun u n h1 h2 h3 h4 h5 => by
  rw [k.v (c1 _)] at h4
  rw [k.v (c2 _)] at h5
  rw [k.v (c3 _), k.v (c4 _)]
  exact x u n h1 h2 h3 h4 h5
theorem PB.wr {h h' : JH} {q : Nat} {a v i y : Int} (x : PB h q a v) (e : h' = jwr h 66 i.toNat y) (a1 : 1 ≤ a) (hi : 100 * (v - 1) ≤ i) : PB h' q a v := fun u n h1 h2 h3 h4 h5 => by
  rw [jw_ne e (Or.inl (by decide))] at h4
  rw [jw_ne e (Or.inl (by decide))] at h5
  rw [jw_ne (k := 50) e (Or.inl (by decide)), jw_ne (k := 66) e (Or.inr (by omega))]
  exact x u n h1 h2 h3 h4 h5
theorem PB.wp {h h' : JH} {q i : Nat} {a v y : Int} (x : PB h q a v) (e : h' = jwr h 53 i y) : PB h' q a v := fun u n h1 h2 h3 h4 h5 => by
  rw [jw_ne e (Or.inl (by decide))] at h4
  rw [jw_ne e (Or.inl (by decide))] at h5
  rw [jw_ne (k := 50) e (Or.inl (by decide)), jw_ne (k := 66) e (Or.inl (by decide))]
  exact x u n h1 h2 h3 h4 h5
theorem PR.step {h h' : JH} {q : Nat} {v x y i : Int} (p : PR h q v x) (b : Bok h q x.toNat) (e65 : h.2.2 65 x.toNat = y) (x0 : 0 ≤ x) (v1 : 1 ≤ v) (hi : i = 100 * (v - 1) + x) (e : h' = jwr h 66 i.toNat y) : PR h' q v (x + 1) := fun n h1 h2 h3 => by
  rw [jw_ne e (Or.inl (by decide))] at h3
  rw [jw_ne (k := 50) e (Or.inl (by decide))]
  rcases Decidable.em ((n : Int) = x) with r | r
  · have en : n = x.toNat := by omega
    rw [show 100 * (v.toNat - 1) + n = i.toNat by omega, jw_eq e, ← e65, en]
    rw [en] at h3
    exact b h3
  · rw [jw_ne (k := 66) e (Or.inr (by omega))]
    exact p n h1 (by omega) h3
theorem PB.next {h : JH} {q : Nat} {a v x w : Int} (p : PB h q a v) (r : PR h q v x) (e : h.2.2 48 q = w) (hx : w ≤ x) : PB h q a (v + 1) := fun u n h1 h2 h3 h4 h5 => by
  rcases Decidable.em ((u : Int) = v) with z | z
  · have := r n h3 (by omega) h5
    rw [show v.toNat = u by omega] at this
    exact this
  · exact p u n h1 (by omega) h3 h4 h5
theorem PB.at {h : JH} {q b n i j w y v a c : Int} (x : PB h q.toNat a c) (q0 : 0 ≤ q) (n0 : 0 ≤ n) (a1 : 1 ≤ a) (h1 : a ≤ b) (h2 : b < c) (h3 : n < 100) (e48 : h.2.2 48 q.toNat = w) (h4 : n < w) (hi : i = 100 * q + n) (hk : h.2.2 49 i.toNat = 1) (hj : j = 100 * (b - 1) + n) (hy : h.2.2 66 j.toNat = y) (hv : h.2.2 50 i.toNat = v) : y < v := by
  rw [show i.toNat = 100 * q.toNat + n.toNat by omega] at hk hv
  rw [show j.toNat = 100 * (b.toNat - 1) + n.toNat by omega] at hy
  have := x b.toNat n.toNat (by omega) (by omega) (by omega) (by omega) hk
  rw [hy, hv] at this
  exact this
/-- the ways drawn of the things below u -/
def Pw (h : JH) (u : Int) : Prop := ∀ t : Nat, (t : Int) < u → h.2.2 77 t < h.2.2 43 t
theorem Pw.start (h : JH) : Pw h 0 := fun t ht => by omega
theorem Pw.step {h h' : JH} {u w k : Int} (x : Pw h u) (u0 : 0 ≤ u) (e : h' = jwr h 77 u.toNat w) (hk : h.2.2 43 u.toNat = k) (hw : w < k) : Pw h' (u + 1) := fun t ht => by
  rw [jw_ne (k := 43) e (Or.inl (by decide))]
  rcases Decidable.em (t = u.toNat) with r | r
  · rw [r, jw_eq e, hk]; exact hw
  · rw [jw_ne (k := 77) e (Or.inr r)]; exact x t (by omega)
theorem Pw.at {h : JH} {u t y k : Int} (x : Pw h u) (t0 : 0 ≤ t) (t1 : t < u) (ey : h.2.2 77 t.toNat = y) (ek : h.2.2 43 t.toNat = k) : y < k := by
  have := x t.toNat (by omega)
  omega
/-- a bit that is set goes -/
def boOk (x k : Nat) : Bool := jand (jshr (x : Int) (k : Int)) 1 == 0 || decide (jand (x : Int) (jxor (jshl 1 (k : Int)) (-1)) < (x : Int))
set_option maxRecDepth 100000 in
theorem bo_all : (List.range 16).all (fun x => (List.range 4).all (fun k => boOk x k)) = true := by decide +kernel
theorem bits_off {x k s b l n r : Int} (x0 : 0 ≤ x) (x1 : x ≤ 15) (k0 : 0 ≤ k) (k1 : k ≤ 3) (e1 : jshr x k = s) (e2 : jand s 1 = b) (hb : b ≠ 0) (e3 : jshl 1 k = l) (e4 : jxor l (-1) = n) (e5 : jand x n = r) : r < x := by
  have a1 := List.all_eq_true.mp bo_all x.toNat (List.mem_range.mpr (by omega))
  have a2 := List.all_eq_true.mp a1 k.toNat (List.mem_range.mpr (by omega))
  unfold boOk at a2
  rw [show ((x.toNat : Nat) : Int) = x by omega, show ((k.toNat : Nat) : Int) = k by omega, e1, e2, e3, e4, e5] at a2
  simp only [Bool.or_eq_true, beq_iff_eq, decide_eq_true_eq] at a2
  rcases a2 with a2 | a2
  · exact absurd a2 hb
  · exact a2
/-! fractions compared -/
theorem w64_add (z k : Int) : w64 (z + 18446744073709551616 * k) = w64 z := by unfold w64; omega
theorem w64_ex (z : Int) : ∃ k, w64 z = z + 18446744073709551616 * k := ⟨-((z + 9223372036854775808) / 18446744073709551616), by unfold w64; omega⟩
/-- p is a's rest by b, of b's sign -/
def Md (a b p : Int) : Prop := (0 < b → 0 ≤ p ∧ p < b) ∧ (b < 0 → b < p ∧ p ≤ 0) ∧ ∃ k, a = p + k * b
theorem w64_sub (a b q r : Int) (h : w64 r = w64 q) : w64 (a - w64 (r * b)) = w64 (a - q * b) := by
  obtain ⟨k1, e1⟩ := w64_ex r
  obtain ⟨k2, e2⟩ := w64_ex q
  obtain ⟨k3, e3⟩ := w64_ex (r * b)
  rw [e3]
  have er : r = q + 18446744073709551616 * (k2 - k1) := by omega
  have e4 : r * b = q * b + 18446744073709551616 * ((k2 - k1) * b) := by rw [er, Int.add_mul, Int.mul_assoc]
  rw [e4, show a - (q * b + 18446744073709551616 * ((k2 - k1) * b) + 18446744073709551616 * k3) = (a - q * b) + 18446744073709551616 * (-((k2 - k1) * b) - k3) by omega, w64_add]
theorem w64_w (z : Int) : w64 (w64 z) = w64 z := by
  obtain ⟨k, e⟩ := w64_ex z
  exact (congrArg w64 e).trans (w64_add z k)
theorem tm_sub (a b : Int) : a - a.tdiv b * b = a.tmod b := by
  have := Int.tdiv_mul_add_tmod a b
  omega
theorem jxorL_neg {x y : Int} (x0 : -9223372036854775808 ≤ x) (x1 : x ≤ 9223372036854775807) (y0 : -9223372036854775808 ≤ y) (y1 : y ≤ 9223372036854775807) : jxorL x y < 0 ↔ ¬ (x < 0 ↔ y < 0) := by
  unfold jxorL
  have e : (Int64.ofInt x ^^^ Int64.ofInt y).toInt = (BitVec.ofInt 64 x ^^^ BitVec.ofInt 64 y).toInt := rfl
  have m := BitVec.msb_xor (x := BitVec.ofInt 64 x) (y := BitVec.ofInt 64 y)
  rw [BitVec.msb_eq_toInt, BitVec.msb_eq_toInt, BitVec.msb_eq_toInt, BitVec.toInt_ofInt, BitVec.toInt_ofInt, ← jw64_bmod, ← jw64_bmod, jw64_id x0 (by omega), jw64_id y0 (by omega)] at m
  rw [e]
  by_cases hx : x < 0 <;> by_cases hy : y < 0 <;> simp [hx, hy] at m ⊢ <;> omega
set_option maxHeartbeats 4000000 in
theorem s378z {h : JH} {a b : Int} (a0 : -9223372036854775808 ≤ a) (a1 : a ≤ 9223372036854775807) (b0 : -9223372036854775808 ≤ b) (b1 : b ≤ 9223372036854775807) (hb : b ≠ 0) : jOk 1 0 0 378 [(1, a), (1, b)] h (fun v h' => ∃ r : Int, v = some (1, r) ∧ Md a b (w64 (a - w64 (r * b))) ∧ -9223372036854775808 ≤ r ∧ r ≤ 9223372036854775807 ∧ h' = h) := by
  refine ⟨by decide, by rw [ml378]; exact Nat.le_of_ble_eq_true rfl, ?_⟩
  rw [ml378, pp378]
  show jEv _ none _ c378_0 0 0 _ (c378_0, [(1, a), (9, 0), (1, b), (9, 0), (9, 0), (9, 0)], [], h, 0, 0)
  have tm := jtmod_abs a b hb
  have tq := Int.tdiv_mul_add_tmod a b
  have rq := jw64_in (a.tdiv b)
  have key : w64 (a - w64 (w64 (a.tdiv b) * b)) = a.tmod b := by
    rw [w64_sub a b (a.tdiv b) _ (w64_w _), tm_sub]
    exact jw64_id (by omega) (by omega)
  have wm : a = a.tmod b + a.tdiv b * b := by omega
  refine ev_lload_n rfl ?_
  refine ev_lload_n rfl ?_
  refine ev_ldiv (r := w64 (a.tdiv b)) hb rfl ?_
  refine ev_lstore (L' := [(1, a), (9, 0), (1, b), (9, 0), (1, w64 (a.tdiv b)), (9, 0)]) (Nat.le_of_ble_eq_true rfl) rfl ?_
  refine ev_lload_n rfl ?_
  refine ev_lload_n rfl ?_
  refine ev_lxor (r := jxorL a b) rfl ?_
  refine ev_lconst ?_
  refine ev_lcmp ?_
  have xs := jxorL_neg a0 a1 b0 b1
  refine ev_ifge f378_27 (fun c => ?_) (fun c => ?_)
  · have cb : 0 ≤ jxorL a b := jcmpL_ge c
    refine ev_lload rfl ?_
    refine ev_ret rfl (by decide) (by decide) ⟨_, rfl, ?_, rq.1, by omega, rfl⟩
    rw [key]
    have sg : a < 0 ↔ b < 0 := Decidable.not_not.mp (fun z => absurd (xs.mpr z) (by omega))
    exact ⟨fun z => ⟨tm.2.2.1 (by omega), by omega⟩, fun z => ⟨by omega, tm.2.2.2 (by omega)⟩, _, wm⟩
  · have cb : jxorL a b < 0 := jcmpL_geN c
    have sg := xs.mp cb
    refine ev_lload rfl ?_
    refine ev_lload_n rfl ?_
    refine ev_lmul (r := w64 (w64 (a.tdiv b) * b)) rfl ?_
    refine ev_lload_n rfl ?_
    refine ev_lcmp ?_
    refine ev_ifeq f378_27 (fun c2 => ?_) (fun c2 => ?_)
    · have e2 : w64 (w64 (a.tdiv b) * b) = a := jcmpL_eq c2
      refine ev_lload rfl ?_
      refine ev_ret rfl (by decide) (by decide) ⟨_, rfl, ?_, rq.1, by omega, rfl⟩
      rw [key]
      rw [e2, Int.sub_self] at key
      have z0 : a.tmod b = 0 := by rw [← key]; rfl
      rw [z0]
      exact ⟨fun z => ⟨by omega, by omega⟩, fun z => ⟨by omega, by omega⟩, a.tdiv b, by rw [z0] at wm; exact wm⟩
    · have e2 : w64 (w64 (a.tdiv b) * b) ≠ a := jcmpL_eqN c2
      refine ev_lload rfl ?_
      refine ev_lconst ?_
      refine ev_lsub (r := w64 (w64 (a.tdiv b) - 1)) rfl ?_
      have rr := jw64_in (w64 (a.tdiv b) - 1)
      refine ev_ret rfl (by decide) (by decide) ⟨_, rfl, ?_, rr.1, by omega, rfl⟩
      have n0 : a.tmod b ≠ 0 := fun z => by
        apply e2
        rw [z] at key
        have r2 := jw64_in (w64 (a.tdiv b) * b)
        unfold w64 at key r2 ⊢
        omega
      have e5 : w64 (w64 (w64 (a.tdiv b) - 1)) = w64 (a.tdiv b - 1) := by
        rw [w64_w]
        obtain ⟨k, e⟩ := w64_ex (a.tdiv b)
        rw [e, show a.tdiv b + 18446744073709551616 * k - 1 = (a.tdiv b - 1) + 18446744073709551616 * k by omega, w64_add]
      have e6 : a - (a.tdiv b - 1) * b = a.tmod b + b := by rw [Int.sub_mul, Int.one_mul]; omega
      rw [w64_sub a b (a.tdiv b - 1) _ e5, e6]
      have s1 : 0 < b → a.tmod b < 0 := fun z => by
        have := tm.2.2.2 (by omega)
        omega
      have s2 : b < 0 → 0 < a.tmod b := fun z => by
        have := tm.2.2.1 (by omega)
        omega
      rw [jw64_id (by omega) (by omega)]
      exact ⟨fun z => ⟨by omega, by have := s1 z; omega⟩, fun z => ⟨by have := s2 z; omega, by omega⟩, a.tdiv b - 1, by rw [Int.sub_mul, Int.one_mul]; omega⟩
theorem Md.half {a b p q : Int} (h1 : Md a b p) (h2 : Md b p q) (hb : b ≠ 0) (hp : p ≠ 0) : 2 * q.natAbs < b.natAbs := by
  obtain ⟨x1, x2, _⟩ := h1
  obtain ⟨y1, y2, k, e⟩ := h2
  rcases Int.lt_or_lt_of_ne hb with z | z
  · have p1 := x2 z
    have q1 := y2 (by omega)
    have k1 : 1 ≤ k := Int.not_lt.mp (fun w => by
      have : 0 ≤ k * p := Int.mul_nonneg_of_nonpos_of_nonpos (by omega) (by omega)
      omega)
    have k2 : k * p ≤ 1 * p := Int.mul_le_mul_of_nonpos_right k1 (by omega)
    omega
  · have p1 := x1 z
    have q1 := y1 (by omega)
    have k1 : 1 ≤ k := Int.not_lt.mp (fun w => by
      have : k * p ≤ 0 := Int.mul_nonpos_of_nonpos_of_nonneg (by omega) (by omega)
      omega)
    have k2 : 1 * p ≤ k * p := Int.mul_le_mul_of_nonneg_right k1 (by omega)
    omega
theorem Md.rng {a b p : Int} (m : Md a b p) (hb : b ≠ 0) (b0 : -9223372036854775808 ≤ b) (b1 : b ≤ 9223372036854775807) : -9223372036854775808 ≤ p ∧ p ≤ 9223372036854775807 := by
  obtain ⟨x1, x2, _⟩ := m
  rcases Int.lt_or_lt_of_ne hb with z | z
  · have := x2 z; omega
  · have := x1 z; omega
abbrev PZ (h : JH) : Option AV → JH → Prop := fun v h' => ∃ r : Int, v = some (0, r) ∧ 0 ≤ r ∧ r ≤ 1 ∧ h' = h
set_option maxHeartbeats 4000000 in
theorem less_s {h : JH} {D : Nat} {a b c d : Int} (hD : 1 ≤ D) (a0 : -9223372036854775808 ≤ a) (a1 : a ≤ 9223372036854775807) (b0 : -9223372036854775808 ≤ b) (b1 : b ≤ 9223372036854775807) (c0 : -9223372036854775808 ≤ c) (c1 : c ≤ 9223372036854775807) (d0 : -9223372036854775808 ≤ d) (d1 : d ≤ 9223372036854775807) (hb : b ≠ 0) (hd : d ≠ 0) (H : ∀ p q : Int, Md a b p → Md c d q → p ≠ 0 → q ≠ 0 → jOk D 0 0 328 [(1, d), (1, q), (1, b), (1, p)] h (PZ h)) : jOk (D + 1) 0 0 328 [(1, a), (1, b), (1, c), (1, d)] h (PZ h) := by
  refine ⟨by decide, by rw [ml328]; exact Nat.le_of_ble_eq_true rfl, ?_⟩
  rw [ml328, pp328]
  show jEv _ none _ c328_0 0 0 _ (c328_0, [(1, a), (9, 0), (1, b), (9, 0), (1, c), (9, 0), (1, d), (9, 0), (9, 0), (9, 0), (9, 0), (9, 0), (9, 0), (9, 0), (9, 0), (9, 0)], [], h, 0, 0)
  refine ev_lload_n rfl ?_
  refine ev_lload_n rfl ?_
  refine ev_call (jcall_s (A := [(1, b), (1, a)]) (S' := []) (by decide) rfl (Nat.le_of_ble_eq_true rfl)) (jOk_le hD (s378z a0 a1 b0 b1 hb)) (by decide) (by decide) (fun w1 h1 q1 => ?_)
  obtain ⟨x, rfl, mx, x0, x1, eh1⟩ := q1
  rw [eh1]
  show jEv _ _ _ _ _ _ _ (_, _, [(1, x)], _, _, _)
  refine ev_lstore (L' := [(1, a), (9, 0), (1, b), (9, 0), (1, c), (9, 0), (1, d), (9, 0), (1, x), (9, 0), (9, 0), (9, 0), (9, 0), (9, 0), (9, 0), (9, 0)]) (Nat.le_of_ble_eq_true rfl) rfl ?_
  refine ev_lload rfl ?_
  refine ev_lload rfl ?_
  refine ev_call (jcall_s (A := [(1, d), (1, c)]) (S' := []) (by decide) rfl (Nat.le_of_ble_eq_true rfl)) (jOk_le hD (s378z c0 c1 d0 d1 hd)) (by decide) (by decide) (fun w2 h2 q2 => ?_)
  obtain ⟨y, rfl, my, y0, y1, eh2⟩ := q2
  rw [eh2]
  show jEv _ _ _ _ _ _ _ (_, _, [(1, y)], _, _, _)
  refine ev_lstore (L' := [(1, a), (9, 0), (1, b), (9, 0), (1, c), (9, 0), (1, d), (9, 0), (1, x), (9, 0), (1, y), (9, 0), (9, 0), (9, 0), (9, 0), (9, 0)]) (Nat.le_of_ble_eq_true rfl) rfl ?_
  refine ev_lload rfl ?_
  refine ev_lload rfl ?_
  refine ev_lcmp ?_
  refine ev_ifeq f328_38 (fun e1 => ?_) (fun e1 => ?_)
  · refine ev_lload_n rfl ?_
    refine ev_lload rfl ?_
    refine ev_lload_n rfl ?_
    refine ev_lmul (r := w64 (x * b)) rfl ?_
    refine ev_lsub (r := w64 (a - w64 (x * b))) rfl ?_
    refine ev_lstore (L' := [(1, a), (9, 0), (1, b), (9, 0), (1, c), (9, 0), (1, d), (9, 0), (1, x), (9, 0), (1, y), (9, 0), (1, w64 (a - w64 (x * b))), (9, 0), (9, 0), (9, 0)]) (Nat.le_of_ble_eq_true rfl) rfl ?_
    refine ev_lload rfl ?_
    refine ev_lload rfl ?_
    refine ev_lload rfl ?_
    refine ev_lmul (r := w64 (y * d)) rfl ?_
    refine ev_lsub (r := w64 (c - w64 (y * d))) rfl ?_
    refine ev_lstore (L' := [(1, a), (9, 0), (1, b), (9, 0), (1, c), (9, 0), (1, d), (9, 0), (1, x), (9, 0), (1, y), (9, 0), (1, w64 (a - w64 (x * b))), (9, 0), (1, w64 (c - w64 (y * d))), (9, 0)]) (Nat.le_of_ble_eq_true rfl) rfl ?_
    have tail : jEv (jOk D) none (fun _ => 0) c328_0 0 0 (PZ h) (c328_70, [(1, a), (9, 0), (1, b), (9, 0), (1, c), (9, 0), (1, d), (9, 0), (1, x), (9, 0), (1, y), (9, 0), (1, w64 (a - w64 (x * b))), (9, 0), (1, w64 (c - w64 (y * d))), (9, 0)], [], h, 0, 0) := by
      refine ev_lload rfl ?_
      refine ev_lconst ?_
      refine ev_lcmp ?_
      refine ev_ifne f328_88 (fun e3 => ?_) (fun e3 => ?_)
      · refine ev_iconst ?_
        exact ev_ret rfl (by decide) (by decide) ⟨_, rfl, by decide, by decide, rfl⟩
      · refine ev_lload rfl ?_
        refine ev_lconst ?_
        refine ev_lcmp ?_
        refine ev_ifeq f328_88 (fun e4 => ?_) (fun e4 => ?_)
        · refine ev_iconst ?_
          exact ev_ret rfl (by decide) (by decide) ⟨_, rfl, by decide, by decide, rfl⟩
        · refine ev_iconst ?_
          refine ev_goto f328_89 ?_
          exact ev_ret rfl (by decide) (by decide) ⟨_, rfl, by decide, by decide, rfl⟩
    refine ev_lload rfl ?_
    refine ev_lconst ?_
    refine ev_lcmp ?_
    refine ev_ifeq f328_70 (fun e2 => ?_) (fun e2 => ?_)
    · exact tail
    · have p0 : w64 (a - w64 (x * b)) ≠ 0 := jcmpL_eqN e2
      refine ev_lload rfl ?_
      refine ev_lconst ?_
      refine ev_lcmp ?_
      refine ev_ifne f328_90 (fun e3 => ?_) (fun e3 => ?_)
      · have q0 : w64 (c - w64 (y * d)) ≠ 0 := jcmpL_ne e3
        refine ev_lload rfl ?_
        refine ev_lload rfl ?_
        refine ev_lload_n rfl ?_
        refine ev_lload rfl ?_
        refine ev_call (jcall_s (A := [(1, w64 (a - w64 (x * b))), (1, b), (1, w64 (c - w64 (y * d))), (1, d)]) (S' := []) (by decide) rfl (Nat.le_of_ble_eq_true rfl)) (H _ _ mx my p0 q0) (by decide) (by decide) (fun w3 h3 q3 => ?_)
        obtain ⟨r, rfl, r0, r1, eh3⟩ := q3
        show jEv _ _ _ _ _ _ _ (_, _, [(0, r)], _, _, _)
        exact ev_ret (jret_b (by omega)) (by decide) (by decide) ⟨r, rfl, r0, r1, eh3⟩
      · exact tail
  · refine ev_lload rfl ?_
    refine ev_lload rfl ?_
    refine ev_lcmp ?_
    refine ev_ifge f328_36 (fun e2 => ?_) (fun e2 => ?_)
    · refine ev_iconst ?_
      exact ev_ret rfl (by decide) (by decide) ⟨_, rfl, by decide, by decide, rfl⟩
    · refine ev_iconst ?_
      refine ev_goto f328_37 ?_
      exact ev_ret rfl (by decide) (by decide) ⟨_, rfl, by decide, by decide, rfl⟩
theorem less_n {h : JH} (N : Nat) : ∀ {a b c d : Int}, -9223372036854775808 ≤ a → a ≤ 9223372036854775807 → -9223372036854775808 ≤ b → b ≤ 9223372036854775807 → -9223372036854775808 ≤ c → c ≤ 9223372036854775807 → -9223372036854775808 ≤ d → d ≤ 9223372036854775807 → b ≠ 0 → d ≠ 0 → b.natAbs < 2 ^ N → jOk (2 * N + 2) 0 0 328 [(1, a), (1, b), (1, c), (1, d)] h (PZ h) := by
  induction N with
  | zero => intro a b c d _ _ _ _ _ _ _ _ hb _ hN; simp only [Nat.pow_zero] at hN; omega
  | succ N ih =>
    intro a b c d a0 a1 b0 b1 c0 c1 d0 d1 hb hd hN
    refine jOk_le (show 2 * N + 2 + 1 + 1 ≤ 2 * (N + 1) + 2 by omega) (less_s (by omega) a0 a1 b0 b1 c0 c1 d0 d1 hb hd (fun p q mp mq p0 q0 => ?_))
    have rp := mp.rng hb b0 b1
    have rq := mq.rng hd d0 d1
    refine less_s (by omega) d0 d1 rq.1 rq.2 b0 b1 rp.1 rp.2 q0 p0 (fun p2 q2 mp2 mq2 p20 q20 => ?_)
    have rp2 := mp2.rng q0 rq.1 rq.2
    have rq2 := mq2.rng p0 rp.1 rp.2
    have hf := mp.half mq2 hb p0
    rw [Nat.pow_succ] at hN
    exact ih rp.1 rp.2 rq2.1 rq2.2 rq.1 rq.2 rp2.1 rp2.2 q20 p20 (by omega)
theorem s328 {G : GH} {h : JH} (g : Gd G h) {a0 : Int} (la0 : (-9223372036854775808) ≤ a0) (ua0 : a0 ≤ 9223372036854775807) {a1 : Int} (la1 : (-9223372036854775808) ≤ a1) (ua1 : a1 ≤ 9223372036854775807) {a2 : Int} (la2 : (-9223372036854775808) ≤ a2) (ua2 : a2 ≤ 9223372036854775807) {a3 : Int} (la3 : (-9223372036854775808) ≤ a3) (ua3 : a3 ≤ 9223372036854775807) (hb : a1 ≠ 0) (hd : a3 ≠ 0) : jOk 130 0 0 328 [(1, a0), (1, a1), (1, a2), (1, a3)] h (PI G [] h 0 0 1) :=
  jOk_post (fun v h' q => by
    obtain ⟨r, e, r0, r1, eh⟩ := q
    rw [eh]
    exact ⟨r, e, r0, r1, g, Kp.rf _ _⟩) (less_n 64 la0 ua0 la1 ua1 la2 ua2 la3 ua3 hb hd (by omega))
