def Up (h h' : JH) (a : Nat) (i v : Int) : Prop := h'.2.2 a i.toNat = v ∧ ∀ j : Nat, j ≠ i.toNat → h'.2.2 a j = h.2.2 a j
theorem Up.mk2 {h h' : JH} {a : Nat} {i i' v v' : Int} (e : h' = jwr h a i.toNat v) (hi : i' = i) (hv : v' = v) : Up h h' a i' v' := by
  subst hi
  subst hv
  exact ⟨jw_eq e, fun j hj => jw_ne e (Or.inr hj)⟩
theorem Up.kp {W : List (Nat × Nat)} {h h1 h2 : JH} {a : Nat} {i v : Int} (u : Up h h1 a i v) (k : Kp W h1 h2) (c : ∀ j, inW W a j = false) : Up h h2 a i v := ⟨(k.v (c _)).trans u.1, fun j hj => (k.v (c _)).trans (u.2 j hj)⟩
theorem Up.pk {W : List (Nat × Nat)} {h h1 h2 : JH} {a : Nat} {i v : Int} (k : Kp W h h1) (c : ∀ j, inW W a j = false) (u : Up h1 h2 a i v) : Up h h2 a i v := ⟨u.1, fun j hj => (u.2 j hj).trans (k.v (c _))⟩
def Sm (h h' : JH) (a : Nat) : Prop := ∀ j : Nat, h'.2.2 a j = h.2.2 a j
def kdT (t : Nat) : Int := if t = 0 then 0 else if t = 1 then 1 else if t = 2 then 2 else if t = 3 then 4 else if t = 6 then 3 else 5
def Shn (n hc hr : Int) : Prop := (hc = -1 ∧ hr = -1) ∨ (0 ≤ hc ∧ hc ≤ 4 ∧ hr = -2 - hc) ∨ (10 ≤ hc ∧ hr = hc - 10 ∧ hr < n)
def Kd (h : JH) : Prop := ∀ j : Nat, (j : Int) < h.2.2 0 7 → ∃ r : Nat, h.2.2 24 j = (r : Int) ∧ r < h.1 ∧ kdT (h.2.1 r).1 = h.2.2 60 j
def Cc : List (Nat × Nat) := [(0, 8), (42, 29), (37, 0), (79, 0), (24, 0), (60, 0)]
def Rl (h : JH) : Prop := h.2.2 0 7 = h.2.2 42 28 ∧ (∀ s : Nat, s < 6 → Shn (h.2.2 0 7) (h.2.2 37 s) (h.2.2 79 s)) ∧ Kd h
theorem Rl.fr {h h' : JH} (x : Rl h) (e : ∀ a i, inW Cc a i = true → h'.2.2 a i = h.2.2 a i) (hl : h.1 ≤ h'.1) (ht : ∀ a, a < h.1 → h'.2.1 a = h.2.1 a) : Rl h' := by
  refine ⟨by rw [e 0 7 rfl, e 42 28 rfl]; exact x.1, fun s hs => ?_, fun j hj => ?_⟩
  · rw [e 0 7 rfl, e 37 _ rfl, e 79 _ rfl]
    exact x.2.1 s hs
  · rw [e 0 7 rfl] at hj
    obtain ⟨r, r1, r2, r3⟩ := x.2.2 j hj
    exact ⟨r, by rw [e 24 _ rfl]; exact r1, by omega, by rw [ht r r2, e 60 _ rfl]; exact r3⟩
def dsj (C W : List (Nat × Nat)) : Bool := C.all (fun c => decide (c.1 < 83) && W.all (fun w => w.1 != c.1 || (w.2 != 0 && c.2 != 0 && w.2 != c.2)))
theorem dsj_at {C W : List (Nat × Nat)} (h : dsj C W = true) {a i : Nat} (hc : inW C a i = true) : a < 83 ∧ inW W a i = false := by
  unfold inW at hc
  obtain ⟨c, hm, hq⟩ := List.any_eq_true.mp hc
  have h1 := List.all_eq_true.mp h c hm
  rw [Bool.and_eq_true, decide_eq_true_eq] at h1
  simp only [Bool.or_eq_true, Bool.and_eq_true, beq_iff_eq, decide_eq_true_eq] at hq
  have ha : a < 83 := by omega
  refine ⟨ha, ?_⟩
  unfold inW
  rw [List.any_eq_false]
  intro w hw hx
  have h2 := List.all_eq_true.mp h1.2 w hw
  simp only [Bool.or_eq_true, Bool.and_eq_true, bne_iff_ne] at h2
  simp only [Bool.or_eq_true, Bool.and_eq_true, beq_iff_eq, decide_eq_true_eq] at hx
  omega
theorem Rl.kp {W : List (Nat × Nat)} {h h' : JH} (x : Rl h) (k : Kp W h h') (hd : dsj Cc W = true) : Rl h' := x.fr (fun a i hc => k.v (dsj_at hd hc).2) (by rw [k.1]; exact Nat.le_refl _) (fun a _ => by rw [k.2.1])
theorem Rl.kx {W : List (Nat × Nat)} {h h' : JH} (x : Rl h) (k : Kx W h h') (hd : dsj Cc W = true) (h83 : 83 ≤ h.1) : Rl h' := x.fr (fun a i hc => k.2.2 a i (Nat.lt_of_lt_of_le (dsj_at hd hc).1 h83) (dsj_at hd hc).2) k.1 k.2.1
def feG (k p n : Int) : Int := if 0 ≤ k ∧ k ≤ 5 ∧ (k < 4 ∨ (0 ≤ p ∧ p ≤ 100)) ∧ n ≠ 20 then n + 1 else n
def FV (k p n : Int) : Prop := 0 ≤ k ∧ k ≤ 5 ∧ (k < 4 ∨ (0 ≤ p ∧ p ≤ 100)) ∧ n ≠ 20
def FeK (h h' : JH) (k n : Int) : Prop := h'.2.2 24 n.toNat = (h.1 : Int) ∧ h.1 < h'.1 ∧ kdT (h'.2.1 h.1).1 = k ∧ (∀ j : Nat, j ≠ n.toNat → h'.2.2 24 j = h.2.2 24 j) ∧ ∀ a, a < h.1 → h'.2.1 a = h.2.1 a
theorem kd_fe {k : Int} (k0 : 0 ≤ k) (k5 : k ≤ 5) : kdT (feelT k) = k := by
  rcases (show k = 0 ∨ k = 1 ∨ k = 2 ∨ k = 3 ∨ k = 4 ∨ k = 5 by omega) with z | z | z | z | z | z <;> subst z <;> rfl
theorem FeK.mk {h hN hA h' : JH} {k n p q w : Int} (z : hN = jwr (jwr (jwr (jnew h (feelT k) 3) h.1 0 19) h.1 1 q) h.1 2 p) (h83 : 83 ≤ h.1) (k0 : 0 ≤ k) (k5 : k ≤ 5) (ea : hA = jwr hN 24 n.toNat (h.1 : Int)) (e : h' = jwr hA 0 7 w) : FeK h h' k n := by
  have t1 : h'.1 = h.1 + 1 := by rw [(jwr_ty e).1, (jwr_ty ea).1, z]; rfl
  have t2 : ∀ a, h'.2.1 a = if a = h.1 then (feelT k, 3) else h.2.1 a := fun a => by rw [(jwr_ty e).2, (jwr_ty ea).2, z]; rfl
  have v24 : ∀ j, hN.2.2 24 j = h.2.2 24 j := fun j => by
    rw [z]
    show (if 24 = h.1 ∧ j = 2 then p else if 24 = h.1 ∧ j = 1 then q else if 24 = h.1 ∧ j = 0 then 19 else if 24 = h.1 then jdef (feelT k) j else h.2.2 24 j) = _
    rw [if_neg (by omega), if_neg (by omega), if_neg (by omega), if_neg (by omega)]
  refine ⟨by rw [jw_ne e (Or.inl (by decide)), jw_eq ea], by omega, ?_, fun j hj => by rw [jw_ne e (Or.inl (by decide)), jw_ne ea (Or.inr hj), v24], fun a ha => by rw [t2, if_neg (by omega)]⟩
  rw [t2, if_pos rfl]
  exact kd_fe k0 k5
def FeC (h h' : JH) (k p n : Int) : Prop := (¬ FV k p n ∧ h' = h) ∨ (FV k p n ∧ FeK h h' k n)
def FeR (h h' : JH) (k p n : Int) : Prop := (¬ FV k p n ∧ Sm h h' 60) ∨ (FV k p n ∧ Up h h' 60 n k)
def KV (k f n : Int) : Prop := 0 ≤ k ∧ k ≤ 5 ∧ (f = -1 ∨ (0 ≤ f ∧ f < n))
def RV (k o n : Int) : Prop := 0 ≤ k ∧ k ≤ 5 ∧ 0 ≤ o ∧ o ≤ 4 ∧ 0 ≤ n ∧ n ≤ 60
def KeC (h h' : JH) (k f n r : Int) : Prop := (¬ KV k f n ∧ r = -1 ∧ Sm h h' 37 ∧ Sm h h' 38) ∨ (KV k f n ∧ r = 1 ∧ Up h h' 37 k (if f = -1 then -1 else f + 10) ∧ Up h h' 38 k 0)
def KeR (h h' : JH) (k f n r : Int) : Prop := (¬ KV k f n ∧ r = -1 ∧ Sm h h' 79) ∨ (KV k f n ∧ r = 1 ∧ Up h h' 79 k f)
def RoC (h h' : JH) (k o n : Int) : Prop := (¬ RV k o n ∧ Sm h h' 37 ∧ Sm h h' 38) ∨ (RV k o n ∧ Up h h' 37 k o ∧ Up h h' 38 k n)
def RoR (h h' : JH) (k o n : Int) : Prop := (¬ RV k o n ∧ Sm h h' 79 ∧ Sm h h' 80) ∨ (RV k o n ∧ Up h h' 79 k (-2 - o) ∧ Up h h' 80 k n)
theorem Rl.keep {h h1 h2 : JH} {k f r1 r2 : Int} (x : Rl h) (k1 : Kp [(37, 0), (38, 0)] h h1) (k2 : Kp [(79, 0)] h1 h2) (f1 : KeC h h1 k f (h.2.2 0 7) r1) (f2 : KeR h1 h2 k f (h.2.2 0 7) r2) : Rl h2 := by
  have e : ∀ a j, inW [(37, 0), (38, 0)] a j = false → inW [(79, 0)] a j = false → h2.2.2 a j = h.2.2 a j := fun a j c1 c2 => (k2.v c2).trans (k1.v c1)
  have e37 : ∀ j, h2.2.2 37 j = h1.2.2 37 j := fun j => k2.v rfl
  have e79 : ∀ j, h1.2.2 79 j = h.2.2 79 j := fun j => k1.v rfl
  refine ⟨by rw [e 0 7 rfl rfl, e 42 28 rfl rfl]; exact x.1, fun s hs => ?_, fun j hj => ?_⟩
  · rw [e 0 7 rfl rfl, e37]
    rcases f1 with ⟨n1, _, m1, _⟩ | ⟨t1, _, m1, _⟩
    · rcases f2 with ⟨_, _, m3⟩ | ⟨t2, _⟩
      · rw [m1, m3, e79]; exact x.2.1 s hs
      · exact absurd t2 n1
    · rcases f2 with ⟨n2, _⟩ | ⟨_, _, m3⟩
      · exact absurd t1 n2
      · unfold KV at t1
        rcases Decidable.em (s = k.toNat) with z | z
        · rw [z, m1.1, m3.1]
          unfold Shn
          split <;> omega
        · rw [m1.2 s z, m3.2 s z, e79]; exact x.2.1 s hs
  · rw [e 0 7 rfl rfl] at hj
    obtain ⟨r, r1, r2, r3⟩ := x.2.2 j hj
    exact ⟨r, by rw [e 24 _ rfl rfl]; exact r1, by rw [k2.1, k1.1]; exact r2, by rw [k2.2.1, k1.2.1, e 60 _ rfl rfl]; exact r3⟩
theorem Rl.row {h h1 h2 : JH} {k o n : Int} (x : Rl h) (k1 : Kp [(37, 0), (38, 0), (39, 0)] h h1) (k2 : Kp [(79, 0), (80, 0), (81, 0)] h1 h2) (f1 : RoC h h1 k o n) (f2 : RoR h1 h2 k o n) : Rl h2 := by
  have e : ∀ a j, inW [(37, 0), (38, 0), (39, 0)] a j = false → inW [(79, 0), (80, 0), (81, 0)] a j = false → h2.2.2 a j = h.2.2 a j := fun a j c1 c2 => (k2.v c2).trans (k1.v c1)
  have e37 : ∀ j, h2.2.2 37 j = h1.2.2 37 j := fun j => k2.v rfl
  have e79 : ∀ j, h1.2.2 79 j = h.2.2 79 j := fun j => k1.v rfl
  refine ⟨by rw [e 0 7 rfl rfl, e 42 28 rfl rfl]; exact x.1, fun s hs => ?_, fun j hj => ?_⟩
  · rw [e 0 7 rfl rfl, e37]
    rcases f1 with ⟨n1, m1, _⟩ | ⟨t1, m1, _⟩
    · rcases f2 with ⟨_, m3, _⟩ | ⟨t2, _⟩
      · rw [m1, m3, e79]; exact x.2.1 s hs
      · exact absurd t2 n1
    · rcases f2 with ⟨n2, _⟩ | ⟨_, m3, _⟩
      · exact absurd t1 n2
      · unfold RV at t1
        rcases Decidable.em (s = k.toNat) with z | z
        · rw [z, m1.1, m3.1]
          unfold Shn
          omega
        · rw [m1.2 s z, m3.2 s z, e79]; exact x.2.1 s hs
  · rw [e 0 7 rfl rfl] at hj
    obtain ⟨r, r1, r2, r3⟩ := x.2.2 j hj
    exact ⟨r, by rw [e 24 _ rfl rfl]; exact r1, by rw [k2.1, k1.1]; exact r2, by rw [k2.2.1, k1.2.1, e 60 _ rfl rfl]; exact r3⟩
theorem Rl.feel {h h1 h2 : JH} {k p : Int} (x : Rl h) (h83 : 83 ≤ h.1) (hn : 0 ≤ h.2.2 0 7) (k1 : Kx [(0, 8), (24, 0)] h h1) (k2 : Kp [(42, 29), (60, 0), (61, 0)] h1 h2) (f1 : FeC h h1 k p (h.2.2 0 7)) (f2 : FeR h1 h2 k p (h.2.2 0 7)) (e : h2.2.2 0 7 = h2.2.2 42 28) (en : FV k p (h.2.2 0 7) → h2.2.2 0 7 = h.2.2 0 7 + 1) (e0 : ¬ FV k p (h.2.2 0 7) → h2.2.2 0 7 = h.2.2 0 7) : Rl h2 := by
  have f : ∀ a j, a < 83 → inW [(0, 8), (24, 0)] a j = false → inW [(42, 29), (60, 0), (61, 0)] a j = false → h2.2.2 a j = h.2.2 a j := fun a j ha c1 c2 => (k2.v c2).trans (k1.2.2 a j (by omega) c1)
  have e24 : ∀ j, h2.2.2 24 j = h1.2.2 24 j := fun j => k2.v rfl
  have e60 : ∀ j, h1.2.2 60 j = h.2.2 60 j := fun j => k1.2.2 60 j (by omega) rfl
  have ge : h.2.2 0 7 ≤ h2.2.2 0 7 := by
    by_cases z : FV k p (h.2.2 0 7)
    · rw [en z]; omega
    · rw [e0 z]; exact Int.le_refl _
  refine ⟨e, fun s hs => ?_, fun j hj => ?_⟩
  · rw [f 37 s (by decide) rfl rfl, f 79 s (by decide) rfl rfl]
    have y := x.2.1 s hs
    unfold Shn at y ⊢
    omega
  · rw [e24, k2.1, k2.2.1]
    rcases f1 with ⟨n1, m1⟩ | ⟨t1, m1⟩
    · rcases f2 with ⟨_, m2⟩ | ⟨t2, _⟩
      · rw [e0 n1] at hj
        obtain ⟨r, r1, r2, r3⟩ := x.2.2 j hj
        rw [m2]
        rw [m1]
        exact ⟨r, r1, r2, r3⟩
      · exact absurd t2 n1
    · rcases f2 with ⟨n2, _⟩ | ⟨_, m2⟩
      · exact absurd t1 n2
      · rw [en t1] at hj
        obtain ⟨a1, a2, a3, a4, a5⟩ := m1
        rcases Decidable.em (j = (h.2.2 0 7).toNat) with z | z
        · rw [z, a1, m2.1]
          exact ⟨h.1, rfl, a2, a3⟩
        · obtain ⟨r, r1, r2, r3⟩ := x.2.2 j (by omega)
          rw [a4 j z, m2.2 j z, e60]
          exact ⟨r, r1, by omega, by rw [a5 r r2]; exact r3⟩
def unF (t : Nat) (k : Int) : Int := if k = 0 then 1 else if k = 1 then (if jund t 1 = true then 1 else 0) else if k = 2 then (if jund t 2 = true then 1 else 0) else if k = 3 then (if jund t 6 = true then 1 else 0) else if k = 4 then (if jund t 3 = true then 1 else 0) else (if jund t 8 = true then 1 else 0)
def unK (d k : Int) : Prop := k = 0 ∨ d = k ∨ (k = 1 ∧ d = 3) ∨ (k = 4 ∧ d = 5)
theorem un_eq {t : Nat} {k : Int} (ht : jfam 0 t = true) (k0 : 0 ≤ k) (k5 : k ≤ 5) : unF t k = 1 ↔ unK (kdT t) k := by
  have hm := jfam_in ht
  simp only [jtags, if_true, List.mem_cons, List.not_mem_nil, or_false] at hm
  unfold unK
  rcases hm with z | z | z | z | z | z <;> subst z <;> rcases (show k = 0 ∨ k = 1 ∨ k = 2 ∨ k = 3 ∨ k = 4 ∨ k = 5 by omega) with y | y | y | y | y | y <;> subst y <;> decide
def TkC (h : JH) (k a r : Int) : Prop := (¬ (0 ≤ k ∧ k ≤ 5 ∧ 0 ≤ a ∧ a ≤ 5) ∧ r = -1) ∨ ((0 ≤ k ∧ k ≤ 5 ∧ 0 ≤ a ∧ a ≤ 5) ∧ ((h.2.2 37 k.toNat = -1 ∧ r = -11) ∨ (h.2.2 37 k.toNat ≠ -1 ∧ ((¬ (10 ≤ h.2.2 37 k.toNat ∧ h.2.2 37 k.toNat - 10 < h.2.2 0 7) ∧ r = -12) ∨ ((10 ≤ h.2.2 37 k.toNat ∧ h.2.2 37 k.toNat - 10 < h.2.2 0 7) ∧ ∃ f : Nat, h.2.2 24 (h.2.2 37 k.toNat - 10).toNat = (f : Int) ∧ jfam 0 (h.2.1 f).1 = true ∧ r = if unF (h.2.1 f).1 a = 1 then kdT (h.2.1 f).1 else -12)))))
def TkR (h : JH) (k a r : Int) : Prop := (¬ (0 ≤ k ∧ k ≤ 5 ∧ 0 ≤ a ∧ a ≤ 5) ∧ r = -1) ∨ ((0 ≤ k ∧ k ≤ 5 ∧ 0 ≤ a ∧ a ≤ 5) ∧ ((h.2.2 79 k.toNat = -1 ∧ r = -11) ∨ (h.2.2 79 k.toNat ≠ -1 ∧ ((h.2.2 79 k.toNat < 0 ∧ r = -12) ∨ (0 ≤ h.2.2 79 k.toNat ∧ ((unK (h.2.2 60 (h.2.2 79 k.toNat).toNat) a ∧ r = h.2.2 60 (h.2.2 79 k.toNat).toNat) ∨ (¬ unK (h.2.2 60 (h.2.2 79 k.toNat).toNat) a ∧ r = -12)))))))
theorem Rl.taken {h : JH} (x : Rl h) {k a r1 r2 : Int} (f1 : TkC h k a r1) (f2 : TkR h k a r2) : r1 = r2 := by
  rcases f1 with ⟨n1, q1⟩ | ⟨t1, f1⟩
  · rcases f2 with ⟨_, q2⟩ | ⟨t2, _⟩
    · exact q1.trans q2.symm
    · exact absurd t2 n1
  · rcases f2 with ⟨n2, _⟩ | ⟨_, f2⟩
    · exact absurd t1 n2
    · have w := x.2.1 k.toNat (by omega)
      unfold Shn at w
      rcases f1 with ⟨a1, b1⟩ | ⟨a1, f1⟩
      · rcases f2 with ⟨_, b2⟩ | ⟨a2, _⟩ <;> omega
      · rcases f2 with ⟨a2, b2⟩ | ⟨a2, f2⟩
        · clear f1
          omega
        · rcases f1 with ⟨c1, d1⟩ | ⟨c1, f, d1, d2, d3⟩
          · rcases f2 with ⟨c2, d2⟩ | ⟨c2, _⟩ <;> omega
          · rcases f2 with ⟨c2, d2⟩ | ⟨c2, f2⟩
            · omega
            · obtain ⟨r, e1, _, e3⟩ := x.2.2 (h.2.2 37 k.toNat - 10).toNat (by omega)
              have er : r = f := by omega
              subst er
              have ei : (h.2.2 79 k.toNat).toNat = (h.2.2 37 k.toNat - 10).toNat := by omega
              rw [ei, ← e3] at f2
              have u := un_eq d2 t1.2.2.1 t1.2.2.2
              rcases f2 with ⟨c3, c4⟩ | ⟨c3, c4⟩
              · rw [d3, if_pos (u.mpr c3), c4]
              · rw [d3, if_neg (fun z => c3 (u.mp z)), c4]
section FaE
variable {ok : Nat → Nat → Nat → List AV → JH → (Option AV → JH → Prop) → Prop} {xl : Option Nat} {xs : Nat → Int} {cd : List JE} {mc ms : Nat} {Q : Option AV → JH → Prop} {K : List JE} {L S : List AV} {h : JH} {cu su pc n' : Nat} {ps : List Nat} {z i : Int} {G : GH}
theorem g_faaldE (g : Gd G h) {cn : Int} (hc : h.2.2 0 7 = cn) (h0 : 0 ≤ i) (h1 : i < cn) (kk : ∀ (r : Nat), IsF G r → h.2.2 24 i.toNat = (r : Int) → jEv ok xl xs cd mc ms Q (K, L, (2, (r : Int)) :: S, h, cu, su)) : jEv ok xl xs cd mc ms Q ((pc, .aaload, n', [25], z) :: K, L, (0, i) :: (2, 24) :: S, h, cu, su) := by
  have b := g.rg ad0 (i := 7) (by decide) rf0_7
  obtain ⟨r, e1, e2, e3, e4, -⟩ := g.2.2.2.2.2.1 i.toNat (by omega)
  exact ev_aald (r := 24) (g.lt ad24) (g.tg ad24) (Or.inr rfl) (j := i.toNat) (by omega) (by rw [g.ln ad24]; omega) e1 (kk r (Or.inr ⟨e2, e3, e4⟩) e1)
end FaE
set_option maxHeartbeats 4000000 in
theorem t178 {G : GH} {h : JH} (g : Gd G h) {a1 : Int} (la1 : (-2147483648) ≤ a1) (ua1 : a1 ≤ 2147483647) {a2 : Int} (la2 : (-2147483648) ≤ a2) (ua2 : a2 ≤ 2147483647) {w0 : Int} (ew0 : h.2.2 0 7 = w0) (lw0 : 0 ≤ w0) (uw0 : w0 ≤ 20) (hB : h.1 ≤ 1000000) : jOk 5 1 3 178 [(2, 0), (0, a1), (0, a2)] h (fun v h' => PN [(0, 8), (24, 0)] h 0 (-3) 19 v h' ∧ h'.2.2 0 7 = feG a1 a2 w0 ∧ FeC h h' a1 a2 w0) := by
  refine ⟨by decide, by rw [ml178]; exact Nat.le_of_ble_eq_true rfl, ?_⟩
  rw [ml178, pp178]
  show jEv _ none _ c178_0 1 3 _ (c178_0, [(2, 0), (0, a1), (0, a2), (9, 0)], [], h, 0, 0)
  have k0 := Kp.rf [(0, 8), (24, 0)] h
  refine ev_iload_n rfl ?_
  refine ev_iconst ?_
  refine ev_icmpeq f178_10 (fun c75550 => ?_) (fun c75550 => ?_)
  · refine ev_iconst ?_
    refine ev_goto f178_15 ?_
    refine ev_istore_n (L' := [(2, 0), (0, a1), (0, a2), (0, 1)]) (Nat.le_of_ble_eq_true rfl) rfl ?_
    refine ev_iload_n rfl ?_
    refine ev_iflt f178_39 (fun c75551 => absurd c75551 (by omega)) (fun c75551 => ?_)
    refine ev_iload_n rfl ?_
    refine ev_iconst ?_
    refine ev_icmpgt f178_39 (fun c75552 => absurd c75552 (by omega)) (fun c75552 => ?_)
    refine ev_iload_n rfl ?_
    refine ev_ifeq f178_41 (fun c75553 => absurd c75553 (by omega)) (fun c75553 => ?_)
    refine ev_iload_n rfl ?_
    refine ev_iflt f178_39 (fun c75554 => ?_) (fun c75554 => ?_)
    · refine ev_iconst ?_
      exact ev_ret rfl (by decide) (by decide) ⟨⟨_, rfl, by omega, by omega, ⟨_, g⟩, k0.x, by rw [k0.1]; omega⟩, ((ew0)).trans (by (try unfold feG); (repeat' split) <;> omega), Or.inl ⟨by unfold FV; omega, rfl⟩⟩
    · refine ev_iload_n rfl ?_
      refine ev_bipush ?_
      refine ev_icmple f178_41 (fun c75555 => ?_) (fun c75555 => ?_)
      · refine ev_aload_n rfl ?_
        refine g_getv (r := 0) (v := w0) g ad0 (by decide) ft11_7 (ew0) ?_
        refine ev_bipush ?_
        refine ev_icmplt f178_53 (fun c75556 => ?_) (fun c75556 => ?_)
        · refine ev_aload_n rfl ?_
          refine g_getp (r := 0) (c := 24) g ad0 (by decide) (by decide) rf0_6 ft11_6 ?_
          refine ev_aload_n rfl ?_
          refine g_getv (r := 0) (v := w0) g ad0 (by decide) ft11_7 (ew0) ?_
          refine ev_aload_n rfl ?_
          refine ev_iload_n rfl ?_
          refine ev_aload_n rfl ?_
          refine g_getv (r := 0) (v := w0) g ad0 (by decide) ft11_7 (ew0) ?_
          refine ev_iload_n rfl ?_
          refine ev_ifeq f178_75 (fun c75557 => absurd c75557 (by omega)) (fun c75557 => ?_)
          refine ev_iload_n rfl ?_
          refine ev_goto f178_76 ?_
          refine ev_call (jcall_v (A := [(0, a2), (0, w0), (0, a1)]) (S' := [(0, w0), (2, 24)]) (r := 0) rfl (g.lt ad0) (g.tg ad0) (Nat.le_of_ble_eq_true rfl)) (jOk_le (by decide) (newFeel (d := 0) (s := 19) (g.lt ad0) (g.fam ad0 (by decide)) (g.pt ad0 (i := 4) (by decide) rf0_4) (g.lt ad19))) (by decide) (by decide) (fun w75558 h75558 z75558 => ?_)
          obtain ⟨rfl, z75558⟩ := z75558
          obtain ⟨g75558, es75558, x75558⟩ := g.newF (feelT_fam _) (by omega) (by omega) (by omega) (by omega) z75558
          have hz75558 := k0.1
          have k75558 := Kx.tx k0 x75558 (by decide)
          have fz75558 := g.2.1.1
          show jEv _ _ _ _ _ _ _ (_, [(2, 0), (0, a1), (0, a2), (0, 1)], [(2, (h.1 : Int)), (0, w0), (2, 24)], _, _, _)
          have ff75559 := gF_at (n := w0) (p := a2) g
          refine ev_astoG (r := 24) (j := (w0).toNat) (v := h.1) (g75558.lt ad24) (g75558.tg ad24) (by omega) (by rw [g75558.ln ad24]; omega) (by rw [es75558]; omega) (newF_ty (feelT_fam _) z75558) (fun h75559a e75559a => ?_)
          refine ev_aload_n rfl ?_
          refine ev_dup (by decide) ?_
          refine ev_getf (r := 0) (v := w0) (by rw [(jwr_ty e75559a).1]; exact g75558.lt ad0) (by rw [(jwr_ty e75559a).2]; exact g75558.fam ad0 (by decide)) ft11_7 ((jw_ne e75559a (Or.inl (by decide))).trans (((x75558.2.2 0 7 (g.lt ad0) (by decide)).trans ew0))) ?_
          refine ev_iconst ?_
          refine ev_iadd (r := (w0 + 1)) (by unfold w32; omega) ?_
          refine ev_putfG (r := 0) (by rw [(jwr_ty e75559a).1]; exact g75558.lt ad0) (by rw [(jwr_ty e75559a).2]; exact g75558.fam ad0 (by decide)) ft11_7 (fun e => absurd e nz11_7) (fun e => absurd e (by decide)) (fun h75559 e75559 => ?_)
          have g75559 := g75558.putF ff75559 (((x75558.2.2 0 7 (g.lt ad0) (by decide)).trans ew0)) e75559a e75559 (by omega) (by omega) (by omega)
          have k75559 := (k75558.wr e75559a rfl).wr e75559 rfl
          refine ev_aload_n rfl ?_
          refine g_getv (r := 0) (v := (w0 + 1)) g75559 ad0 (by decide) ft11_7 ((jw_eq e75559)) ?_
          refine ev_iconst ?_
          refine ev_isub (r := w0) (by unfold w32; omega) ?_
          exact ev_ret rfl (by decide) (by decide) ⟨⟨_, rfl, by omega, by omega, ⟨_, g75559⟩, k75559, by rw [(jwr_ty e75559).1, (jwr_ty e75559a).1, es75558]; omega⟩, (((jw_eq e75559))).trans (by (try unfold feG); (repeat' split) <;> omega), Or.inr ⟨by unfold FV; omega, FeK.mk z75558 g.2.1.1 (by omega) (by omega) e75559a e75559⟩⟩
        · refine ev_bipush ?_
          exact ev_ret rfl (by decide) (by decide) ⟨⟨_, rfl, by omega, by omega, ⟨_, g⟩, k0.x, by rw [k0.1]; omega⟩, ((ew0)).trans (by (try unfold feG); (repeat' split) <;> omega), Or.inl ⟨by unfold FV; omega, rfl⟩⟩
      · refine ev_iconst ?_
        exact ev_ret rfl (by decide) (by decide) ⟨⟨_, rfl, by omega, by omega, ⟨_, g⟩, k0.x, by rw [k0.1]; omega⟩, ((ew0)).trans (by (try unfold feG); (repeat' split) <;> omega), Or.inl ⟨by unfold FV; omega, rfl⟩⟩
  · refine ev_iload_n rfl ?_
    refine ev_iconst ?_
    refine ev_icmpne f178_14 (fun c75560 => ?_) (fun c75560 => ?_)
    · refine ev_iconst ?_
      refine ev_istore_n (L' := [(2, 0), (0, a1), (0, a2), (0, 0)]) (Nat.le_of_ble_eq_true rfl) rfl ?_
      refine ev_iload_n rfl ?_
      refine ev_iflt f178_39 (fun c75561 => ?_) (fun c75561 => ?_)
      · refine ev_iconst ?_
        exact ev_ret rfl (by decide) (by decide) ⟨⟨_, rfl, by omega, by omega, ⟨_, g⟩, k0.x, by rw [k0.1]; omega⟩, ((ew0)).trans (by (try unfold feG); (repeat' split) <;> omega), Or.inl ⟨by unfold FV; omega, rfl⟩⟩
      · refine ev_iload_n rfl ?_
        refine ev_iconst ?_
        refine ev_icmpgt f178_39 (fun c75562 => ?_) (fun c75562 => ?_)
        · refine ev_iconst ?_
          exact ev_ret rfl (by decide) (by decide) ⟨⟨_, rfl, by omega, by omega, ⟨_, g⟩, k0.x, by rw [k0.1]; omega⟩, ((ew0)).trans (by (try unfold feG); (repeat' split) <;> omega), Or.inl ⟨by unfold FV; omega, rfl⟩⟩
        · refine ev_iload_n rfl ?_
          refine ev_ifeq f178_41 (fun c75563 => ?_) (fun c75563 => absurd c75563 (by omega))
          refine ev_aload_n rfl ?_
          refine g_getv (r := 0) (v := w0) g ad0 (by decide) ft11_7 (ew0) ?_
          refine ev_bipush ?_
          refine ev_icmplt f178_53 (fun c75564 => ?_) (fun c75564 => ?_)
          · refine ev_aload_n rfl ?_
            refine g_getp (r := 0) (c := 24) g ad0 (by decide) (by decide) rf0_6 ft11_6 ?_
            refine ev_aload_n rfl ?_
            refine g_getv (r := 0) (v := w0) g ad0 (by decide) ft11_7 (ew0) ?_
            refine ev_aload_n rfl ?_
            refine ev_iload_n rfl ?_
            refine ev_aload_n rfl ?_
            refine g_getv (r := 0) (v := w0) g ad0 (by decide) ft11_7 (ew0) ?_
            refine ev_iload_n rfl ?_
            refine ev_ifeq f178_75 (fun c75565 => ?_) (fun c75565 => absurd c75565 (by omega))
            refine ev_iconst ?_
            refine ev_call (jcall_v (A := [(0, 0), (0, w0), (0, a1)]) (S' := [(0, w0), (2, 24)]) (r := 0) rfl (g.lt ad0) (g.tg ad0) (Nat.le_of_ble_eq_true rfl)) (jOk_le (by decide) (newFeel (d := 0) (s := 19) (g.lt ad0) (g.fam ad0 (by decide)) (g.pt ad0 (i := 4) (by decide) rf0_4) (g.lt ad19))) (by decide) (by decide) (fun w75566 h75566 z75566 => ?_)
            obtain ⟨rfl, z75566⟩ := z75566
            obtain ⟨g75566, es75566, x75566⟩ := g.newF (feelT_fam _) (by omega) (by omega) (by omega) (by omega) z75566
            have hz75566 := k0.1
            have k75566 := Kx.tx k0 x75566 (by decide)
            have fz75566 := g.2.1.1
            show jEv _ _ _ _ _ _ _ (_, [(2, 0), (0, a1), (0, a2), (0, 0)], [(2, (h.1 : Int)), (0, w0), (2, 24)], _, _, _)
            have ff75567 := gF_at (n := w0) (p := 0) g
            refine ev_astoG (r := 24) (j := (w0).toNat) (v := h.1) (g75566.lt ad24) (g75566.tg ad24) (by omega) (by rw [g75566.ln ad24]; omega) (by rw [es75566]; omega) (newF_ty (feelT_fam _) z75566) (fun h75567a e75567a => ?_)
            refine ev_aload_n rfl ?_
            refine ev_dup (by decide) ?_
            refine ev_getf (r := 0) (v := w0) (by rw [(jwr_ty e75567a).1]; exact g75566.lt ad0) (by rw [(jwr_ty e75567a).2]; exact g75566.fam ad0 (by decide)) ft11_7 ((jw_ne e75567a (Or.inl (by decide))).trans (((x75566.2.2 0 7 (g.lt ad0) (by decide)).trans ew0))) ?_
            refine ev_iconst ?_
            refine ev_iadd (r := (w0 + 1)) (by unfold w32; omega) ?_
            refine ev_putfG (r := 0) (by rw [(jwr_ty e75567a).1]; exact g75566.lt ad0) (by rw [(jwr_ty e75567a).2]; exact g75566.fam ad0 (by decide)) ft11_7 (fun e => absurd e nz11_7) (fun e => absurd e (by decide)) (fun h75567 e75567 => ?_)
            have g75567 := g75566.putF ff75567 (((x75566.2.2 0 7 (g.lt ad0) (by decide)).trans ew0)) e75567a e75567 (by omega) (by omega) (by omega)
            have k75567 := (k75566.wr e75567a rfl).wr e75567 rfl
            refine ev_aload_n rfl ?_
            refine g_getv (r := 0) (v := (w0 + 1)) g75567 ad0 (by decide) ft11_7 ((jw_eq e75567)) ?_
            refine ev_iconst ?_
            refine ev_isub (r := w0) (by unfold w32; omega) ?_
            exact ev_ret rfl (by decide) (by decide) ⟨⟨_, rfl, by omega, by omega, ⟨_, g75567⟩, k75567, by rw [(jwr_ty e75567).1, (jwr_ty e75567a).1, es75566]; omega⟩, (((jw_eq e75567))).trans (by (try unfold feG); (repeat' split) <;> omega), Or.inr ⟨by unfold FV; omega, FeK.mk z75566 g.2.1.1 (by omega) (by omega) e75567a e75567⟩⟩
          · refine ev_bipush ?_
            exact ev_ret rfl (by decide) (by decide) ⟨⟨_, rfl, by omega, by omega, ⟨_, g⟩, k0.x, by rw [k0.1]; omega⟩, ((ew0)).trans (by (try unfold feG); (repeat' split) <;> omega), Or.inl ⟨by unfold FV; omega, rfl⟩⟩
    · refine ev_iconst ?_
      refine ev_goto f178_15 ?_
      refine ev_istore_n (L' := [(2, 0), (0, a1), (0, a2), (0, 1)]) (Nat.le_of_ble_eq_true rfl) rfl ?_
      refine ev_iload_n rfl ?_
      refine ev_iflt f178_39 (fun c75568 => absurd c75568 (by omega)) (fun c75568 => ?_)
      refine ev_iload_n rfl ?_
      refine ev_iconst ?_
      refine ev_icmpgt f178_39 (fun c75569 => absurd c75569 (by omega)) (fun c75569 => ?_)
      refine ev_iload_n rfl ?_
      refine ev_ifeq f178_41 (fun c75570 => absurd c75570 (by omega)) (fun c75570 => ?_)
      refine ev_iload_n rfl ?_
      refine ev_iflt f178_39 (fun c75571 => ?_) (fun c75571 => ?_)
      · refine ev_iconst ?_
        exact ev_ret rfl (by decide) (by decide) ⟨⟨_, rfl, by omega, by omega, ⟨_, g⟩, k0.x, by rw [k0.1]; omega⟩, ((ew0)).trans (by (try unfold feG); (repeat' split) <;> omega), Or.inl ⟨by unfold FV; omega, rfl⟩⟩
      · refine ev_iload_n rfl ?_
        refine ev_bipush ?_
        refine ev_icmple f178_41 (fun c75572 => ?_) (fun c75572 => ?_)
        · refine ev_aload_n rfl ?_
          refine g_getv (r := 0) (v := w0) g ad0 (by decide) ft11_7 (ew0) ?_
          refine ev_bipush ?_
          refine ev_icmplt f178_53 (fun c75573 => ?_) (fun c75573 => ?_)
          · refine ev_aload_n rfl ?_
            refine g_getp (r := 0) (c := 24) g ad0 (by decide) (by decide) rf0_6 ft11_6 ?_
            refine ev_aload_n rfl ?_
            refine g_getv (r := 0) (v := w0) g ad0 (by decide) ft11_7 (ew0) ?_
            refine ev_aload_n rfl ?_
            refine ev_iload_n rfl ?_
            refine ev_aload_n rfl ?_
            refine g_getv (r := 0) (v := w0) g ad0 (by decide) ft11_7 (ew0) ?_
            refine ev_iload_n rfl ?_
            refine ev_ifeq f178_75 (fun c75574 => absurd c75574 (by omega)) (fun c75574 => ?_)
            refine ev_iload_n rfl ?_
            refine ev_goto f178_76 ?_
            refine ev_call (jcall_v (A := [(0, a2), (0, w0), (0, a1)]) (S' := [(0, w0), (2, 24)]) (r := 0) rfl (g.lt ad0) (g.tg ad0) (Nat.le_of_ble_eq_true rfl)) (jOk_le (by decide) (newFeel (d := 0) (s := 19) (g.lt ad0) (g.fam ad0 (by decide)) (g.pt ad0 (i := 4) (by decide) rf0_4) (g.lt ad19))) (by decide) (by decide) (fun w75575 h75575 z75575 => ?_)
            obtain ⟨rfl, z75575⟩ := z75575
            obtain ⟨g75575, es75575, x75575⟩ := g.newF (feelT_fam _) (by omega) (by omega) (by omega) (by omega) z75575
            have hz75575 := k0.1
            have k75575 := Kx.tx k0 x75575 (by decide)
            have fz75575 := g.2.1.1
            show jEv _ _ _ _ _ _ _ (_, [(2, 0), (0, a1), (0, a2), (0, 1)], [(2, (h.1 : Int)), (0, w0), (2, 24)], _, _, _)
            have ff75576 := gF_at (n := w0) (p := a2) g
            refine ev_astoG (r := 24) (j := (w0).toNat) (v := h.1) (g75575.lt ad24) (g75575.tg ad24) (by omega) (by rw [g75575.ln ad24]; omega) (by rw [es75575]; omega) (newF_ty (feelT_fam _) z75575) (fun h75576a e75576a => ?_)
            refine ev_aload_n rfl ?_
            refine ev_dup (by decide) ?_
            refine ev_getf (r := 0) (v := w0) (by rw [(jwr_ty e75576a).1]; exact g75575.lt ad0) (by rw [(jwr_ty e75576a).2]; exact g75575.fam ad0 (by decide)) ft11_7 ((jw_ne e75576a (Or.inl (by decide))).trans (((x75575.2.2 0 7 (g.lt ad0) (by decide)).trans ew0))) ?_
            refine ev_iconst ?_
            refine ev_iadd (r := (w0 + 1)) (by unfold w32; omega) ?_
            refine ev_putfG (r := 0) (by rw [(jwr_ty e75576a).1]; exact g75575.lt ad0) (by rw [(jwr_ty e75576a).2]; exact g75575.fam ad0 (by decide)) ft11_7 (fun e => absurd e nz11_7) (fun e => absurd e (by decide)) (fun h75576 e75576 => ?_)
            have g75576 := g75575.putF ff75576 (((x75575.2.2 0 7 (g.lt ad0) (by decide)).trans ew0)) e75576a e75576 (by omega) (by omega) (by omega)
            have k75576 := (k75575.wr e75576a rfl).wr e75576 rfl
            refine ev_aload_n rfl ?_
            refine g_getv (r := 0) (v := (w0 + 1)) g75576 ad0 (by decide) ft11_7 ((jw_eq e75576)) ?_
            refine ev_iconst ?_
            refine ev_isub (r := w0) (by unfold w32; omega) ?_
            exact ev_ret rfl (by decide) (by decide) ⟨⟨_, rfl, by omega, by omega, ⟨_, g75576⟩, k75576, by rw [(jwr_ty e75576).1, (jwr_ty e75576a).1, es75575]; omega⟩, (((jw_eq e75576))).trans (by (try unfold feG); (repeat' split) <;> omega), Or.inr ⟨by unfold FV; omega, FeK.mk z75575 g.2.1.1 (by omega) (by omega) e75576a e75576⟩⟩
          · refine ev_bipush ?_
            exact ev_ret rfl (by decide) (by decide) ⟨⟨_, rfl, by omega, by omega, ⟨_, g⟩, k0.x, by rw [k0.1]; omega⟩, ((ew0)).trans (by (try unfold feG); (repeat' split) <;> omega), Or.inl ⟨by unfold FV; omega, rfl⟩⟩
        · refine ev_iconst ?_
          exact ev_ret rfl (by decide) (by decide) ⟨⟨_, rfl, by omega, by omega, ⟨_, g⟩, k0.x, by rw [k0.1]; omega⟩, ((ew0)).trans (by (try unfold feG); (repeat' split) <;> omega), Or.inl ⟨by unfold FV; omega, rfl⟩⟩
set_option maxHeartbeats 4000000 in
theorem t285 {G : GH} {h : JH} (g : Gd G h) {a1 : Int} (la1 : (-2147483648) ≤ a1) (ua1 : a1 ≤ 2147483647) {a2 : Int} (la2 : (-2147483648) ≤ a2) (ua2 : a2 ≤ 2147483647) {w0 : Int} (ew0 : h.2.2 42 28 = w0) (lw0 : 0 ≤ w0) (uw0 : w0 ≤ 20) : jOk 2 0 0 285 [(2, 42), (0, a1), (0, a2)] h (fun v h' => ∃ r : Int, v = some (0, r) ∧ Gd G h' ∧ Kp [(42, 29), (60, 0), (61, 0)] h h' ∧ h'.2.2 42 28 = feG a1 a2 w0 ∧ FeR h h' a1 a2 w0) := by
  refine ⟨by decide, by rw [ml285]; exact Nat.le_of_ble_eq_true rfl, ?_⟩
  rw [ml285, pp285]
  show jEv _ none _ c285_0 0 0 _ (c285_0, [(2, 42), (0, a1), (0, a2)], [], h, 0, 0)
  have k0 := Kp.rf [(42, 29), (60, 0), (61, 0)] h
  refine ev_iload_n rfl ?_
  refine ev_iconst ?_
  refine ev_iconst ?_
  refine ev_in (d := 0) (a := 0) (b := 0) (cd' := c242_0) (m := 3) (L0 := [(0, a1), (0, 0), (0, 5)]) (jcall_s (A := [(0, 5), (0, 0), (0, a1)]) (S' := []) (by decide) rfl (Nat.le_of_ble_eq_true rfl)) (by decide) ml242 pp242 (Nat.le_of_ble_eq_true rfl) rfl (by decide) (by decide) ?_
  refine ev_iload_n rfl ?_
  refine ev_iload_n rfl ?_
  refine ev_icmplt f242_14 (fun c75619 => ?_) (fun c75619 => ?_)
  · refine ev_iconst ?_
    refine ev_ret rfl (by decide) (by decide) ?_
    show jEv _ _ _ _ _ _ _ (_, [(2, 42), (0, a1), (0, a2)], [(0, 0)], _, _, _)
    refine ev_ifeq f285_24 (fun c75620 => ?_) (fun c75620 => absurd c75620 (by omega))
    refine ev_iconst ?_
    exact ev_ret rfl (by decide) (by decide) ⟨_, rfl, g, k0, ((ew0)).trans (by (try unfold feG); (repeat' split) <;> omega), Or.inl ⟨by unfold FV; omega, fun _ => rfl⟩⟩
  · refine ev_iload_n rfl ?_
    refine ev_iload_n rfl ?_
    refine ev_icmpgt f242_14 (fun c75621 => ?_) (fun c75621 => ?_)
    · refine ev_iconst ?_
      refine ev_ret rfl (by decide) (by decide) ?_
      show jEv _ _ _ _ _ _ _ (_, [(2, 42), (0, a1), (0, a2)], [(0, 0)], _, _, _)
      refine ev_ifeq f285_24 (fun c75622 => ?_) (fun c75622 => absurd c75622 (by omega))
      refine ev_iconst ?_
      exact ev_ret rfl (by decide) (by decide) ⟨_, rfl, g, k0, ((ew0)).trans (by (try unfold feG); (repeat' split) <;> omega), Or.inl ⟨by unfold FV; omega, fun _ => rfl⟩⟩
    · refine ev_iconst ?_
      refine ev_goto f242_15 ?_
      refine ev_ret rfl (by decide) (by decide) ?_
      show jEv _ _ _ _ _ _ _ (_, [(2, 42), (0, a1), (0, a2)], [(0, 1)], _, _, _)
      refine ev_ifeq f285_24 (fun c75623 => absurd c75623 (by omega)) (fun c75623 => ?_)
      refine ev_iload_n rfl ?_
      refine ev_iconst ?_
      refine ev_icmplt f285_26 (fun c75624 => ?_) (fun c75624 => ?_)
      · refine ev_aload_n rfl ?_
        refine g_getv (r := 42) (v := w0) g ad42 (by decide) ft12_28 (ew0) ?_
        refine ev_bipush ?_
        refine ev_icmpne f285_38 (fun c75625 => ?_) (fun c75625 => ?_)
        · refine ev_aload_n rfl ?_
          refine g_getp (r := 42) (c := 60) g ad42 (by decide) (by decide) rf42_29 ft12_29 ?_
          refine ev_aload_n rfl ?_
          refine g_getv (r := 42) (v := w0) g ad42 (by decide) ft12_28 (ew0) ?_
          refine ev_iload_n rfl ?_
          refine g_iast g ad60 rt60 (fun _ => rfl) (by omega) (by omega) (by omega) (by omega) (fun h75626 e75626 g75626 => ?_)
          have k75626 := k0.wr e75626 rfl
          refine ev_aload_n rfl ?_
          refine g_getp (r := 42) (c := 61) g75626 ad42 (by decide) (by decide) rf42_30 ft12_30 ?_
          refine ev_aload_n rfl ?_
          refine g_getv (r := 42) (v := w0) g75626 ad42 (by decide) ft12_28 (((jw_ne e75626 (Or.inl (by decide))).trans ew0)) ?_
          refine ev_iload_n rfl ?_
          refine ev_iconst ?_
          refine ev_icmplt f285_65 (fun c75627 => ?_) (fun c75627 => absurd c75627 (by omega))
          refine ev_iconst ?_
          refine g_iast g75626 ad61 rt61 (fun _ => rfl) (by omega) (by omega) (by omega) (by omega) (fun h75628 e75628 g75628 => ?_)
          have k75628 := k75626.wr e75628 rfl
          refine ev_aload_n rfl ?_
          refine ev_dup (by decide) ?_
          refine g_getv (r := 42) (v := w0) g75628 ad42 (by decide) ft12_28 (((jw_ne e75628 (Or.inl (by decide))).trans ((jw_ne e75626 (Or.inl (by decide))).trans ew0))) ?_
          refine ev_iconst ?_
          refine ev_iadd (r := (w0 + 1)) (by unfold w32; omega) ?_
          refine g_putf (r := 42) g75628 ad42 (by decide) ft12_28 (by decide) (fun e => absurd e nz12_28) rf42_28 (by decide) (by omega) (by omega) (fun h75629 e75629 g75629 => ?_)
          have k75629 := k75628.wr e75629 rfl
          refine ev_aload_n rfl ?_
          refine g_getv (r := 42) (v := (w0 + 1)) g75629 ad42 (by decide) ft12_28 ((jw_eq e75629)) ?_
          refine ev_iconst ?_
          refine ev_isub (r := w0) (by unfold w32; omega) ?_
          exact ev_ret rfl (by decide) (by decide) ⟨_, rfl, g75629, k75629, (((jw_eq e75629))).trans (by (try unfold feG); (repeat' split) <;> omega), Or.inr ⟨by unfold FV; omega, (Up.kp (Up.kp (Up.mk2 (i := w0) (i' := w0) (v' := a1) e75626 (by omega) (by omega)) ((Kp.rf [(61, 0)] _).wr e75628 rfl) (fun _ => rfl)) ((Kp.rf [(42, 0)] _).wr e75629 rfl) (fun _ => rfl))⟩⟩
        · refine ev_bipush ?_
          exact ev_ret rfl (by decide) (by decide) ⟨_, rfl, g, k0, ((ew0)).trans (by (try unfold feG); (repeat' split) <;> omega), Or.inl ⟨by unfold FV; omega, fun _ => rfl⟩⟩
      · refine ev_iload_n rfl ?_
        refine ev_iconst ?_
        refine ev_bipush ?_
        refine ev_in (d := 0) (a := 0) (b := 0) (cd' := c242_0) (m := 3) (L0 := [(0, a2), (0, 0), (0, 100)]) (jcall_s (A := [(0, 100), (0, 0), (0, a2)]) (S' := []) (by decide) rfl (Nat.le_of_ble_eq_true rfl)) (by decide) ml242 pp242 (Nat.le_of_ble_eq_true rfl) rfl (by decide) (by decide) ?_
        refine ev_iload_n rfl ?_
        refine ev_iload_n rfl ?_
        refine ev_icmplt f242_14 (fun c75630 => ?_) (fun c75630 => ?_)
        · refine ev_iconst ?_
          refine ev_ret rfl (by decide) (by decide) ?_
          show jEv _ _ _ _ _ _ _ (_, [(2, 42), (0, a1), (0, a2)], [(0, 0)], _, _, _)
          refine ev_ifne f285_26 (fun c75631 => absurd c75631 (by omega)) (fun c75631 => ?_)
          refine ev_iconst ?_
          exact ev_ret rfl (by decide) (by decide) ⟨_, rfl, g, k0, ((ew0)).trans (by (try unfold feG); (repeat' split) <;> omega), Or.inl ⟨by unfold FV; omega, fun _ => rfl⟩⟩
        · refine ev_iload_n rfl ?_
          refine ev_iload_n rfl ?_
          refine ev_icmpgt f242_14 (fun c75632 => ?_) (fun c75632 => ?_)
          · refine ev_iconst ?_
            refine ev_ret rfl (by decide) (by decide) ?_
            show jEv _ _ _ _ _ _ _ (_, [(2, 42), (0, a1), (0, a2)], [(0, 0)], _, _, _)
            refine ev_ifne f285_26 (fun c75633 => absurd c75633 (by omega)) (fun c75633 => ?_)
            refine ev_iconst ?_
            exact ev_ret rfl (by decide) (by decide) ⟨_, rfl, g, k0, ((ew0)).trans (by (try unfold feG); (repeat' split) <;> omega), Or.inl ⟨by unfold FV; omega, fun _ => rfl⟩⟩
          · refine ev_iconst ?_
            refine ev_goto f242_15 ?_
            refine ev_ret rfl (by decide) (by decide) ?_
            show jEv _ _ _ _ _ _ _ (_, [(2, 42), (0, a1), (0, a2)], [(0, 1)], _, _, _)
            refine ev_ifne f285_26 (fun c75634 => ?_) (fun c75634 => absurd c75634 (by omega))
            refine ev_aload_n rfl ?_
            refine g_getv (r := 42) (v := w0) g ad42 (by decide) ft12_28 (ew0) ?_
            refine ev_bipush ?_
            refine ev_icmpne f285_38 (fun c75635 => ?_) (fun c75635 => ?_)
            · refine ev_aload_n rfl ?_
              refine g_getp (r := 42) (c := 60) g ad42 (by decide) (by decide) rf42_29 ft12_29 ?_
              refine ev_aload_n rfl ?_
              refine g_getv (r := 42) (v := w0) g ad42 (by decide) ft12_28 (ew0) ?_
              refine ev_iload_n rfl ?_
              refine g_iast g ad60 rt60 (fun _ => rfl) (by omega) (by omega) (by omega) (by omega) (fun h75636 e75636 g75636 => ?_)
              have k75636 := k0.wr e75636 rfl
              refine ev_aload_n rfl ?_
              refine g_getp (r := 42) (c := 61) g75636 ad42 (by decide) (by decide) rf42_30 ft12_30 ?_
              refine ev_aload_n rfl ?_
              refine g_getv (r := 42) (v := w0) g75636 ad42 (by decide) ft12_28 (((jw_ne e75636 (Or.inl (by decide))).trans ew0)) ?_
              refine ev_iload_n rfl ?_
              refine ev_iconst ?_
              refine ev_icmplt f285_65 (fun c75637 => absurd c75637 (by omega)) (fun c75637 => ?_)
              refine ev_iload_n rfl ?_
              refine ev_goto f285_66 ?_
              refine g_iast g75636 ad61 rt61 (fun _ => rfl) (by omega) (by omega) (by omega) (by omega) (fun h75638 e75638 g75638 => ?_)
              have k75638 := k75636.wr e75638 rfl
              refine ev_aload_n rfl ?_
              refine ev_dup (by decide) ?_
              refine g_getv (r := 42) (v := w0) g75638 ad42 (by decide) ft12_28 (((jw_ne e75638 (Or.inl (by decide))).trans ((jw_ne e75636 (Or.inl (by decide))).trans ew0))) ?_
              refine ev_iconst ?_
              refine ev_iadd (r := (w0 + 1)) (by unfold w32; omega) ?_
              refine g_putf (r := 42) g75638 ad42 (by decide) ft12_28 (by decide) (fun e => absurd e nz12_28) rf42_28 (by decide) (by omega) (by omega) (fun h75639 e75639 g75639 => ?_)
              have k75639 := k75638.wr e75639 rfl
              refine ev_aload_n rfl ?_
              refine g_getv (r := 42) (v := (w0 + 1)) g75639 ad42 (by decide) ft12_28 ((jw_eq e75639)) ?_
              refine ev_iconst ?_
              refine ev_isub (r := w0) (by unfold w32; omega) ?_
              exact ev_ret rfl (by decide) (by decide) ⟨_, rfl, g75639, k75639, (((jw_eq e75639))).trans (by (try unfold feG); (repeat' split) <;> omega), Or.inr ⟨by unfold FV; omega, (Up.kp (Up.kp (Up.mk2 (i := w0) (i' := w0) (v' := a1) e75636 (by omega) (by omega)) ((Kp.rf [(61, 0)] _).wr e75638 rfl) (fun _ => rfl)) ((Kp.rf [(42, 0)] _).wr e75639 rfl) (fun _ => rfl))⟩⟩
            · refine ev_bipush ?_
              exact ev_ret rfl (by decide) (by decide) ⟨_, rfl, g, k0, ((ew0)).trans (by (try unfold feG); (repeat' split) <;> omega), Or.inl ⟨by unfold FV; omega, fun _ => rfl⟩⟩
set_option maxHeartbeats 4000000 in
theorem t1 {G : GH} {h : JH} (g : Gd G h) {f0 : Nat} (q0 : IsF G f0) : jOk 1 0 0 1 [(2, (f0 : Int))] h (fun v h' => ∃ r : Int, v = some (0, r) ∧ Gd G h' ∧ Kp [] h h' ∧ r = 0) := by
  refine ⟨by decide, by rw [ml1]; exact Nat.le_of_ble_eq_true rfl, ?_⟩
  rw [ml1, pp1]
  show jEv _ none _ c1_0 0 0 _ (c1_0, [(2, (f0 : Int))], [], h, 0, 0)
  have k0 := Kp.rf [] h
  refine ev_iconst ?_
  exact ev_ret rfl (by decide) (by decide) ⟨_, rfl, g, k0, rfl⟩
set_option maxHeartbeats 4000000 in
theorem t10 {G : GH} {h : JH} (g : Gd G h) {f0 : Nat} (q0 : IsF G f0) : jOk 1 0 0 10 [(2, (f0 : Int))] h (fun v h' => ∃ r : Int, v = some (0, r) ∧ Gd G h' ∧ Kp [] h h' ∧ r = 1) := by
  refine ⟨by decide, by rw [ml10]; exact Nat.le_of_ble_eq_true rfl, ?_⟩
  rw [ml10, pp10]
  show jEv _ none _ c10_0 0 0 _ (c10_0, [(2, (f0 : Int))], [], h, 0, 0)
  have k0 := Kp.rf [] h
  refine ev_iconst ?_
  exact ev_ret rfl (by decide) (by decide) ⟨_, rfl, g, k0, rfl⟩
set_option maxHeartbeats 4000000 in
theorem t14 {G : GH} {h : JH} (g : Gd G h) {f0 : Nat} (q0 : IsF G f0) : jOk 1 0 0 14 [(2, (f0 : Int))] h (fun v h' => ∃ r : Int, v = some (0, r) ∧ Gd G h' ∧ Kp [] h h' ∧ r = 2) := by
  refine ⟨by decide, by rw [ml14]; exact Nat.le_of_ble_eq_true rfl, ?_⟩
  rw [ml14, pp14]
  show jEv _ none _ c14_0 0 0 _ (c14_0, [(2, (f0 : Int))], [], h, 0, 0)
  have k0 := Kp.rf [] h
  refine ev_iconst ?_
  exact ev_ret rfl (by decide) (by decide) ⟨_, rfl, g, k0, rfl⟩
set_option maxHeartbeats 4000000 in
theorem t18 {G : GH} {h : JH} (g : Gd G h) {f0 : Nat} (q0 : IsF G f0) : jOk 1 0 0 18 [(2, (f0 : Int))] h (fun v h' => ∃ r : Int, v = some (0, r) ∧ Gd G h' ∧ Kp [] h h' ∧ r = 4) := by
  refine ⟨by decide, by rw [ml18]; exact Nat.le_of_ble_eq_true rfl, ?_⟩
  rw [ml18, pp18]
  show jEv _ none _ c18_0 0 0 _ (c18_0, [(2, (f0 : Int))], [], h, 0, 0)
  have k0 := Kp.rf [] h
  refine ev_iconst ?_
  exact ev_ret rfl (by decide) (by decide) ⟨_, rfl, g, k0, rfl⟩
set_option maxHeartbeats 4000000 in
theorem t84 {G : GH} {h : JH} (g : Gd G h) {f0 : Nat} (q0 : IsF G f0) : jOk 1 0 0 84 [(2, (f0 : Int))] h (fun v h' => ∃ r : Int, v = some (0, r) ∧ Gd G h' ∧ Kp [] h h' ∧ r = 3) := by
  refine ⟨by decide, by rw [ml84]; exact Nat.le_of_ble_eq_true rfl, ?_⟩
  rw [ml84, pp84]
  show jEv _ none _ c84_0 0 0 _ (c84_0, [(2, (f0 : Int))], [], h, 0, 0)
  have k0 := Kp.rf [] h
  refine ev_iconst ?_
  exact ev_ret rfl (by decide) (by decide) ⟨_, rfl, g, k0, rfl⟩
set_option maxHeartbeats 4000000 in
theorem t98 {G : GH} {h : JH} (g : Gd G h) {f0 : Nat} (q0 : IsF G f0) : jOk 1 0 0 98 [(2, (f0 : Int))] h (fun v h' => ∃ r : Int, v = some (0, r) ∧ Gd G h' ∧ Kp [] h h' ∧ r = 5) := by
  refine ⟨by decide, by rw [ml98]; exact Nat.le_of_ble_eq_true rfl, ?_⟩
  rw [ml98, pp98]
  show jEv _ none _ c98_0 0 0 _ (c98_0, [(2, (f0 : Int))], [], h, 0, 0)
  have k0 := Kp.rf [] h
  refine ev_iconst ?_
  exact ev_ret rfl (by decide) (by decide) ⟨_, rfl, g, k0, rfl⟩
theorem famkE {G : GH} {h : JH} (g : Gd G h) {f0 : Nat} (q0 : IsF G f0) : ∃ k, [1, 10, 14, 18, 84, 98].getD (jpos (h.2.1 f0).1) 0 = k ∧ k ≠ 9999 ∧ jOk 1 0 0 k [(2, (f0 : Int))] h (fun v h' => ∃ r : Int, v = some (0, r) ∧ Gd G h' ∧ Kp [] h h' ∧ r = kdT (h.2.1 f0).1) := by
  have ht := jfam_in (g.ffam q0)
  simp only [jtags, if_true, List.mem_cons, List.not_mem_nil, or_false] at ht
  rcases ht with e | e | e | e | e | e
  · rw [e]
    exact ⟨1, rfl, by decide, jOk_post (fun v h' q => by obtain ⟨r, e1, g1, k1, e2⟩ := q; exact ⟨r, e1, g1, k1, e2⟩) (jOk_le (by decide) (t1 g q0))⟩
  · rw [e]
    exact ⟨10, rfl, by decide, jOk_post (fun v h' q => by obtain ⟨r, e1, g1, k1, e2⟩ := q; exact ⟨r, e1, g1, k1, e2⟩) (jOk_le (by decide) (t10 g q0))⟩
  · rw [e]
    exact ⟨14, rfl, by decide, jOk_post (fun v h' q => by obtain ⟨r, e1, g1, k1, e2⟩ := q; exact ⟨r, e1, g1, k1, e2⟩) (jOk_le (by decide) (t14 g q0))⟩
  · rw [e]
    exact ⟨18, rfl, by decide, jOk_post (fun v h' q => by obtain ⟨r, e1, g1, k1, e2⟩ := q; exact ⟨r, e1, g1, k1, e2⟩) (jOk_le (by decide) (t18 g q0))⟩
  · rw [e]
    exact ⟨84, rfl, by decide, jOk_post (fun v h' q => by obtain ⟨r, e1, g1, k1, e2⟩ := q; exact ⟨r, e1, g1, k1, e2⟩) (jOk_le (by decide) (t84 g q0))⟩
  · rw [e]
    exact ⟨98, rfl, by decide, jOk_post (fun v h' q => by obtain ⟨r, e1, g1, k1, e2⟩ := q; exact ⟨r, e1, g1, k1, e2⟩) (jOk_le (by decide) (t98 g q0))⟩
set_option maxHeartbeats 4000000 in
theorem t226 {G : GH} {h : JH} (g : Gd G h) {f0 : Nat} (q0 : IsF G f0) {a1 : Int} (la1 : 0 ≤ a1) (ua1 : a1 ≤ 5) : jOk 1 0 0 226 [(2, (f0 : Int)), (0, a1)] h (fun v h' => ∃ r : Int, v = some (0, r) ∧ Gd G h' ∧ Kp [] h h' ∧ 0 ≤ r ∧ r ≤ 1 ∧ r = unF (h.2.1 f0).1 a1) := by
  refine ⟨by decide, by rw [ml226]; exact Nat.le_of_ble_eq_true rfl, ?_⟩
  rw [ml226, pp226]
  show jEv _ none _ c226_0 0 0 _ (c226_0, [(2, (f0 : Int)), (0, a1)], [], h, 0, 0)
  have k0 := Kp.rf [] h
  refine ev_iload_n rfl ?_
  rcases (show a1 = 0 ∨ a1 = 1 ∨ a1 = 2 ∨ a1 = 3 ∨ a1 = 4 ∨ 4 < a1 by omega) with c75652 | c75652 | c75652 | c75652 | c75652 | c75652
  · refine ev_sw (t := 36) (by rw [c75652]; decide) f226_36 ?_
    refine ev_iconst ?_
    exact ev_ret rfl (by decide) (by decide) ⟨_, rfl, g, k0, by omega, by omega, by unfold unF; rw [if_pos (by omega)]⟩
  · refine ev_sw (t := 38) (by rw [c75652]; decide) f226_38 ?_
    refine ev_aload_n rfl ?_
    refine g_inst g q0 (fun v75653 ev75653 lv75653 uv75653 => ?_)
    exact ev_ret (jret_b (by omega)) (by decide) (by decide) ⟨_, rfl, g, k0, by omega, by omega, by unfold unF; rw [if_neg (by omega)]; rw [if_pos (by omega)]; exact ev75653.symm⟩
  · refine ev_sw (t := 43) (by rw [c75652]; decide) f226_43 ?_
    refine ev_aload_n rfl ?_
    refine g_inst g q0 (fun v75654 ev75654 lv75654 uv75654 => ?_)
    exact ev_ret (jret_b (by omega)) (by decide) (by decide) ⟨_, rfl, g, k0, by omega, by omega, by unfold unF; rw [if_neg (by omega)]; rw [if_neg (by omega)]; rw [if_pos (by omega)]; exact ev75654.symm⟩
  · refine ev_sw (t := 48) (by rw [c75652]; decide) f226_48 ?_
    refine ev_aload_n rfl ?_
    refine g_inst g q0 (fun v75655 ev75655 lv75655 uv75655 => ?_)
    exact ev_ret (jret_b (by omega)) (by decide) (by decide) ⟨_, rfl, g, k0, by omega, by omega, by unfold unF; rw [if_neg (by omega)]; rw [if_neg (by omega)]; rw [if_neg (by omega)]; rw [if_pos (by omega)]; exact ev75655.symm⟩
  · refine ev_sw (t := 53) (by rw [c75652]; decide) f226_53 ?_
    refine ev_aload_n rfl ?_
    refine g_inst g q0 (fun v75656 ev75656 lv75656 uv75656 => ?_)
    exact ev_ret (jret_b (by omega)) (by decide) (by decide) ⟨_, rfl, g, k0, by omega, by omega, by unfold unF; rw [if_neg (by omega)]; rw [if_neg (by omega)]; rw [if_neg (by omega)]; rw [if_neg (by omega)]; rw [if_pos (by omega)]; exact ev75656.symm⟩
  · refine ev_sw (t := 58) (by rw [if_pos (show _ ∨ _ by omega)]; rfl) f226_58 ?_
    refine ev_aload_n rfl ?_
    refine g_inst g q0 (fun v75657 ev75657 lv75657 uv75657 => ?_)
    exact ev_ret (jret_b (by omega)) (by decide) (by decide) ⟨_, rfl, g, k0, by omega, by omega, by unfold unF; rw [if_neg (by omega)]; rw [if_neg (by omega)]; rw [if_neg (by omega)]; rw [if_neg (by omega)]; rw [if_neg (by omega)]; exact ev75657.symm⟩
set_option maxHeartbeats 4000000 in
theorem t217 {G : GH} {h : JH} (g : Gd G h) {a1 : Int} (la1 : (-2147483648) ≤ a1) (ua1 : a1 ≤ 2147483647) {a2 : Int} (la2 : (-2147483648) ≤ a2) (ua2 : a2 ≤ 2147483647) : jOk 2 0 0 217 [(2, 0), (0, a1), (0, a2)] h (fun v h' => ∃ r : Int, v = some (0, r) ∧ Gd G h' ∧ Kp [] h h' ∧ TkC h a1 a2 r) := by
  refine ⟨by decide, by rw [ml217]; exact Nat.le_of_ble_eq_true rfl, ?_⟩
  rw [ml217, pp217]
  show jEv _ none _ c217_0 0 0 _ (c217_0, [(2, 0), (0, a1), (0, a2), (9, 0)], [], h, 0, 0)
  have k0 := Kp.rf [] h
  refine ev_iload_n rfl ?_
  refine ev_in (d := 0) (a := 0) (b := 0) (cd' := c222_0) (m := 1) (L0 := [(0, a1)]) (jcall_s (A := [(0, a1)]) (S' := []) (by decide) rfl (Nat.le_of_ble_eq_true rfl)) (by decide) ml222 pp222 (Nat.le_of_ble_eq_true rfl) rfl (by decide) (by decide) ?_
  refine ev_iload_n rfl ?_
  refine ev_iflt f222_14 (fun c75700 => ?_) (fun c75700 => ?_)
  · refine ev_iconst ?_
    refine ev_ret rfl (by decide) (by decide) ?_
    show jEv _ _ _ _ _ _ _ (_, [(2, 0), (0, a1), (0, a2), (9, 0)], [(0, 0)], _, _, _)
    refine ev_ifeq f217_16 (fun c75701 => ?_) (fun c75701 => absurd c75701 (by omega))
    refine ev_iconst ?_
    exact ev_ret rfl (by decide) (by decide) ⟨_, rfl, g, k0, Or.inl ⟨by omega, rfl⟩⟩
  · refine ev_iload_n rfl ?_
    refine ev_bipush ?_
    refine ev_icmpge f222_14 (fun c75702 => ?_) (fun c75702 => ?_)
    · refine ev_iconst ?_
      refine ev_ret rfl (by decide) (by decide) ?_
      show jEv _ _ _ _ _ _ _ (_, [(2, 0), (0, a1), (0, a2), (9, 0)], [(0, 0)], _, _, _)
      refine ev_ifeq f217_16 (fun c75703 => ?_) (fun c75703 => absurd c75703 (by omega))
      refine ev_iconst ?_
      exact ev_ret rfl (by decide) (by decide) ⟨_, rfl, g, k0, Or.inl ⟨by omega, rfl⟩⟩
    · refine ev_iconst ?_
      refine ev_goto f222_15 ?_
      refine ev_ret rfl (by decide) (by decide) ?_
      show jEv _ _ _ _ _ _ _ (_, [(2, 0), (0, a1), (0, a2), (9, 0)], [(0, 1)], _, _, _)
      refine ev_ifeq f217_16 (fun c75704 => absurd c75704 (by omega)) (fun c75704 => ?_)
      refine ev_iload_n rfl ?_
      refine ev_iflt f217_16 (fun c75705 => ?_) (fun c75705 => ?_)
      · refine ev_iconst ?_
        exact ev_ret rfl (by decide) (by decide) ⟨_, rfl, g, k0, Or.inl ⟨by omega, rfl⟩⟩
      · refine ev_iload_n rfl ?_
        refine ev_iconst ?_
        refine ev_icmple f217_18 (fun c75706 => ?_) (fun c75706 => ?_)
        · refine ev_aload_n rfl ?_
          refine g_getp (r := 0) (c := 37) g ad0 (by decide) (by decide) rf0_12 ft11_12 ?_
          refine ev_iload_n rfl ?_
          refine g_iald g ad37 rt37 (by omega) (by omega) (fun v75707 ev75707 lv75707 uv75707 => ?_)
          refine ev_iconst ?_
          refine ev_icmpne f217_31 (fun c75708 => ?_) (fun c75708 => ?_)
          · refine ev_aload_n rfl ?_
            refine ev_aload_n rfl ?_
            refine g_getp (r := 0) (c := 37) g ad0 (by decide) (by decide) rf0_12 ft11_12 ?_
            refine ev_iload_n rfl ?_
            refine g_ialdv (v := v75707) g ad37 (by omega) (by omega) (ev75707) ?_
            refine ev_bipush ?_
            refine ev_isub (r := (v75707 - 10)) (by unfold w32; omega) ?_
            refine ev_in (d := 0) (a := 0) (b := 0) (cd' := c220_0) (m := 2) (L0 := [(2, 0), (0, (v75707 - 10))]) (jcall_v (A := [(0, (v75707 - 10))]) (S' := []) (r := 0) rfl (g.lt ad0) (g.tg ad0) (Nat.le_of_ble_eq_true rfl)) (by decide) ml220 pp220 (Nat.le_of_ble_eq_true rfl) rfl (by decide) (by decide) ?_
            refine ev_iload_n rfl ?_
            refine ev_iflt f220_12 (fun c75709 => ?_) (fun c75709 => ?_)
            · refine ev_aconst_null ?_
              refine ev_goto f220_22 ?_
              refine ev_ret rfl (by decide) (by decide) ?_
              show jEv _ _ _ _ _ _ _ (_, [(2, 0), (0, a1), (0, a2), (9, 0)], [(2, (-1))], _, _, _)
              refine ev_astore_n (L' := [(2, 0), (0, a1), (0, a2), (2, (-1))]) (Nat.le_of_ble_eq_true rfl) rfl ?_
              refine ev_aload_n rfl ?_
              refine ev_ifnull f217_57 (fun c75710 => ?_) (fun c75710 => absurd c75710 (by decide))
              refine ev_bipush ?_
              refine ev_goto f217_66 ?_
              exact ev_ret rfl (by decide) (by decide) ⟨_, rfl, g, k0, Or.inr ⟨by omega, Or.inr ⟨by rw [ev75707]; omega, Or.inl ⟨by rw [ev75707]; omega, rfl⟩⟩⟩⟩
            · refine ev_iload_n rfl ?_
              refine ev_aload_n rfl ?_
              obtain ⟨v75711, ev75711, lv75711, uv75711⟩ := g.rd ad0 (show 7 < 17 by decide) rf0_7
              refine g_getv (r := 0) (v := v75711) g ad0 (by decide) ft11_7 ev75711 ?_
              refine ev_icmplt f220_16 (fun c75712 => ?_) (fun c75712 => ?_)
              · refine ev_aload_n rfl ?_
                refine g_getp (r := 0) (c := 24) g ad0 (by decide) (by decide) rf0_6 ft11_6 ?_
                refine ev_iload_n rfl ?_
                refine g_faaldE g (i := (v75707 - 10)) (ev75711) (by omega) (by omega) (fun f75713 qf75713 ef75713 => ?_)
                refine ev_ret rfl (by decide) (by decide) ?_
                show jEv _ _ _ _ _ _ _ (_, [(2, 0), (0, a1), (0, a2), (9, 0)], [(2, (f75713 : Int))], _, _, _)
                refine ev_astore_n (L' := [(2, 0), (0, a1), (0, a2), (2, (f75713 : Int))]) (Nat.le_of_ble_eq_true rfl) rfl ?_
                refine ev_aload_n rfl ?_
                refine ev_ifnull f217_57 (fun c75714 => absurd c75714 (by omega)) (fun c75714 => ?_)
                refine ev_aload_n rfl ?_
                refine ev_iload_n rfl ?_
                refine ev_call (jcall_s (A := [(0, a2), (2, (f75713 : Int))]) (S' := []) (by decide) rfl (Nat.le_of_ble_eq_true rfl)) (jOk_le (by decide) (t226 g qf75713 (by omega) (by omega))) (by decide) (by decide) (fun w75715 h75715 q75715 => ?_)
                obtain ⟨v75716, rfl, g75715, kk75715, lv75716, uv75716, X75715⟩ := q75715
                have k75715 := k0.tr kk75715 (by decide)
                show jEv _ _ _ _ _ _ _ (_, [(2, 0), (0, a1), (0, a2), (2, (f75713 : Int))], [(0, v75716)], _, _, _)
                refine ev_ifne f217_62 (fun c75717 => ?_) (fun c75717 => ?_)
                · refine ev_aload_n rfl ?_
                  refine ev_callF (A := []) (S' := []) (r := f75713) rfl (g75715.flt qf75713) (g75715.ffam qf75713) (Nat.le_of_ble_eq_true rfl) (famL (by decide) (famkE g75715 qf75713)) (by decide) (by decide) (fun w75718 h75718 q75718 => ?_)
                  obtain ⟨v75719, rfl, g75718, kk75718, X75718⟩ := q75718
                  have k75718 := k75715.tr kk75718 (by decide)
                  show jEv _ _ _ _ _ _ _ (_, [(2, 0), (0, a1), (0, a2), (2, (f75713 : Int))], [(0, v75719)], _, _, _)
                  exact ev_ret rfl (by decide) (by decide) ⟨_, rfl, g75718, k75718, Or.inr ⟨by omega, Or.inr ⟨by rw [ev75707]; omega, Or.inr ⟨by rw [ev75707, ev75711]; omega, f75713, by rw [ev75707, show v75707 - 10 = (v75707 - 10) by omega]; exact ef75713, g.ffam qf75713, by rw [if_pos (by rw [← X75715]; omega)]; exact X75718.trans (by rw [kk75715.2.1])⟩⟩⟩⟩
                · refine ev_bipush ?_
                  refine ev_goto f217_66 ?_
                  exact ev_ret rfl (by decide) (by decide) ⟨_, rfl, g75715, k75715, Or.inr ⟨by omega, Or.inr ⟨by rw [ev75707]; omega, Or.inr ⟨by rw [ev75707, ev75711]; omega, f75713, by rw [ev75707, show v75707 - 10 = (v75707 - 10) by omega]; exact ef75713, g.ffam qf75713, by rw [if_neg (by rw [← X75715]; omega)]⟩⟩⟩⟩
              · refine ev_aconst_null ?_
                refine ev_goto f220_22 ?_
                refine ev_ret rfl (by decide) (by decide) ?_
                show jEv _ _ _ _ _ _ _ (_, [(2, 0), (0, a1), (0, a2), (9, 0)], [(2, (-1))], _, _, _)
                refine ev_astore_n (L' := [(2, 0), (0, a1), (0, a2), (2, (-1))]) (Nat.le_of_ble_eq_true rfl) rfl ?_
                refine ev_aload_n rfl ?_
                refine ev_ifnull f217_57 (fun c75720 => ?_) (fun c75720 => absurd c75720 (by decide))
                refine ev_bipush ?_
                refine ev_goto f217_66 ?_
                exact ev_ret rfl (by decide) (by decide) ⟨_, rfl, g, k0, Or.inr ⟨by omega, Or.inr ⟨by rw [ev75707]; omega, Or.inl ⟨by rw [ev75707]; rw [ev75711]; omega, rfl⟩⟩⟩⟩
          · refine ev_bipush ?_
            exact ev_ret rfl (by decide) (by decide) ⟨_, rfl, g, k0, Or.inr ⟨by omega, Or.inl ⟨by rw [ev75707]; omega, rfl⟩⟩⟩
        · refine ev_iconst ?_
          exact ev_ret rfl (by decide) (by decide) ⟨_, rfl, g, k0, Or.inl ⟨by omega, rfl⟩⟩
set_option maxHeartbeats 4000000 in
theorem t377 {G : GH} {h : JH} (g : Gd G h) {a1 : Int} (la1 : (-2147483648) ≤ a1) (ua1 : a1 ≤ 2147483647) {a2 : Int} (la2 : (-2147483648) ≤ a2) (ua2 : a2 ≤ 2147483647) : jOk 3 0 0 377 [(2, 42), (0, a1), (0, a2)] h (fun v h' => ∃ r : Int, v = some (0, r) ∧ Gd G h' ∧ Kp [] h h' ∧ TkR h a1 a2 r) := by
  refine ⟨by decide, by rw [ml377]; exact Nat.le_of_ble_eq_true rfl, ?_⟩
  rw [ml377, pp377]
  show jEv _ none _ c377_0 0 0 _ (c377_0, [(2, 42), (0, a1), (0, a2)], [], h, 0, 0)
  have k0 := Kp.rf [] h
  refine ev_iload_n rfl ?_
  refine ev_in (d := 1) (a := 0) (b := 0) (cd' := c370_0) (m := 1) (L0 := [(0, a1)]) (jcall_s (A := [(0, a1)]) (S' := []) (by decide) rfl (Nat.le_of_ble_eq_true rfl)) (by decide) ml370 pp370 (Nat.le_of_ble_eq_true rfl) rfl (by decide) (by decide) ?_
  refine ev_iload_n rfl ?_
  refine ev_iconst ?_
  refine ev_iconst ?_
  refine ev_in (d := 0) (a := 0) (b := 0) (cd' := c242_0) (m := 3) (L0 := [(0, a1), (0, 0), (0, 5)]) (jcall_s (A := [(0, 5), (0, 0), (0, a1)]) (S' := []) (by decide) rfl (Nat.le_of_ble_eq_true rfl)) (by decide) ml242 pp242 (Nat.le_of_ble_eq_true rfl) rfl (by decide) (by decide) ?_
  refine ev_iload_n rfl ?_
  refine ev_iload_n rfl ?_
  refine ev_icmplt f242_14 (fun c75777 => ?_) (fun c75777 => ?_)
  · refine ev_iconst ?_
    refine ev_ret rfl (by decide) (by decide) ?_
    show jEv _ _ _ _ _ _ _ (_, [(0, a1)], [(0, 0)], _, _, _)
    refine ev_ret rfl (by decide) (by decide) ?_
    show jEv _ _ _ _ _ _ _ (_, [(2, 42), (0, a1), (0, a2)], [(0, 0)], _, _, _)
    refine ev_ifeq f377_16 (fun c75778 => ?_) (fun c75778 => absurd c75778 (by omega))
    refine ev_iconst ?_
    exact ev_ret rfl (by decide) (by decide) ⟨_, rfl, g, k0, Or.inl ⟨by omega, rfl⟩⟩
  · refine ev_iload_n rfl ?_
    refine ev_iload_n rfl ?_
    refine ev_icmpgt f242_14 (fun c75779 => ?_) (fun c75779 => ?_)
    · refine ev_iconst ?_
      refine ev_ret rfl (by decide) (by decide) ?_
      show jEv _ _ _ _ _ _ _ (_, [(0, a1)], [(0, 0)], _, _, _)
      refine ev_ret rfl (by decide) (by decide) ?_
      show jEv _ _ _ _ _ _ _ (_, [(2, 42), (0, a1), (0, a2)], [(0, 0)], _, _, _)
      refine ev_ifeq f377_16 (fun c75780 => ?_) (fun c75780 => absurd c75780 (by omega))
      refine ev_iconst ?_
      exact ev_ret rfl (by decide) (by decide) ⟨_, rfl, g, k0, Or.inl ⟨by omega, rfl⟩⟩
    · refine ev_iconst ?_
      refine ev_goto f242_15 ?_
      refine ev_ret rfl (by decide) (by decide) ?_
      show jEv _ _ _ _ _ _ _ (_, [(0, a1)], [(0, 1)], _, _, _)
      refine ev_ret rfl (by decide) (by decide) ?_
      show jEv _ _ _ _ _ _ _ (_, [(2, 42), (0, a1), (0, a2)], [(0, 1)], _, _, _)
      refine ev_ifeq f377_16 (fun c75781 => absurd c75781 (by omega)) (fun c75781 => ?_)
      refine ev_iload_n rfl ?_
      refine ev_iconst ?_
      refine ev_iconst ?_
      refine ev_in (d := 1) (a := 0) (b := 0) (cd' := c242_0) (m := 3) (L0 := [(0, a2), (0, 0), (0, 5)]) (jcall_s (A := [(0, 5), (0, 0), (0, a2)]) (S' := []) (by decide) rfl (Nat.le_of_ble_eq_true rfl)) (by decide) ml242 pp242 (Nat.le_of_ble_eq_true rfl) rfl (by decide) (by decide) ?_
      refine ev_iload_n rfl ?_
      refine ev_iload_n rfl ?_
      refine ev_icmplt f242_14 (fun c75782 => ?_) (fun c75782 => ?_)
      · refine ev_iconst ?_
        refine ev_ret rfl (by decide) (by decide) ?_
        show jEv _ _ _ _ _ _ _ (_, [(2, 42), (0, a1), (0, a2)], [(0, 0)], _, _, _)
        refine ev_ifne f377_18 (fun c75783 => absurd c75783 (by omega)) (fun c75783 => ?_)
        refine ev_iconst ?_
        exact ev_ret rfl (by decide) (by decide) ⟨_, rfl, g, k0, Or.inl ⟨by omega, rfl⟩⟩
      · refine ev_iload_n rfl ?_
        refine ev_iload_n rfl ?_
        refine ev_icmpgt f242_14 (fun c75784 => ?_) (fun c75784 => ?_)
        · refine ev_iconst ?_
          refine ev_ret rfl (by decide) (by decide) ?_
          show jEv _ _ _ _ _ _ _ (_, [(2, 42), (0, a1), (0, a2)], [(0, 0)], _, _, _)
          refine ev_ifne f377_18 (fun c75785 => absurd c75785 (by omega)) (fun c75785 => ?_)
          refine ev_iconst ?_
          exact ev_ret rfl (by decide) (by decide) ⟨_, rfl, g, k0, Or.inl ⟨by omega, rfl⟩⟩
        · refine ev_iconst ?_
          refine ev_goto f242_15 ?_
          refine ev_ret rfl (by decide) (by decide) ?_
          show jEv _ _ _ _ _ _ _ (_, [(2, 42), (0, a1), (0, a2)], [(0, 1)], _, _, _)
          refine ev_ifne f377_18 (fun c75786 => ?_) (fun c75786 => absurd c75786 (by omega))
          refine ev_aload_n rfl ?_
          refine g_getp (r := 42) (c := 79) g ad42 (by decide) (by decide) rf42_62 ft12_62 ?_
          refine ev_iload_n rfl ?_
          refine g_iald g ad79 rt79 (by omega) (by omega) (fun v75787 ev75787 lv75787 uv75787 => ?_)
          refine ev_iconst ?_
          refine ev_icmpne f377_31 (fun c75788 => ?_) (fun c75788 => ?_)
          · refine ev_aload_n rfl ?_
            refine g_getp (r := 42) (c := 79) g ad42 (by decide) (by decide) rf42_62 ft12_62 ?_
            refine ev_iload_n rfl ?_
            refine g_ialdv (v := v75787) g ad79 (by omega) (by omega) (ev75787) ?_
            refine ev_iflt f377_72 (fun c75789 => ?_) (fun c75789 => ?_)
            · refine ev_bipush ?_
              exact ev_ret rfl (by decide) (by decide) ⟨_, rfl, g, k0, Or.inr ⟨by omega, Or.inr ⟨by rw [ev75787]; omega, Or.inl ⟨by rw [ev75787]; omega, rfl⟩⟩⟩⟩
            · refine ev_aload_n rfl ?_
              refine g_getp (r := 42) (c := 60) g ad42 (by decide) (by decide) rf42_29 ft12_29 ?_
              refine ev_aload_n rfl ?_
              refine g_getp (r := 42) (c := 79) g ad42 (by decide) (by decide) rf42_62 ft12_62 ?_
              refine ev_iload_n rfl ?_
              refine g_ialdv (v := v75787) g ad79 (by omega) (by omega) (ev75787) ?_
              refine g_iald g ad60 rt60 (by omega) (by omega) (fun v75790 ev75790 lv75790 uv75790 => ?_)
              refine ev_iload_n rfl ?_
              refine ev_in (d := 1) (a := 0) (b := 0) (cd' := c355_0) (m := 2) (L0 := [(0, v75790), (0, a2)]) (jcall_s (A := [(0, a2), (0, v75790)]) (S' := []) (by decide) rfl (Nat.le_of_ble_eq_true rfl)) (by decide) ml355 pp355 (Nat.le_of_ble_eq_true rfl) rfl (by decide) (by decide) ?_
              refine ev_iload_n rfl ?_
              refine ev_ifeq f355_29 (fun c75791 => ?_) (fun c75791 => ?_)
              · refine ev_iconst ?_
                refine ev_goto f355_34 ?_
                refine ev_ret rfl (by decide) (by decide) ?_
                show jEv _ _ _ _ _ _ _ (_, [(2, 42), (0, a1), (0, a2)], [(0, 1)], _, _, _)
                refine ev_ifeq f377_72 (fun c75792 => absurd c75792 (by omega)) (fun c75792 => ?_)
                refine ev_aload_n rfl ?_
                refine g_getp (r := 42) (c := 60) g ad42 (by decide) (by decide) rf42_29 ft12_29 ?_
                refine ev_aload_n rfl ?_
                refine g_getp (r := 42) (c := 79) g ad42 (by decide) (by decide) rf42_62 ft12_62 ?_
                refine ev_iload_n rfl ?_
                refine g_ialdv (v := v75787) g ad79 (by omega) (by omega) (ev75787) ?_
                refine g_ialdv (v := v75790) g ad60 (by omega) (by omega) (ev75790) ?_
                refine ev_goto f377_74 ?_
                exact ev_ret rfl (by decide) (by decide) ⟨_, rfl, g, k0, Or.inr ⟨by omega, Or.inr ⟨by rw [ev75787]; omega, Or.inr ⟨by rw [ev75787]; omega, Or.inl ⟨by unfold unK; rw [ev75787, ev75790]; omega, by rw [ev75787, ev75790]⟩⟩⟩⟩⟩
              · refine ev_iload_n rfl ?_
                refine ev_iload_n rfl ?_
                refine ev_icmpeq f355_29 (fun c75793 => ?_) (fun c75793 => ?_)
                · refine ev_iconst ?_
                  refine ev_goto f355_34 ?_
                  refine ev_ret rfl (by decide) (by decide) ?_
                  show jEv _ _ _ _ _ _ _ (_, [(2, 42), (0, a1), (0, a2)], [(0, 1)], _, _, _)
                  refine ev_ifeq f377_72 (fun c75794 => absurd c75794 (by omega)) (fun c75794 => ?_)
                  refine ev_aload_n rfl ?_
                  refine g_getp (r := 42) (c := 60) g ad42 (by decide) (by decide) rf42_29 ft12_29 ?_
                  refine ev_aload_n rfl ?_
                  refine g_getp (r := 42) (c := 79) g ad42 (by decide) (by decide) rf42_62 ft12_62 ?_
                  refine ev_iload_n rfl ?_
                  refine g_ialdv (v := v75787) g ad79 (by omega) (by omega) (ev75787) ?_
                  refine g_ialdv (v := v75790) g ad60 (by omega) (by omega) (ev75790) ?_
                  refine ev_goto f377_74 ?_
                  exact ev_ret rfl (by decide) (by decide) ⟨_, rfl, g, k0, Or.inr ⟨by omega, Or.inr ⟨by rw [ev75787]; omega, Or.inr ⟨by rw [ev75787]; omega, Or.inl ⟨by unfold unK; rw [ev75787, ev75790]; omega, by rw [ev75787, ev75790]⟩⟩⟩⟩⟩
                · refine ev_iload_n rfl ?_
                  refine ev_iconst ?_
                  refine ev_icmpne f355_19 (fun c75795 => ?_) (fun c75795 => ?_)
                  · refine ev_iload_n rfl ?_
                    refine ev_iconst ?_
                    refine ev_icmpne f355_33 (fun c75796 => ?_) (fun c75796 => ?_)
                    · refine ev_iconst ?_
                      refine ev_ret rfl (by decide) (by decide) ?_
                      show jEv _ _ _ _ _ _ _ (_, [(2, 42), (0, a1), (0, a2)], [(0, 0)], _, _, _)
                      refine ev_ifeq f377_72 (fun c75797 => ?_) (fun c75797 => absurd c75797 (by omega))
                      refine ev_bipush ?_
                      exact ev_ret rfl (by decide) (by decide) ⟨_, rfl, g, k0, Or.inr ⟨by omega, Or.inr ⟨by rw [ev75787]; omega, Or.inr ⟨by rw [ev75787]; omega, Or.inr ⟨by unfold unK; rw [ev75787, ev75790]; omega, rfl⟩⟩⟩⟩⟩
                    · refine ev_iload_n rfl ?_
                      refine ev_iconst ?_
                      refine ev_icmpne f355_33 (fun c75798 => ?_) (fun c75798 => ?_)
                      · refine ev_iconst ?_
                        refine ev_ret rfl (by decide) (by decide) ?_
                        show jEv _ _ _ _ _ _ _ (_, [(2, 42), (0, a1), (0, a2)], [(0, 0)], _, _, _)
                        refine ev_ifeq f377_72 (fun c75799 => ?_) (fun c75799 => absurd c75799 (by omega))
                        refine ev_bipush ?_
                        exact ev_ret rfl (by decide) (by decide) ⟨_, rfl, g, k0, Or.inr ⟨by omega, Or.inr ⟨by rw [ev75787]; omega, Or.inr ⟨by rw [ev75787]; omega, Or.inr ⟨by unfold unK; rw [ev75787, ev75790]; omega, rfl⟩⟩⟩⟩⟩
                      · refine ev_iconst ?_
                        refine ev_goto f355_34 ?_
                        refine ev_ret rfl (by decide) (by decide) ?_
                        show jEv _ _ _ _ _ _ _ (_, [(2, 42), (0, a1), (0, a2)], [(0, 1)], _, _, _)
                        refine ev_ifeq f377_72 (fun c75800 => absurd c75800 (by omega)) (fun c75800 => ?_)
                        refine ev_aload_n rfl ?_
                        refine g_getp (r := 42) (c := 60) g ad42 (by decide) (by decide) rf42_29 ft12_29 ?_
                        refine ev_aload_n rfl ?_
                        refine g_getp (r := 42) (c := 79) g ad42 (by decide) (by decide) rf42_62 ft12_62 ?_
                        refine ev_iload_n rfl ?_
                        refine g_ialdv (v := v75787) g ad79 (by omega) (by omega) (ev75787) ?_
                        refine g_ialdv (v := v75790) g ad60 (by omega) (by omega) (ev75790) ?_
                        refine ev_goto f377_74 ?_
                        exact ev_ret rfl (by decide) (by decide) ⟨_, rfl, g, k0, Or.inr ⟨by omega, Or.inr ⟨by rw [ev75787]; omega, Or.inr ⟨by rw [ev75787]; omega, Or.inl ⟨by unfold unK; rw [ev75787, ev75790]; omega, by rw [ev75787, ev75790]⟩⟩⟩⟩⟩
                  · refine ev_iload_n rfl ?_
                    refine ev_iconst ?_
                    refine ev_icmpeq f355_29 (fun c75801 => ?_) (fun c75801 => ?_)
                    · refine ev_iconst ?_
                      refine ev_goto f355_34 ?_
                      refine ev_ret rfl (by decide) (by decide) ?_
                      show jEv _ _ _ _ _ _ _ (_, [(2, 42), (0, a1), (0, a2)], [(0, 1)], _, _, _)
                      refine ev_ifeq f377_72 (fun c75802 => absurd c75802 (by omega)) (fun c75802 => ?_)
                      refine ev_aload_n rfl ?_
                      refine g_getp (r := 42) (c := 60) g ad42 (by decide) (by decide) rf42_29 ft12_29 ?_
                      refine ev_aload_n rfl ?_
                      refine g_getp (r := 42) (c := 79) g ad42 (by decide) (by decide) rf42_62 ft12_62 ?_
                      refine ev_iload_n rfl ?_
                      refine g_ialdv (v := v75787) g ad79 (by omega) (by omega) (ev75787) ?_
                      refine g_ialdv (v := v75790) g ad60 (by omega) (by omega) (ev75790) ?_
                      refine ev_goto f377_74 ?_
                      exact ev_ret rfl (by decide) (by decide) ⟨_, rfl, g, k0, Or.inr ⟨by omega, Or.inr ⟨by rw [ev75787]; omega, Or.inr ⟨by rw [ev75787]; omega, Or.inl ⟨by unfold unK; rw [ev75787, ev75790]; omega, by rw [ev75787, ev75790]⟩⟩⟩⟩⟩
                    · refine ev_iload_n rfl ?_
                      refine ev_iconst ?_
                      refine ev_icmpne f355_33 (fun c75803 => ?_) (fun c75803 => absurd c75803 (by omega))
                      refine ev_iconst ?_
                      refine ev_ret rfl (by decide) (by decide) ?_
                      show jEv _ _ _ _ _ _ _ (_, [(2, 42), (0, a1), (0, a2)], [(0, 0)], _, _, _)
                      refine ev_ifeq f377_72 (fun c75804 => ?_) (fun c75804 => absurd c75804 (by omega))
                      refine ev_bipush ?_
                      exact ev_ret rfl (by decide) (by decide) ⟨_, rfl, g, k0, Or.inr ⟨by omega, Or.inr ⟨by rw [ev75787]; omega, Or.inr ⟨by rw [ev75787]; omega, Or.inr ⟨by unfold unK; rw [ev75787, ev75790]; omega, rfl⟩⟩⟩⟩⟩
          · refine ev_bipush ?_
            exact ev_ret rfl (by decide) (by decide) ⟨_, rfl, g, k0, Or.inr ⟨by omega, Or.inl ⟨by rw [ev75787]; omega, rfl⟩⟩⟩
set_option maxHeartbeats 4000000 in
theorem t212 {G : GH} {h : JH} (g : Gd G h) {a1 : Int} (la1 : (-2147483648) ≤ a1) (ua1 : a1 ≤ 2147483647) {a2 : Int} (la2 : (-2147483648) ≤ a2) (ua2 : a2 ≤ 2147483647) {w0 : Int} (ew0 : h.2.2 0 7 = w0) (lw0 : 0 ≤ w0) (uw0 : w0 ≤ 20) : jOk 2 0 0 212 [(2, 0), (0, a1), (0, a2)] h (fun v h' => ∃ r : Int, v = some (0, r) ∧ Gd G h' ∧ Kp [(37, 0), (38, 0)] h h' ∧ KeC h h' a1 a2 w0 r) := by
  refine ⟨by decide, by rw [ml212]; exact Nat.le_of_ble_eq_true rfl, ?_⟩
  rw [ml212, pp212]
  show jEv _ none _ c212_0 0 0 _ (c212_0, [(2, 0), (0, a1), (0, a2)], [], h, 0, 0)
  have k0 := Kp.rf [(37, 0), (38, 0)] h
  refine ev_iload_n rfl ?_
  refine ev_in (d := 0) (a := 0) (b := 0) (cd' := c222_0) (m := 1) (L0 := [(0, a1)]) (jcall_s (A := [(0, a1)]) (S' := []) (by decide) rfl (Nat.le_of_ble_eq_true rfl)) (by decide) ml222 pp222 (Nat.le_of_ble_eq_true rfl) rfl (by decide) (by decide) ?_
  refine ev_iload_n rfl ?_
  refine ev_iflt f222_14 (fun c75138 => ?_) (fun c75138 => ?_)
  · refine ev_iconst ?_
    refine ev_ret rfl (by decide) (by decide) ?_
    show jEv _ _ _ _ _ _ _ (_, [(2, 0), (0, a1), (0, a2)], [(0, 0)], _, _, _)
    refine ev_ifeq f212_20 (fun c75139 => ?_) (fun c75139 => absurd c75139 (by omega))
    refine ev_iconst ?_
    exact ev_ret rfl (by decide) (by decide) ⟨_, rfl, g, k0, Or.inl ⟨by unfold KV; omega, rfl, fun _ => rfl, fun _ => rfl⟩⟩
  · refine ev_iload_n rfl ?_
    refine ev_bipush ?_
    refine ev_icmpge f222_14 (fun c75140 => ?_) (fun c75140 => ?_)
    · refine ev_iconst ?_
      refine ev_ret rfl (by decide) (by decide) ?_
      show jEv _ _ _ _ _ _ _ (_, [(2, 0), (0, a1), (0, a2)], [(0, 0)], _, _, _)
      refine ev_ifeq f212_20 (fun c75141 => ?_) (fun c75141 => absurd c75141 (by omega))
      refine ev_iconst ?_
      exact ev_ret rfl (by decide) (by decide) ⟨_, rfl, g, k0, Or.inl ⟨by unfold KV; omega, rfl, fun _ => rfl, fun _ => rfl⟩⟩
    · refine ev_iconst ?_
      refine ev_goto f222_15 ?_
      refine ev_ret rfl (by decide) (by decide) ?_
      show jEv _ _ _ _ _ _ _ (_, [(2, 0), (0, a1), (0, a2)], [(0, 1)], _, _, _)
      refine ev_ifeq f212_20 (fun c75142 => absurd c75142 (by omega)) (fun c75142 => ?_)
      refine ev_iload_n rfl ?_
      refine ev_iconst ?_
      refine ev_icmpeq f212_22 (fun c75143 => ?_) (fun c75143 => ?_)
      · refine ev_aload_n rfl ?_
        refine g_getp (r := 0) (c := 37) g ad0 (by decide) (by decide) rf0_12 ft11_12 ?_
        refine ev_iload_n rfl ?_
        refine ev_iload_n rfl ?_
        refine ev_iconst ?_
        refine ev_icmpne f212_36 (fun c75144 => absurd c75144 (by omega)) (fun c75144 => ?_)
        refine ev_iconst ?_
        refine ev_goto f212_40 ?_
        refine g_iast g ad37 rt37 (fun _ => rfl) (by omega) (by omega) (by omega) (by omega) (fun h75145 e75145 g75145 => ?_)
        have k75145 := k0.wr e75145 rfl
        refine ev_aload_n rfl ?_
        refine g_getp (r := 0) (c := 38) g75145 ad0 (by decide) (by decide) rf0_13 ft11_13 ?_
        refine ev_iload_n rfl ?_
        refine ev_iconst ?_
        refine g_iast g75145 ad38 rt38 (fun _ => rfl) (by omega) (by omega) (by omega) (by omega) (fun h75146 e75146 g75146 => ?_)
        have k75146 := k75145.wr e75146 rfl
        refine ev_iconst ?_
        exact ev_ret rfl (by decide) (by decide) ⟨_, rfl, g75146, k75146, Or.inr ⟨by unfold KV; omega, rfl, (Up.kp (Up.mk2 (i := a1) (i' := a1) (v' := if a2 = -1 then -1 else a2 + 10) e75145 (by omega) (by split <;> omega)) ((Kp.rf [(38, 0)] _).wr e75146 rfl) (fun _ => rfl)), (Up.pk ((Kp.rf [(37, 0)] _).wr e75145 rfl) (fun _ => rfl) (Up.mk2 (i := a1) (i' := a1) (v' := 0) e75146 (by omega) (by omega)))⟩⟩
      · refine ev_aload_n rfl ?_
        refine ev_iload_n rfl ?_
        refine ev_in (d := 0) (a := 0) (b := 0) (cd' := c220_0) (m := 2) (L0 := [(2, 0), (0, a2)]) (jcall_v (A := [(0, a2)]) (S' := []) (r := 0) rfl (g.lt ad0) (g.tg ad0) (Nat.le_of_ble_eq_true rfl)) (by decide) ml220 pp220 (Nat.le_of_ble_eq_true rfl) rfl (by decide) (by decide) ?_
        refine ev_iload_n rfl ?_
        refine ev_iflt f220_12 (fun c75147 => ?_) (fun c75147 => ?_)
        · refine ev_aconst_null ?_
          refine ev_goto f220_22 ?_
          refine ev_ret rfl (by decide) (by decide) ?_
          show jEv _ _ _ _ _ _ _ (_, [(2, 0), (0, a1), (0, a2)], [(2, (-1))], _, _, _)
          refine ev_ifnonnull f212_22 (fun c75148 => absurd c75148 (by decide)) (fun c75148 => ?_)
          refine ev_iconst ?_
          exact ev_ret rfl (by decide) (by decide) ⟨_, rfl, g, k0, Or.inl ⟨by unfold KV; omega, rfl, fun _ => rfl, fun _ => rfl⟩⟩
        · refine ev_iload_n rfl ?_
          refine ev_aload_n rfl ?_
          refine g_getv (r := 0) (v := w0) g ad0 (by decide) ft11_7 (ew0) ?_
          refine ev_icmplt f220_16 (fun c75149 => ?_) (fun c75149 => ?_)
          · refine ev_aload_n rfl ?_
            refine g_getp (r := 0) (c := 24) g ad0 (by decide) (by decide) rf0_6 ft11_6 ?_
            refine ev_iload_n rfl ?_
            refine g_faald (g) (i := a2) (ew0) (by omega) (by omega) (fun f75150 qf75150 => ?_)
            refine ev_ret rfl (by decide) (by decide) ?_
            show jEv _ _ _ _ _ _ _ (_, [(2, 0), (0, a1), (0, a2)], [(2, (f75150 : Int))], _, _, _)
            refine ev_ifnonnull f212_22 (fun c75151 => ?_) (fun c75151 => absurd c75151 (by omega))
            refine ev_aload_n rfl ?_
            refine g_getp (r := 0) (c := 37) g ad0 (by decide) (by decide) rf0_12 ft11_12 ?_
            refine ev_iload_n rfl ?_
            refine ev_iload_n rfl ?_
            refine ev_iconst ?_
            refine ev_icmpne f212_36 (fun c75152 => ?_) (fun c75152 => absurd c75152 (by omega))
            refine ev_bipush ?_
            refine ev_iload_n rfl ?_
            refine ev_iadd (r := (a2 + 10)) (by unfold w32; omega) ?_
            refine g_iast g ad37 rt37 (fun _ => rfl) (by omega) (by omega) (by omega) (by omega) (fun h75153 e75153 g75153 => ?_)
            have k75153 := k0.wr e75153 rfl
            refine ev_aload_n rfl ?_
            refine g_getp (r := 0) (c := 38) g75153 ad0 (by decide) (by decide) rf0_13 ft11_13 ?_
            refine ev_iload_n rfl ?_
            refine ev_iconst ?_
            refine g_iast g75153 ad38 rt38 (fun _ => rfl) (by omega) (by omega) (by omega) (by omega) (fun h75154 e75154 g75154 => ?_)
            have k75154 := k75153.wr e75154 rfl
            refine ev_iconst ?_
            exact ev_ret rfl (by decide) (by decide) ⟨_, rfl, g75154, k75154, Or.inr ⟨by unfold KV; omega, rfl, (Up.kp (Up.mk2 (i := a1) (i' := a1) (v' := if a2 = -1 then -1 else a2 + 10) e75153 (by omega) (by split <;> omega)) ((Kp.rf [(38, 0)] _).wr e75154 rfl) (fun _ => rfl)), (Up.pk ((Kp.rf [(37, 0)] _).wr e75153 rfl) (fun _ => rfl) (Up.mk2 (i := a1) (i' := a1) (v' := 0) e75154 (by omega) (by omega)))⟩⟩
          · refine ev_aconst_null ?_
            refine ev_goto f220_22 ?_
            refine ev_ret rfl (by decide) (by decide) ?_
            show jEv _ _ _ _ _ _ _ (_, [(2, 0), (0, a1), (0, a2)], [(2, (-1))], _, _, _)
            refine ev_ifnonnull f212_22 (fun c75155 => absurd c75155 (by decide)) (fun c75155 => ?_)
            refine ev_iconst ?_
            exact ev_ret rfl (by decide) (by decide) ⟨_, rfl, g, k0, Or.inl ⟨by unfold KV; omega, rfl, fun _ => rfl, fun _ => rfl⟩⟩
set_option maxHeartbeats 4000000 in
theorem t371 {G : GH} {h : JH} (g : Gd G h) {a1 : Int} (la1 : (-2147483648) ≤ a1) (ua1 : a1 ≤ 2147483647) {a2 : Int} (la2 : (-2147483648) ≤ a2) (ua2 : a2 ≤ 2147483647) {w0 : Int} (ew0 : h.2.2 42 28 = w0) (lw0 : 0 ≤ w0) (uw0 : w0 ≤ 20) : jOk 3 0 0 371 [(2, 42), (0, a1), (0, a2)] h (fun v h' => ∃ r : Int, v = some (0, r) ∧ Gd G h' ∧ Kp [(79, 0)] h h' ∧ KeR h h' a1 a2 w0 r) := by
  refine ⟨by decide, by rw [ml371]; exact Nat.le_of_ble_eq_true rfl, ?_⟩
  rw [ml371, pp371]
  show jEv _ none _ c371_0 0 0 _ (c371_0, [(2, 42), (0, a1), (0, a2)], [], h, 0, 0)
  have k0 := Kp.rf [(79, 0)] h
  refine ev_iload_n rfl ?_
  refine ev_in (d := 1) (a := 0) (b := 0) (cd' := c370_0) (m := 1) (L0 := [(0, a1)]) (jcall_s (A := [(0, a1)]) (S' := []) (by decide) rfl (Nat.le_of_ble_eq_true rfl)) (by decide) ml370 pp370 (Nat.le_of_ble_eq_true rfl) rfl (by decide) (by decide) ?_
  refine ev_iload_n rfl ?_
  refine ev_iconst ?_
  refine ev_iconst ?_
  refine ev_in (d := 0) (a := 0) (b := 0) (cd' := c242_0) (m := 3) (L0 := [(0, a1), (0, 0), (0, 5)]) (jcall_s (A := [(0, 5), (0, 0), (0, a1)]) (S' := []) (by decide) rfl (Nat.le_of_ble_eq_true rfl)) (by decide) ml242 pp242 (Nat.le_of_ble_eq_true rfl) rfl (by decide) (by decide) ?_
  refine ev_iload_n rfl ?_
  refine ev_iload_n rfl ?_
  refine ev_icmplt f242_14 (fun c75182 => ?_) (fun c75182 => ?_)
  · refine ev_iconst ?_
    refine ev_ret rfl (by decide) (by decide) ?_
    show jEv _ _ _ _ _ _ _ (_, [(0, a1)], [(0, 0)], _, _, _)
    refine ev_ret rfl (by decide) (by decide) ?_
    show jEv _ _ _ _ _ _ _ (_, [(2, 42), (0, a1), (0, a2)], [(0, 0)], _, _, _)
    refine ev_ifeq f371_20 (fun c75183 => ?_) (fun c75183 => absurd c75183 (by omega))
    refine ev_iconst ?_
    exact ev_ret rfl (by decide) (by decide) ⟨_, rfl, g, k0, Or.inl ⟨by unfold KV; omega, rfl, fun _ => rfl⟩⟩
  · refine ev_iload_n rfl ?_
    refine ev_iload_n rfl ?_
    refine ev_icmpgt f242_14 (fun c75184 => ?_) (fun c75184 => ?_)
    · refine ev_iconst ?_
      refine ev_ret rfl (by decide) (by decide) ?_
      show jEv _ _ _ _ _ _ _ (_, [(0, a1)], [(0, 0)], _, _, _)
      refine ev_ret rfl (by decide) (by decide) ?_
      show jEv _ _ _ _ _ _ _ (_, [(2, 42), (0, a1), (0, a2)], [(0, 0)], _, _, _)
      refine ev_ifeq f371_20 (fun c75185 => ?_) (fun c75185 => absurd c75185 (by omega))
      refine ev_iconst ?_
      exact ev_ret rfl (by decide) (by decide) ⟨_, rfl, g, k0, Or.inl ⟨by unfold KV; omega, rfl, fun _ => rfl⟩⟩
    · refine ev_iconst ?_
      refine ev_goto f242_15 ?_
      refine ev_ret rfl (by decide) (by decide) ?_
      show jEv _ _ _ _ _ _ _ (_, [(0, a1)], [(0, 1)], _, _, _)
      refine ev_ret rfl (by decide) (by decide) ?_
      show jEv _ _ _ _ _ _ _ (_, [(2, 42), (0, a1), (0, a2)], [(0, 1)], _, _, _)
      refine ev_ifeq f371_20 (fun c75186 => absurd c75186 (by omega)) (fun c75186 => ?_)
      refine ev_iload_n rfl ?_
      refine ev_iconst ?_
      refine ev_icmpeq f371_22 (fun c75187 => ?_) (fun c75187 => ?_)
      · refine ev_aload_n rfl ?_
        refine g_getp (r := 42) (c := 79) g ad42 (by decide) (by decide) rf42_62 ft12_62 ?_
        refine ev_iload_n rfl ?_
        refine ev_iload_n rfl ?_
        refine g_iast g ad79 rt79 (fun _ => rfl) (by omega) (by omega) (by omega) (by omega) (fun h75188 e75188 g75188 => ?_)
        have k75188 := k0.wr e75188 rfl
        refine ev_iconst ?_
        exact ev_ret rfl (by decide) (by decide) ⟨_, rfl, g75188, k75188, Or.inr ⟨by unfold KV; omega, rfl, (Up.mk2 (i := a1) (i' := a1) (v' := a2) e75188 (by omega) (by omega))⟩⟩
      · refine ev_aload_n rfl ?_
        refine ev_iload_n rfl ?_
        refine ev_in (d := 1) (a := 0) (b := 0) (cd' := c284_0) (m := 2) (L0 := [(2, 42), (0, a2)]) (jcall_v (A := [(0, a2)]) (S' := []) (r := 42) rfl (g.lt ad42) (g.tg ad42) (Nat.le_of_ble_eq_true rfl)) (by decide) ml284 pp284 (Nat.le_of_ble_eq_true rfl) rfl (by decide) (by decide) ?_
        refine ev_iload_n rfl ?_
        refine ev_iconst ?_
        refine ev_aload_n rfl ?_
        refine g_getv (r := 42) (v := w0) g ad42 (by decide) ft12_28 (ew0) ?_
        refine ev_iconst ?_
        refine ev_isub (r := (w0 - 1)) (by unfold w32; omega) ?_
        refine ev_in (d := 0) (a := 0) (b := 0) (cd' := c242_0) (m := 3) (L0 := [(0, a2), (0, 0), (0, (w0 - 1))]) (jcall_s (A := [(0, (w0 - 1)), (0, 0), (0, a2)]) (S' := []) (by decide) rfl (Nat.le_of_ble_eq_true rfl)) (by decide) ml242 pp242 (Nat.le_of_ble_eq_true rfl) rfl (by decide) (by decide) ?_
        refine ev_iload_n rfl ?_
        refine ev_iload_n rfl ?_
        refine ev_icmplt f242_14 (fun c75189 => ?_) (fun c75189 => ?_)
        · refine ev_iconst ?_
          refine ev_ret rfl (by decide) (by decide) ?_
          show jEv _ _ _ _ _ _ _ (_, [(2, 42), (0, a2)], [(0, 0)], _, _, _)
          refine ev_ret rfl (by decide) (by decide) ?_
          show jEv _ _ _ _ _ _ _ (_, [(2, 42), (0, a1), (0, a2)], [(0, 0)], _, _, _)
          refine ev_ifne f371_22 (fun c75190 => absurd c75190 (by omega)) (fun c75190 => ?_)
          refine ev_iconst ?_
          exact ev_ret rfl (by decide) (by decide) ⟨_, rfl, g, k0, Or.inl ⟨by unfold KV; omega, rfl, fun _ => rfl⟩⟩
        · refine ev_iload_n rfl ?_
          refine ev_iload_n rfl ?_
          refine ev_icmpgt f242_14 (fun c75191 => ?_) (fun c75191 => ?_)
          · refine ev_iconst ?_
            refine ev_ret rfl (by decide) (by decide) ?_
            show jEv _ _ _ _ _ _ _ (_, [(2, 42), (0, a2)], [(0, 0)], _, _, _)
            refine ev_ret rfl (by decide) (by decide) ?_
            show jEv _ _ _ _ _ _ _ (_, [(2, 42), (0, a1), (0, a2)], [(0, 0)], _, _, _)
            refine ev_ifne f371_22 (fun c75192 => absurd c75192 (by omega)) (fun c75192 => ?_)
            refine ev_iconst ?_
            exact ev_ret rfl (by decide) (by decide) ⟨_, rfl, g, k0, Or.inl ⟨by unfold KV; omega, rfl, fun _ => rfl⟩⟩
          · refine ev_iconst ?_
            refine ev_goto f242_15 ?_
            refine ev_ret rfl (by decide) (by decide) ?_
            show jEv _ _ _ _ _ _ _ (_, [(2, 42), (0, a2)], [(0, 1)], _, _, _)
            refine ev_ret rfl (by decide) (by decide) ?_
            show jEv _ _ _ _ _ _ _ (_, [(2, 42), (0, a1), (0, a2)], [(0, 1)], _, _, _)
            refine ev_ifne f371_22 (fun c75193 => ?_) (fun c75193 => absurd c75193 (by omega))
            refine ev_aload_n rfl ?_
            refine g_getp (r := 42) (c := 79) g ad42 (by decide) (by decide) rf42_62 ft12_62 ?_
            refine ev_iload_n rfl ?_
            refine ev_iload_n rfl ?_
            refine g_iast g ad79 rt79 (fun _ => rfl) (by omega) (by omega) (by omega) (by omega) (fun h75194 e75194 g75194 => ?_)
            have k75194 := k0.wr e75194 rfl
            refine ev_iconst ?_
            exact ev_ret rfl (by decide) (by decide) ⟨_, rfl, g75194, k75194, Or.inr ⟨by unfold KV; omega, rfl, (Up.mk2 (i := a1) (i' := a1) (v' := a2) e75194 (by omega) (by omega))⟩⟩
set_option maxHeartbeats 4000000 in
theorem t213_l {G : GH} {h : JH} {a1 : Int} (la1 : (-2147483648) ≤ a1) (ua1 : a1 ≤ 2147483647) {a2 : Int} (la2 : (-2147483648) ≤ a2) (ua2 : a2 ≤ 2147483647) {a3 : Int} (la3 : (-2147483648) ≤ a3) (ua3 : a3 ≤ 2147483647) : ∀ N : Nat, (∀ (h1 : JH) (x4 : Int), Gd G h1 → Kp [(37, 0), (38, 0), (39, 0)] h h1 → 0 ≤ a1 → a1 ≤ 5 → 0 ≤ a2 → a2 ≤ 4 → 0 ≤ a3 → a3 ≤ 60 → 0 ≤ x4 → x4 ≤ 60 → Up h h1 37 a1 (a2) → Up h h1 38 a1 a3 → ((-x4) + 60) < N → jEv (jOk 1) none (fun _ => 0) c213_0 0 0 (fun v h' => ∃ r : Int, v = some (0, r) ∧ Gd G h' ∧ Kp [(37, 0), (38, 0), (39, 0)] h h' ∧ RoC h h' a1 a2 a3) (c213_48, [(2, 0), (0, a1), (0, a2), (0, a3), (0, x4)], [], h1, 0, 0)) := by
  intro N
  induction N with
  | zero => exact fun h1 x4 g1 k1 b0 b1 b2 b3 b4 b5 b6 b7 b8 b9 hm => absurd hm (by omega)
  | succ N ih =>
    show _
    intro h1 x4 g1 k1 b0 b1 b2 b3 b4 b5 b6 b7 H0 H1 hm
    refine ev_iload rfl ?_
    refine ev_iload_n rfl ?_
    refine ev_icmpge f213_73 (fun c75277 => ?_) (fun c75277 => ?_)
    · refine ev_iconst ?_
      exact ev_ret rfl (by decide) (by decide) ⟨_, rfl, g1, k1, Or.inr ⟨by unfold RV; omega, H0, H1⟩⟩
    · refine ev_aload_n rfl ?_
      refine g_getp (r := 0) (c := 39) g1 ad0 (by decide) (by decide) rf0_14 ft11_14 ?_
      refine ev_bipush ?_
      refine ev_iload_n rfl ?_
      refine ev_imul (r := (60 * a1)) (by unfold w32; omega) ?_
      refine ev_iload rfl ?_
      refine ev_iadd (r := (60 * a1 + x4)) (by unfold w32; omega) ?_
      refine ev_lconst ?_
      refine g_last g1 ad39 rt39 (fun _ => rfl) (by omega) (by omega) (by omega) (by omega) (fun h75278 e75278 g75278 => ?_)
      have k75278 := k1.wr e75278 rfl
      refine ev_iinc (w := (x4 + 1)) (L' := [(2, 0), (0, a1), (0, a2), (0, a3), (0, (x4 + 1))]) rfl (by unfold w32; omega) rfl ?_
      refine ev_goto f213_48 ?_
      exact ih _ _ g75278 k75278 (by omega) (by omega) (by omega) (by omega) (by omega) (by omega) (by omega) (by omega) (Up.kp H0 ((Kp.rf [(39, 0)] _).wr e75278 rfl) (fun _ => rfl)) (Up.kp H1 ((Kp.rf [(39, 0)] _).wr e75278 rfl) (fun _ => rfl)) (by omega)
set_option maxHeartbeats 4000000 in
theorem t213 {G : GH} {h : JH} (g : Gd G h) {a1 : Int} (la1 : (-2147483648) ≤ a1) (ua1 : a1 ≤ 2147483647) {a2 : Int} (la2 : (-2147483648) ≤ a2) (ua2 : a2 ≤ 2147483647) {a3 : Int} (la3 : (-2147483648) ≤ a3) (ua3 : a3 ≤ 2147483647) : jOk 2 0 0 213 [(2, 0), (0, a1), (0, a2), (0, a3)] h (fun v h' => ∃ r : Int, v = some (0, r) ∧ Gd G h' ∧ Kp [(37, 0), (38, 0), (39, 0)] h h' ∧ RoC h h' a1 a2 a3) := by
  refine ⟨by decide, by rw [ml213]; exact Nat.le_of_ble_eq_true rfl, ?_⟩
  rw [ml213, pp213]
  show jEv _ none _ c213_0 0 0 _ (c213_0, [(2, 0), (0, a1), (0, a2), (0, a3), (9, 0)], [], h, 0, 0)
  have k0 := Kp.rf [(37, 0), (38, 0), (39, 0)] h
  refine ev_iload_n rfl ?_
  refine ev_in (d := 0) (a := 0) (b := 0) (cd' := c222_0) (m := 1) (L0 := [(0, a1)]) (jcall_s (A := [(0, a1)]) (S' := []) (by decide) rfl (Nat.le_of_ble_eq_true rfl)) (by decide) ml222 pp222 (Nat.le_of_ble_eq_true rfl) rfl (by decide) (by decide) ?_
  refine ev_iload_n rfl ?_
  refine ev_iflt f222_14 (fun c75279 => ?_) (fun c75279 => ?_)
  · refine ev_iconst ?_
    refine ev_ret rfl (by decide) (by decide) ?_
    show jEv _ _ _ _ _ _ _ (_, [(2, 0), (0, a1), (0, a2), (0, a3), (9, 0)], [(0, 0)], _, _, _)
    refine ev_ifeq f213_22 (fun c75280 => ?_) (fun c75280 => absurd c75280 (by omega))
    refine ev_iconst ?_
    exact ev_ret rfl (by decide) (by decide) ⟨_, rfl, g, k0, Or.inl ⟨by unfold RV; omega, fun _ => rfl, fun _ => rfl⟩⟩
  · refine ev_iload_n rfl ?_
    refine ev_bipush ?_
    refine ev_icmpge f222_14 (fun c75281 => ?_) (fun c75281 => ?_)
    · refine ev_iconst ?_
      refine ev_ret rfl (by decide) (by decide) ?_
      show jEv _ _ _ _ _ _ _ (_, [(2, 0), (0, a1), (0, a2), (0, a3), (9, 0)], [(0, 0)], _, _, _)
      refine ev_ifeq f213_22 (fun c75282 => ?_) (fun c75282 => absurd c75282 (by omega))
      refine ev_iconst ?_
      exact ev_ret rfl (by decide) (by decide) ⟨_, rfl, g, k0, Or.inl ⟨by unfold RV; omega, fun _ => rfl, fun _ => rfl⟩⟩
    · refine ev_iconst ?_
      refine ev_goto f222_15 ?_
      refine ev_ret rfl (by decide) (by decide) ?_
      show jEv _ _ _ _ _ _ _ (_, [(2, 0), (0, a1), (0, a2), (0, a3), (9, 0)], [(0, 1)], _, _, _)
      refine ev_ifeq f213_22 (fun c75283 => absurd c75283 (by omega)) (fun c75283 => ?_)
      refine ev_iload_n rfl ?_
      refine ev_iflt f213_22 (fun c75284 => ?_) (fun c75284 => ?_)
      · refine ev_iconst ?_
        exact ev_ret rfl (by decide) (by decide) ⟨_, rfl, g, k0, Or.inl ⟨by unfold RV; omega, fun _ => rfl, fun _ => rfl⟩⟩
      · refine ev_iload_n rfl ?_
        refine ev_iconst ?_
        refine ev_icmpge f213_22 (fun c75285 => ?_) (fun c75285 => ?_)
        · refine ev_iconst ?_
          exact ev_ret rfl (by decide) (by decide) ⟨_, rfl, g, k0, Or.inl ⟨by unfold RV; omega, fun _ => rfl, fun _ => rfl⟩⟩
        · refine ev_iload_n rfl ?_
          refine ev_bipush ?_
          refine ev_icmple f213_24 (fun c75286 => ?_) (fun c75286 => ?_)
          · refine ev_iload_n rfl ?_
            refine ev_ifge f213_31 (fun c75287 => ?_) (fun c75287 => ?_)
            · refine ev_aload_n rfl ?_
              refine g_getp (r := 0) (c := 37) g ad0 (by decide) (by decide) rf0_12 ft11_12 ?_
              refine ev_iload_n rfl ?_
              refine ev_iload_n rfl ?_
              refine g_iast g ad37 rt37 (fun _ => rfl) (by omega) (by omega) (by omega) (by omega) (fun h75288 e75288 g75288 => ?_)
              have k75288 := k0.wr e75288 rfl
              refine ev_aload_n rfl ?_
              refine g_getp (r := 0) (c := 38) g75288 ad0 (by decide) (by decide) rf0_13 ft11_13 ?_
              refine ev_iload_n rfl ?_
              refine ev_iload_n rfl ?_
              refine g_iast g75288 ad38 rt38 (fun _ => rfl) (by omega) (by omega) (by omega) (by omega) (fun h75289 e75289 g75289 => ?_)
              have k75289 := k75288.wr e75289 rfl
              refine ev_iconst ?_
              refine ev_istore (L' := [(2, 0), (0, a1), (0, a2), (0, a3), (0, 0)]) (Nat.le_of_ble_eq_true rfl) rfl ?_
              exact (t213_l la1 ua1 la2 ua2 la3 ua3 122) _ _ g75289 k75289 (by omega) (by omega) (by omega) (by omega) (by omega) (by omega) (by omega) (by omega) (Up.kp (Up.mk2 (i := a1) (i' := a1) (v' := a2) e75288 (by omega) (by omega)) ((Kp.rf [(38, 0)] _).wr e75289 rfl) (fun _ => rfl)) (Up.pk ((Kp.rf [(37, 0)] _).wr e75288 rfl) (fun _ => rfl) (Up.mk2 (i := a1) (i' := a1) (v' := a3) e75289 (by omega) (by omega))) (by omega)
            · refine ev_bipush ?_
              exact ev_ret rfl (by decide) (by decide) ⟨_, rfl, g, k0, Or.inl ⟨by unfold RV; omega, fun _ => rfl, fun _ => rfl⟩⟩
          · refine ev_iconst ?_
            exact ev_ret rfl (by decide) (by decide) ⟨_, rfl, g, k0, Or.inl ⟨by unfold RV; omega, fun _ => rfl, fun _ => rfl⟩⟩
set_option maxHeartbeats 4000000 in
theorem t372_l {G : GH} {h : JH} {a1 : Int} (la1 : (-2147483648) ≤ a1) (ua1 : a1 ≤ 2147483647) {a2 : Int} (la2 : (-2147483648) ≤ a2) (ua2 : a2 ≤ 2147483647) {a3 : Int} (la3 : (-2147483648) ≤ a3) (ua3 : a3 ≤ 2147483647) : ∀ N : Nat, (∀ (h1 : JH) (x4 : Int), Gd G h1 → Kp [(79, 0), (80, 0), (81, 0)] h h1 → 0 ≤ a1 → a1 ≤ 5 → 0 ≤ a2 → a2 ≤ 4 → 0 ≤ a3 → a3 ≤ 60 → 0 ≤ x4 → x4 ≤ 360 → Up h h1 79 a1 (-2 - a2) → Up h h1 80 a1 a3 → ((-x4) + 360) < N → jEv (jOk 2) none (fun _ => 0) c372_0 0 0 (fun v h' => ∃ r : Int, v = some (0, r) ∧ Gd G h' ∧ Kp [(79, 0), (80, 0), (81, 0)] h h' ∧ RoR h h' a1 a2 a3) (c372_54, [(2, 42), (0, a1), (0, a2), (0, a3), (0, x4)], [], h1, 0, 0)) := by
  intro N
  induction N with
  | zero => exact fun h1 x4 g1 k1 b0 b1 b2 b3 b4 b5 b6 b7 b8 b9 hm => absurd hm (by omega)
  | succ N ih =>
    show _
    intro h1 x4 g1 k1 b0 b1 b2 b3 b4 b5 b6 b7 H0 H1 hm
    refine ev_iload rfl ?_
    refine ev_bipush ?_
    refine ev_iload_n rfl ?_
    refine ev_imul (r := (60 * a1)) (by unfold w32; omega) ?_
    refine ev_bipush ?_
    refine ev_iadd (r := (60 * a1 + 60)) (by unfold w32; omega) ?_
    refine ev_icmpge f372_80 (fun c75336 => ?_) (fun c75336 => ?_)
    · refine ev_iconst ?_
      exact ev_ret rfl (by decide) (by decide) ⟨_, rfl, g1, k1, Or.inr ⟨by unfold RV; omega, H0, H1⟩⟩
    · refine ev_aload_n rfl ?_
      refine g_getp (r := 42) (c := 81) g1 ad42 (by decide) (by decide) rf42_64 ft12_64 ?_
      refine ev_iload rfl ?_
      refine ev_lconst ?_
      refine g_last g1 ad81 rt81 (fun _ => rfl) (by omega) (by omega) (by omega) (by omega) (fun h75337 e75337 g75337 => ?_)
      have k75337 := k1.wr e75337 rfl
      refine ev_iinc (w := (x4 + 1)) (L' := [(2, 42), (0, a1), (0, a2), (0, a3), (0, (x4 + 1))]) rfl (by unfold w32; omega) rfl ?_
      refine ev_goto f372_54 ?_
      exact ih _ _ g75337 k75337 (by omega) (by omega) (by omega) (by omega) (by omega) (by omega) (by omega) (by omega) (Up.kp H0 ((Kp.rf [(81, 0)] _).wr e75337 rfl) (fun _ => rfl)) (Up.kp H1 ((Kp.rf [(81, 0)] _).wr e75337 rfl) (fun _ => rfl)) (by omega)
set_option maxHeartbeats 4000000 in
theorem t372 {G : GH} {h : JH} (g : Gd G h) {a1 : Int} (la1 : (-2147483648) ≤ a1) (ua1 : a1 ≤ 2147483647) {a2 : Int} (la2 : (-2147483648) ≤ a2) (ua2 : a2 ≤ 2147483647) {a3 : Int} (la3 : (-2147483648) ≤ a3) (ua3 : a3 ≤ 2147483647) : jOk 3 0 0 372 [(2, 42), (0, a1), (0, a2), (0, a3)] h (fun v h' => ∃ r : Int, v = some (0, r) ∧ Gd G h' ∧ Kp [(79, 0), (80, 0), (81, 0)] h h' ∧ RoR h h' a1 a2 a3) := by
  refine ⟨by decide, by rw [ml372]; exact Nat.le_of_ble_eq_true rfl, ?_⟩
  rw [ml372, pp372]
  show jEv _ none _ c372_0 0 0 _ (c372_0, [(2, 42), (0, a1), (0, a2), (0, a3), (9, 0)], [], h, 0, 0)
  have k0 := Kp.rf [(79, 0), (80, 0), (81, 0)] h
  refine ev_iload_n rfl ?_
  refine ev_in (d := 1) (a := 0) (b := 0) (cd' := c370_0) (m := 1) (L0 := [(0, a1)]) (jcall_s (A := [(0, a1)]) (S' := []) (by decide) rfl (Nat.le_of_ble_eq_true rfl)) (by decide) ml370 pp370 (Nat.le_of_ble_eq_true rfl) rfl (by decide) (by decide) ?_
  refine ev_iload_n rfl ?_
  refine ev_iconst ?_
  refine ev_iconst ?_
  refine ev_in (d := 0) (a := 0) (b := 0) (cd' := c242_0) (m := 3) (L0 := [(0, a1), (0, 0), (0, 5)]) (jcall_s (A := [(0, 5), (0, 0), (0, a1)]) (S' := []) (by decide) rfl (Nat.le_of_ble_eq_true rfl)) (by decide) ml242 pp242 (Nat.le_of_ble_eq_true rfl) rfl (by decide) (by decide) ?_
  refine ev_iload_n rfl ?_
  refine ev_iload_n rfl ?_
  refine ev_icmplt f242_14 (fun c75338 => ?_) (fun c75338 => ?_)
  · refine ev_iconst ?_
    refine ev_ret rfl (by decide) (by decide) ?_
    show jEv _ _ _ _ _ _ _ (_, [(0, a1)], [(0, 0)], _, _, _)
    refine ev_ret rfl (by decide) (by decide) ?_
    show jEv _ _ _ _ _ _ _ (_, [(2, 42), (0, a1), (0, a2), (0, a3), (9, 0)], [(0, 0)], _, _, _)
    refine ev_ifeq f372_22 (fun c75339 => ?_) (fun c75339 => absurd c75339 (by omega))
    refine ev_iconst ?_
    exact ev_ret rfl (by decide) (by decide) ⟨_, rfl, g, k0, Or.inl ⟨by unfold RV; omega, fun _ => rfl, fun _ => rfl⟩⟩
  · refine ev_iload_n rfl ?_
    refine ev_iload_n rfl ?_
    refine ev_icmpgt f242_14 (fun c75340 => ?_) (fun c75340 => ?_)
    · refine ev_iconst ?_
      refine ev_ret rfl (by decide) (by decide) ?_
      show jEv _ _ _ _ _ _ _ (_, [(0, a1)], [(0, 0)], _, _, _)
      refine ev_ret rfl (by decide) (by decide) ?_
      show jEv _ _ _ _ _ _ _ (_, [(2, 42), (0, a1), (0, a2), (0, a3), (9, 0)], [(0, 0)], _, _, _)
      refine ev_ifeq f372_22 (fun c75341 => ?_) (fun c75341 => absurd c75341 (by omega))
      refine ev_iconst ?_
      exact ev_ret rfl (by decide) (by decide) ⟨_, rfl, g, k0, Or.inl ⟨by unfold RV; omega, fun _ => rfl, fun _ => rfl⟩⟩
    · refine ev_iconst ?_
      refine ev_goto f242_15 ?_
      refine ev_ret rfl (by decide) (by decide) ?_
      show jEv _ _ _ _ _ _ _ (_, [(0, a1)], [(0, 1)], _, _, _)
      refine ev_ret rfl (by decide) (by decide) ?_
      show jEv _ _ _ _ _ _ _ (_, [(2, 42), (0, a1), (0, a2), (0, a3), (9, 0)], [(0, 1)], _, _, _)
      refine ev_ifeq f372_22 (fun c75342 => absurd c75342 (by omega)) (fun c75342 => ?_)
      refine ev_iload_n rfl ?_
      refine ev_iconst ?_
      refine ev_iconst ?_
      refine ev_in (d := 1) (a := 0) (b := 0) (cd' := c242_0) (m := 3) (L0 := [(0, a2), (0, 0), (0, 4)]) (jcall_s (A := [(0, 4), (0, 0), (0, a2)]) (S' := []) (by decide) rfl (Nat.le_of_ble_eq_true rfl)) (by decide) ml242 pp242 (Nat.le_of_ble_eq_true rfl) rfl (by decide) (by decide) ?_
      refine ev_iload_n rfl ?_
      refine ev_iload_n rfl ?_
      refine ev_icmplt f242_14 (fun c75343 => ?_) (fun c75343 => ?_)
      · refine ev_iconst ?_
        refine ev_ret rfl (by decide) (by decide) ?_
        show jEv _ _ _ _ _ _ _ (_, [(2, 42), (0, a1), (0, a2), (0, a3), (9, 0)], [(0, 0)], _, _, _)
        refine ev_ifeq f372_22 (fun c75344 => ?_) (fun c75344 => absurd c75344 (by omega))
        refine ev_iconst ?_
        exact ev_ret rfl (by decide) (by decide) ⟨_, rfl, g, k0, Or.inl ⟨by unfold RV; omega, fun _ => rfl, fun _ => rfl⟩⟩
      · refine ev_iload_n rfl ?_
        refine ev_iload_n rfl ?_
        refine ev_icmpgt f242_14 (fun c75345 => ?_) (fun c75345 => ?_)
        · refine ev_iconst ?_
          refine ev_ret rfl (by decide) (by decide) ?_
          show jEv _ _ _ _ _ _ _ (_, [(2, 42), (0, a1), (0, a2), (0, a3), (9, 0)], [(0, 0)], _, _, _)
          refine ev_ifeq f372_22 (fun c75346 => ?_) (fun c75346 => absurd c75346 (by omega))
          refine ev_iconst ?_
          exact ev_ret rfl (by decide) (by decide) ⟨_, rfl, g, k0, Or.inl ⟨by unfold RV; omega, fun _ => rfl, fun _ => rfl⟩⟩
        · refine ev_iconst ?_
          refine ev_goto f242_15 ?_
          refine ev_ret rfl (by decide) (by decide) ?_
          show jEv _ _ _ _ _ _ _ (_, [(2, 42), (0, a1), (0, a2), (0, a3), (9, 0)], [(0, 1)], _, _, _)
          refine ev_ifeq f372_22 (fun c75347 => absurd c75347 (by omega)) (fun c75347 => ?_)
          refine ev_iload_n rfl ?_
          refine ev_bipush ?_
          refine ev_icmple f372_24 (fun c75348 => ?_) (fun c75348 => ?_)
          · refine ev_iload_n rfl ?_
            refine ev_ifge f372_31 (fun c75349 => ?_) (fun c75349 => ?_)
            · refine ev_aload_n rfl ?_
              refine g_getp (r := 42) (c := 79) g ad42 (by decide) (by decide) rf42_62 ft12_62 ?_
              refine ev_iload_n rfl ?_
              refine ev_bipush ?_
              refine ev_iload_n rfl ?_
              refine ev_isub (r := ((-a2) - 2)) (by unfold w32; omega) ?_
              refine g_iast g ad79 rt79 (fun _ => rfl) (by omega) (by omega) (by omega) (by omega) (fun h75350 e75350 g75350 => ?_)
              have k75350 := k0.wr e75350 rfl
              refine ev_aload_n rfl ?_
              refine g_getp (r := 42) (c := 80) g75350 ad42 (by decide) (by decide) rf42_63 ft12_63 ?_
              refine ev_iload_n rfl ?_
              refine ev_iload_n rfl ?_
              refine g_iast g75350 ad80 rt80 (fun _ => rfl) (by omega) (by omega) (by omega) (by omega) (fun h75351 e75351 g75351 => ?_)
              have k75351 := k75350.wr e75351 rfl
              refine ev_bipush ?_
              refine ev_iload_n rfl ?_
              refine ev_imul (r := (60 * a1)) (by unfold w32; omega) ?_
              refine ev_istore (L' := [(2, 42), (0, a1), (0, a2), (0, a3), (0, (60 * a1))]) (Nat.le_of_ble_eq_true rfl) rfl ?_
              exact (t372_l la1 ua1 la2 ua2 la3 ua3 722) _ _ g75351 k75351 (by omega) (by omega) (by omega) (by omega) (by omega) (by omega) (by omega) (by omega) (Up.kp (Up.mk2 (i := a1) (i' := a1) (v' := -2 - a2) e75350 (by omega) (by omega)) ((Kp.rf [(80, 0)] _).wr e75351 rfl) (fun _ => rfl)) (Up.pk ((Kp.rf [(79, 0)] _).wr e75350 rfl) (fun _ => rfl) (Up.mk2 (i := a1) (i' := a1) (v' := a3) e75351 (by omega) (by omega))) (by omega)
            · refine ev_bipush ?_
              exact ev_ret rfl (by decide) (by decide) ⟨_, rfl, g, k0, Or.inl ⟨by unfold RV; omega, fun _ => rfl, fun _ => rfl⟩⟩
          · refine ev_iconst ?_
            exact ev_ret rfl (by decide) (by decide) ⟨_, rfl, g, k0, Or.inl ⟨by unfold RV; omega, fun _ => rfl, fun _ => rfl⟩⟩
theorem jn11 : jN 11 = 17 := by decide +kernel
theorem jn12 : jN 12 = 66 := by decide +kernel
theorem ml384 : jML jnM = 4 := by decide +kernel
theorem pp384 : jP jnM = c384_0 := rfl
set_option maxRecDepth 100000 in
theorem jlawN : jchkN jnM = true := jchkNF_ok (by decide +kernel)
set_option maxRecDepth 100000 in
theorem f384_18 : jfind c384_0 18 = some c384_18 := rfl
set_option maxRecDepth 100000 in
theorem f384_260 : jfind c384_0 260 = some c384_260 := rfl
set_option maxRecDepth 100000 in
theorem f384_283 : jfind c384_0 283 = some c384_283 := rfl
set_option maxRecDepth 100000 in
theorem f384_316 : jfind c384_0 316 = some c384_316 := rfl
set_option maxRecDepth 100000 in
theorem f384_369 : jfind c384_0 369 = some c384_369 := rfl
set_option maxRecDepth 100000 in
theorem f384_382 : jfind c384_0 382 = some c384_382 := rfl
set_option maxRecDepth 100000 in
theorem f384_405 : jfind c384_0 405 = some c384_405 := rfl
set_option maxRecDepth 100000 in
theorem f384_448 : jfind c384_0 448 = some c384_448 := rfl
set_option maxRecDepth 100000 in
theorem f384_481 : jfind c384_0 481 = some c384_481 := rfl
set_option maxRecDepth 100000 in
theorem f384_494 : jfind c384_0 494 = some c384_494 := rfl
set_option maxRecDepth 100000 in
theorem f384_537 : jfind c384_0 537 = some c384_537 := rfl
set_option maxRecDepth 100000 in
theorem f384_590 : jfind c384_0 590 = some c384_590 := rfl
set_option maxRecDepth 100000 in
theorem f384_603 : jfind c384_0 603 = some c384_603 := rfl
set_option maxRecDepth 100000 in
theorem f384_616 : jfind c384_0 616 = some c384_616 := rfl
set_option maxRecDepth 100000 in
theorem f384_649 : jfind c384_0 649 = some c384_649 := rfl
set_option maxRecDepth 100000 in
theorem f384_682 : jfind c384_0 682 = some c384_682 := rfl
set_option maxRecDepth 100000 in
theorem f384_715 : jfind c384_0 715 = some c384_715 := rfl
set_option maxRecDepth 100000 in
theorem f384_758 : jfind c384_0 758 = some c384_758 := rfl
set_option maxRecDepth 100000 in
theorem f384_801 : jfind c384_0 801 = some c384_801 := rfl
set_option maxRecDepth 100000 in
theorem f384_844 : jfind c384_0 844 = some c384_844 := rfl
set_option maxRecDepth 100000 in
theorem f384_877 : jfind c384_0 877 = some c384_877 := rfl
set_option maxRecDepth 100000 in
theorem f384_930 : jfind c384_0 930 = some c384_930 := rfl
set_option maxRecDepth 100000 in
theorem f384_963 : jfind c384_0 963 = some c384_963 := rfl
set_option maxRecDepth 100000 in
theorem f384_1006 : jfind c384_0 1006 = some c384_1006 := rfl
set_option maxRecDepth 100000 in
theorem f384_1059 : jfind c384_0 1059 = some c384_1059 := rfl
set_option maxRecDepth 100000 in
theorem f384_1082 : jfind c384_0 1082 = some c384_1082 := rfl
set_option maxRecDepth 100000 in
theorem f384_1125 : jfind c384_0 1125 = some c384_1125 := rfl
set_option maxRecDepth 100000 in
theorem f384_1178 : jfind c384_0 1178 = some c384_1178 := rfl
set_option maxRecDepth 100000 in
theorem f384_1201 : jfind c384_0 1201 = some c384_1201 := rfl
set_option maxRecDepth 100000 in
theorem f384_1254 : jfind c384_0 1254 = some c384_1254 := rfl
set_option maxRecDepth 100000 in
theorem f384_1307 : jfind c384_0 1307 = some c384_1307 := rfl
set_option maxRecDepth 100000 in
theorem f384_1340 : jfind c384_0 1340 = some c384_1340 := rfl
set_option maxRecDepth 100000 in
theorem f384_1383 : jfind c384_0 1383 = some c384_1383 := rfl
set_option maxRecDepth 100000 in
theorem f384_1406 : jfind c384_0 1406 = some c384_1406 := rfl
set_option maxRecDepth 100000 in
theorem f384_1429 : jfind c384_0 1429 = some c384_1429 := rfl
set_option maxRecDepth 100000 in
theorem f384_1452 : jfind c384_0 1452 = some c384_1452 := rfl
set_option maxRecDepth 100000 in
theorem f384_1495 : jfind c384_0 1495 = some c384_1495 := rfl
set_option maxRecDepth 100000 in
theorem f384_1518 : jfind c384_0 1518 = some c384_1518 := rfl
set_option maxRecDepth 100000 in
theorem f384_1551 : jfind c384_0 1551 = some c384_1551 := rfl
set_option maxRecDepth 100000 in
theorem f384_1564 : jfind c384_0 1564 = some c384_1564 := rfl
set_option maxRecDepth 100000 in
theorem f384_1597 : jfind c384_0 1597 = some c384_1597 := rfl
set_option maxRecDepth 100000 in
theorem f384_1630 : jfind c384_0 1630 = some c384_1630 := rfl
set_option maxRecDepth 100000 in
theorem f384_1683 : jfind c384_0 1683 = some c384_1683 := rfl
set_option maxRecDepth 100000 in
theorem f384_1726 : jfind c384_0 1726 = some c384_1726 := rfl
set_option maxRecDepth 100000 in
theorem f384_1769 : jfind c384_0 1769 = some c384_1769 := rfl
set_option maxRecDepth 100000 in
theorem f384_1812 : jfind c384_0 1812 = some c384_1812 := rfl
set_option maxRecDepth 100000 in
theorem f384_1855 : jfind c384_0 1855 = some c384_1855 := rfl
set_option maxRecDepth 100000 in
theorem f384_1878 : jfind c384_0 1878 = some c384_1878 := rfl
set_option maxRecDepth 100000 in
theorem f384_1911 : jfind c384_0 1911 = some c384_1911 := rfl
set_option maxRecDepth 100000 in
theorem f384_1954 : jfind c384_0 1954 = some c384_1954 := rfl
set_option maxRecDepth 100000 in
theorem f384_2027 : jfind c384_0 2027 = some c384_2027 := rfl
set_option maxRecDepth 100000 in
theorem f384_2060 : jfind c384_0 2060 = some c384_2060 := rfl
set_option maxRecDepth 100000 in
theorem f384_2123 : jfind c384_0 2123 = some c384_2123 := rfl
set_option maxRecDepth 100000 in
theorem f384_2156 : jfind c384_0 2156 = some c384_2156 := rfl
set_option maxRecDepth 100000 in
theorem f384_2179 : jfind c384_0 2179 = some c384_2179 := rfl
set_option maxRecDepth 100000 in
theorem f384_2185 : jfind c384_0 2185 = some c384_2185 := rfl

