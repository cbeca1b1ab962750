def Up (h h' : JH) (a : Nat) (i v : Int) : Prop := h'.2.2 a i.toNat = v ∧ ∀ j : Nat, j ≠ i.toNat → h'.2.2 a j = h.2.2 a j
theorem Up.mk2 {h h' : JH} {a : Nat} {i i' v v' : Int} (e : h' = jwr h a i.toNat v) (hi : i' = i) (hv : v' = v) : Up h h' a i' v' := by
  subst hi
  subst hv
  exact ⟨jw_eq e, fun j hj => jw_ne e (Or.inr hj)⟩
theorem Up.kp {W : List (Nat × Nat)} {h h1 h2 : JH} {a : Nat} {i v : Int} (u : Up h h1 a i v) (k : Kp W h1 h2) (c : ∀ j, inW W a j = false) : Up h h2 a i v := ⟨(k.v (c _)).trans u.1, fun j hj => (k.v (c _)).trans (u.2 j hj)⟩
theorem Up.pk {W : List (Nat × Nat)} {h h1 h2 : JH} {a : Nat} {i v : Int} (k : Kp W h h1) (c : ∀ j, inW W a j = false) (u : Up h1 h2 a i v) : Up h h2 a i v := ⟨u.1, fun j hj => (u.2 j hj).trans (k.v (c _))⟩
def Sm (h h' : JH) (a : Nat) : Prop := ∀ j : Nat, h'.2.2 a j = h.2.2 a j
def Sh (hc sc hr sr : Int) : Prop := (hc = -1 ∧ hr = -1) ∨ (0 ≤ hc ∧ hc ≤ 4 ∧ hr = -2 - hc ∧ sr = sc) ∨ (10 ≤ hc ∧ hr = hc - 10)
def El (h : JH) : Prop := ∀ s : Nat, s < 6 → 0 ≤ h.2.2 37 s → h.2.2 37 s ≤ 4 → ∀ i : Nat, (i : Int) < h.2.2 38 s → h.2.2 39 (60 * s + i) = h.2.2 81 (60 * s + i)
def C0 : List (Nat × Nat) := [(0, 8), (42, 29), (37, 0), (38, 0), (79, 0), (80, 0), (39, 0), (81, 0)]
def R0 (h : JH) : Prop := h.2.2 0 7 = h.2.2 42 28 ∧ (∀ s : Nat, s < 6 → Sh (h.2.2 37 s) (h.2.2 38 s) (h.2.2 79 s) (h.2.2 80 s)) ∧ El h
theorem R0.fr {h h' : JH} (x : R0 h) (e : ∀ a i, inW C0 a i = true → h'.2.2 a i = h.2.2 a i) : R0 h' := by
  refine ⟨by rw [e 0 7 rfl, e 42 28 rfl]; exact x.1, fun s hs => ?_, fun s hs a b i hi => ?_⟩
  · rw [e 37 _ rfl, e 38 _ rfl, e 79 _ rfl, e 80 _ rfl]
    exact x.2.1 s hs
  · rw [e 37 _ rfl] at a b
    rw [e 38 _ rfl] at hi
    rw [e 39 _ rfl, e 81 _ rfl]
    exact x.2.2 s hs a b i hi
/-- n cells from b on are 0, the others as they were -/
def Zr (h h' : JH) (a : Nat) (b n : Int) : Prop := (∀ j : Nat, b ≤ (j : Int) → (j : Int) < b + n → h'.2.2 a j = 0) ∧ ∀ j : Nat, ((j : Int) < b ∨ b + n ≤ (j : Int)) → h'.2.2 a j = h.2.2 a j
theorem Zr.start {W : List (Nat × Nat)} {h h1 : JH} {a : Nat} (b : Int) {n : Int} (k : Kp W h h1) (c : ∀ j, inW W a j = false) (hn : n = 0) : Zr h h1 a b n := ⟨fun j h1 h2 => by omega, fun j _ => k.v (c _)⟩
theorem Zr.to {h h' : JH} {a : Nat} {b n m : Int} (z : Zr h h' a b n) (e : n = m) : Zr h h' a b m := by subst e; exact z
theorem Zr.step {h h1 h2 : JH} {a : Nat} {b n i n' : Int} (z : Zr h h1 a b n) (b0 : 0 ≤ b) (n0 : 0 ≤ n) (e : h2 = jwr h1 a i.toNat 0) (hi : i = b + n) (hn : n' = n + 1) : Zr h h2 a b n' := by
  refine ⟨fun j j1 j2 => ?_, fun j hj => ?_⟩
  · rcases Decidable.em (j = i.toNat) with r | r
    · rw [r]; exact jw_eq e
    · rw [jw_ne e (Or.inr r)]; exact z.1 j j1 (by omega)
  · rw [jw_ne e (Or.inr (by omega))]
    exact z.2 j (by omega)
/-- n cells from sp on stand from dp on too -/
def Cp (h h' : JH) (a : Nat) (sp dp n : Int) : Prop := (∀ j : Nat, dp ≤ (j : Int) → (j : Int) < dp + n → h'.2.2 a j = h.2.2 a (sp + ((j : Int) - dp)).toNat) ∧ ∀ j : Nat, ((j : Int) < dp ∨ dp + n ≤ (j : Int)) → h'.2.2 a j = h.2.2 a j
section CpE
variable {ok : Nat → Nat → Nat → List AV → JH → (Option AV → JH → Prop) → Prop} {xl : Option Nat} {xs : Nat → Int} {cd : List JE} {mc ms : Nat} {Q : Option AV → JH → Prop} {K : List JE} {L S : List AV} {h : JH} {cu su pc n' : Nat} {ps : List Nat} {z lo hi : Int} {G : GH}
theorem g_copyE {x a t N : Nat} {n dp sp : Int} (g : Gd G h) (ha : AD a t N) (ht : t = 20 ∨ t = 21) (hr : ∀ j, rT a j = (lo, hi)) (hx : ∀ j, spx a j = false) (n0 : 0 ≤ n) (dp0 : 0 ≤ dp) (sp0 : 0 ≤ sp) (s1 : sp + n ≤ (N : Int)) (s2 : dp + n ≤ (N : Int)) (hw : jwid S ≤ 8) (kk : ∀ h', Gd G h' → Kp [(a, 0)] h h' → Cp h h' a sp dp n → jEv ok xl xs cd mc ms Q (K, L, S, h', cu, su)) : jEv ok xl xs cd mc ms Q ((pc, .invokestatic x, n', 7 :: ps, z) :: K, L, (0, n) :: (0, dp) :: (2, (a : Int)) :: (0, sp) :: (2, (a : Int)) :: S, h, cu, su) := by
  refine ev_copy n0 dp0 sp0 (g.lt ha) (g.lt ha) rfl (by rw [g.tg ha]; exact ht) (by rw [g.ln ha]; omega) (by rw [g.ln ha]; omega) hw (kk _ (g.upd ha hx hr rfl rfl (fun k j hk => jcpy_ne hk) (fun j hj => ?_)) ⟨rfl, rfl, fun b i hb => ?_⟩ ⟨fun j j1 j2 => ?_, fun j hj => ?_⟩)
  · rw [jcpy_at]
    split
    · exact g.rg ha (by omega) (hr _)
    · exact g.rg ha hj (hr _)
  · by_cases e : b = a
    · subst e
      simp [inW] at hb
    · exact jcpy_ne e
  · rw [jcpy_at, if_pos (by omega), show sp.toNat + (j - dp.toNat) = (sp + ((j : Int) - dp)).toNat by omega]
  · rw [jcpy_at, if_neg (by omega)]
end CpE
/-- the first loop of the reference's shift -/
def T1 (h h1 : JH) (sp x : Int) : Prop := (∀ j : Nat, h1.2.2 81 j = h.2.2 81 j) ∧ ∀ t : Nat, (t : Int) < x → h1.2.2 82 t = h.2.2 81 (sp + (t : Int)).toNat
theorem T1.start (h : JH) (sp : Int) : T1 h h sp 0 := ⟨fun _ => rfl, fun t ht => by omega⟩
theorem T1.step {h h1 h2 : JH} {sp x i v : Int} (z : T1 h h1 sp x) (x0 : 0 ≤ x) (s0 : 0 ≤ sp) (e81 : h1.2.2 81 i.toNat = v) (hi : i = sp + x) (e : h2 = jwr h1 82 x.toNat v) : T1 h h2 sp (x + 1) := by
  refine ⟨fun j => by rw [jw_ne e (Or.inl (by decide))]; exact z.1 j, fun t ht => ?_⟩
  rcases Decidable.em (t = x.toNat) with r | r
  · rw [r, jw_eq e, ← e81, z.1, show (sp + ((x.toNat : Nat) : Int)).toNat = i.toNat by omega]
  · rw [jw_ne e (Or.inr r)]; exact z.2 t (by omega)
def T2 (h h1 : JH) (sp dp n x : Int) : Prop := Cp h h1 81 sp dp x ∧ ∀ t : Nat, (t : Int) < n → h1.2.2 82 t = h.2.2 81 (sp + (t : Int)).toNat
theorem T2.start {h h1 : JH} {sp dp n x : Int} (z : T1 h h1 sp x) (hx : n ≤ x) : T2 h h1 sp dp n 0 := ⟨⟨fun j j1 j2 => by omega, fun j _ => z.1 j⟩, fun t ht => z.2 t (by omega)⟩
theorem T2.fin {h h1 : JH} {sp dp n x : Int} (z : T2 h h1 sp dp n x) (hx : x = n) : Cp h h1 81 sp dp n := by
  subst hx
  exact z.1
theorem T2.step {h h1 h2 : JH} {sp dp n x i v : Int} (z : T2 h h1 sp dp n x) (x0 : 0 ≤ x) (xn : x < n) (d0 : 0 ≤ dp) (e82 : h1.2.2 82 x.toNat = v) (hi : i = dp + x) (e : h2 = jwr h1 81 i.toNat v) : T2 h h2 sp dp n (x + 1) := by
  refine ⟨⟨fun j j1 j2 => ?_, fun j hj => ?_⟩, fun t ht => by rw [jw_ne e (Or.inl (by decide))]; exact z.2 t ht⟩
  · rcases Decidable.em (j = i.toNat) with r | r
    · have := z.2 x.toNat (by omega)
      rw [r, jw_eq e, ← e82, this, show (sp + ((x.toNat : Nat) : Int)).toNat = (sp + (((i.toNat : Nat) : Int) - dp)).toNat by omega]
    · rw [jw_ne e (Or.inr r)]; exact z.1.1 j j1 (by omega)
  · rw [jw_ne e (Or.inr (by omega))]; exact z.1.2 j (by omega)
def dsj (C W : List (Nat × Nat)) : Bool := C.all (fun c => decide (c.1 < 83) && W.all (fun w => w.1 != c.1 || (w.2 != 0 && c.2 != 0 && w.2 != c.2)))
theorem dsj_at {C W : List (Nat × Nat)} (h : dsj C W = true) {a i : Nat} (hc : inW C a i = true) : a < 83 ∧ inW W a i = false := by
  unfold inW at hc
  obtain ⟨c, hm, hq⟩ := List.any_eq_true.mp hc
  have h1 := List.all_eq_true.mp h c hm
  rw [Bool.and_eq_true, decide_eq_true_eq] at h1
  simp only [Bool.or_eq_true, Bool.and_eq_true, beq_iff_eq, decide_eq_true_eq] at hq
  have ha : a < 83 := by omega
  refine ⟨ha, ?_⟩
  unfold inW
  rw [List.any_eq_false]
  intro w hw hx
  have h2 := List.all_eq_true.mp h1.2 w hw
  simp only [Bool.or_eq_true, Bool.and_eq_true, bne_iff_ne] at h2
  simp only [Bool.or_eq_true, Bool.and_eq_true, beq_iff_eq, decide_eq_true_eq] at hx
  omega
theorem R0.kp {W : List (Nat × Nat)} {h h' : JH} (x : R0 h) (k : Kp W h h') (hd : dsj C0 W = true) : R0 h' := x.fr (fun a i hc => k.v (dsj_at hd hc).2)
theorem R0.kx {W : List (Nat × Nat)} {h h' : JH} (x : R0 h) (k : Kx W h h') (hd : dsj C0 W = true) (h83 : 83 ≤ h.1) : R0 h' := x.fr (fun a i hc => k.2.2 a i (Nat.lt_of_lt_of_le (dsj_at hd hc).1 h83) (dsj_at hd hc).2)
def KV (k f n : Int) : Prop := 0 ≤ k ∧ k ≤ 5 ∧ (f = -1 ∨ (0 ≤ f ∧ f < n))
def RV (k o n : Int) : Prop := 0 ≤ k ∧ k ≤ 5 ∧ 0 ≤ o ∧ o ≤ 4 ∧ 0 ≤ n ∧ n ≤ 60
def KeC (h h' : JH) (k f n r : Int) : Prop := (¬ KV k f n ∧ r = -1 ∧ Sm h h' 37 ∧ Sm h h' 38) ∨ (KV k f n ∧ r = 1 ∧ Up h h' 37 k (if f = -1 then -1 else f + 10) ∧ Up h h' 38 k 0)
def KeR (h h' : JH) (k f n r : Int) : Prop := (¬ KV k f n ∧ r = -1 ∧ Sm h h' 79) ∨ (KV k f n ∧ r = 1 ∧ Up h h' 79 k f)
def lbF (o v : Int) : Int := if o = 0 then w8 (w32 v) else if o = 1 then w16 (w32 v) else if o = 2 then w32 v else if o = 3 then v else if v = 0 then 0 else 1
def RoC (h h' : JH) (k o n : Int) : Prop := (¬ RV k o n ∧ Sm h h' 37 ∧ Sm h h' 38 ∧ Sm h h' 39) ∨ (RV k o n ∧ Up h h' 37 k o ∧ Up h h' 38 k n ∧ Zr h h' 39 (60 * k) n)
def RoR (h h' : JH) (k o n : Int) : Prop := (¬ RV k o n ∧ Sm h h' 79 ∧ Sm h h' 80 ∧ Sm h h' 81) ∨ (RV k o n ∧ Up h h' 79 k (-2 - o) ∧ Up h h' 80 k n ∧ Zr h h' 81 (60 * k) 60)
def PV0 (k i hc sc : Int) : Prop := 0 ≤ k ∧ k ≤ 5 ∧ 0 ≤ hc ∧ hc < 10 ∧ 0 ≤ i ∧ i < sc
def PV1 (k i hr sr : Int) : Prop := 0 ≤ k ∧ k ≤ 5 ∧ hr ≤ -2 ∧ 0 ≤ i ∧ i < sr
def PuC (h h' : JH) (k i v : Int) : Prop := (¬ PV0 k i (h.2.2 37 k.toNat) (h.2.2 38 k.toNat) ∧ Sm h h' 39) ∨ (PV0 k i (h.2.2 37 k.toNat) (h.2.2 38 k.toNat) ∧ Up h h' 39 (60 * k + i) (lbF (h.2.2 37 k.toNat) v))
def PuR (h h' : JH) (k i v : Int) : Prop := (¬ PV1 k i (h.2.2 79 k.toNat) (h.2.2 80 k.toNat) ∧ Sm h h' 81) ∨ (PV1 k i (h.2.2 79 k.toNat) (h.2.2 80 k.toNat) ∧ Up h h' 81 (60 * k + i) (lbF (-2 - h.2.2 79 k.toNat) v))
def SV0 (k i o j n hk ho sk so : Int) : Prop := 0 ≤ k ∧ k ≤ 5 ∧ 0 ≤ o ∧ o ≤ 5 ∧ 0 ≤ hk ∧ hk < 10 ∧ hk = ho ∧ 0 ≤ n ∧ 0 ≤ i ∧ 0 ≤ j ∧ i ≤ sk - n ∧ j ≤ so - n
def SV1 (k i o j n hk ho sk so : Int) : Prop := 0 ≤ k ∧ k ≤ 5 ∧ 0 ≤ o ∧ o ≤ 5 ∧ hk ≤ -2 ∧ hk = ho ∧ 0 ≤ n ∧ 0 ≤ i ∧ 0 ≤ j ∧ i ≤ sk - n ∧ j ≤ so - n
def SfC (h h' : JH) (k i o j n : Int) : Prop := (¬ SV0 k i o j n (h.2.2 37 k.toNat) (h.2.2 37 o.toNat) (h.2.2 38 k.toNat) (h.2.2 38 o.toNat) ∧ Sm h h' 39) ∨ (SV0 k i o j n (h.2.2 37 k.toNat) (h.2.2 37 o.toNat) (h.2.2 38 k.toNat) (h.2.2 38 o.toNat) ∧ Cp h h' 39 (60 * k + i) (60 * o + j) n)
def SfR (h h' : JH) (k i o j n : Int) : Prop := (¬ SV1 k i o j n (h.2.2 79 k.toNat) (h.2.2 79 o.toNat) (h.2.2 80 k.toNat) (h.2.2 80 o.toNat) ∧ Sm h h' 81) ∨ (SV1 k i o j n (h.2.2 79 k.toNat) (h.2.2 79 o.toNat) (h.2.2 80 k.toNat) (h.2.2 80 o.toNat) ∧ Cp h h' 81 (60 * k + i) (60 * o + j) n)
def NONE : Int := -9223372036854775808
def elC (h : JH) (k i : Int) (r : Int) : Prop := (¬ PV0 k i (h.2.2 37 k.toNat) (h.2.2 38 k.toNat) ∧ r = NONE) ∨ (PV0 k i (h.2.2 37 k.toNat) (h.2.2 38 k.toNat) ∧ r = h.2.2 39 (60 * k + i).toNat)
def elR (h : JH) (k i : Int) (r : Int) : Prop := (¬ PV1 k i (h.2.2 79 k.toNat) (h.2.2 80 k.toNat) ∧ r = NONE) ∨ (PV1 k i (h.2.2 79 k.toNat) (h.2.2 80 k.toNat) ∧ r = h.2.2 81 (60 * k + i).toNat)
theorem R0.sh {h : JH} (x : R0 h) {k : Int} (k0 : 0 ≤ k) (k5 : k ≤ 5) : Sh (h.2.2 37 k.toNat) (h.2.2 38 k.toNat) (h.2.2 79 k.toNat) (h.2.2 80 k.toNat) := x.2.1 k.toNat (by omega)
theorem R0.pv {h : JH} (x : R0 h) (k i : Int) : PV0 k i (h.2.2 37 k.toNat) (h.2.2 38 k.toNat) ↔ PV1 k i (h.2.2 79 k.toNat) (h.2.2 80 k.toNat) := by
  unfold PV0 PV1
  by_cases z : 0 ≤ k ∧ k ≤ 5
  · have y := x.sh z.1 z.2
    unfold Sh at y
    omega
  · omega
theorem R0.sv {h : JH} (x : R0 h) (k i o j n : Int) : SV0 k i o j n (h.2.2 37 k.toNat) (h.2.2 37 o.toNat) (h.2.2 38 k.toNat) (h.2.2 38 o.toNat) ↔ SV1 k i o j n (h.2.2 79 k.toNat) (h.2.2 79 o.toNat) (h.2.2 80 k.toNat) (h.2.2 80 o.toNat) := by
  unfold SV0 SV1
  by_cases z : 0 ≤ k ∧ k ≤ 5 ∧ 0 ≤ o ∧ o ≤ 5
  · have y := x.sh z.1 z.2.1
    have y2 := x.sh z.2.2.1 z.2.2.2
    unfold Sh at y y2
    omega
  · omega
theorem R0.el {h : JH} (x : R0 h) {k i r1 r2 : Int} (f1 : elC h k i r1) (f2 : elR h k i r2) : r1 = r2 := by
  rcases f1 with ⟨n1, q1⟩ | ⟨t1, q1⟩
  · rcases f2 with ⟨_, q2⟩ | ⟨t2, _⟩
    · exact q1.trans q2.symm
    · exact absurd ((x.pv k i).mpr t2) n1
  · rcases f2 with ⟨n2, _⟩ | ⟨_, q2⟩
    · exact absurd ((x.pv k i).mp t1) n2
    · rw [q1, q2]
      unfold PV0 at t1
      have w := x.sh t1.1 t1.2.1
      unfold Sh at w
      have := x.2.2 k.toNat (by omega) (by omega) (by omega) i.toNat (by omega)
      rw [show (60 * k + i).toNat = 60 * k.toNat + i.toNat by omega]
      exact this
theorem R0.keep {h h1 h2 : JH} {k f n r1 r2 : Int} (x : R0 h) (k1 : Kp [(37, 0), (38, 0)] h h1) (k2 : Kp [(79, 0)] h1 h2) (f1 : KeC h h1 k f n r1) (f2 : KeR h1 h2 k f n r2) : r1 = r2 ∧ R0 h2 := by
  have y1 : h2.2.2 0 7 = h2.2.2 42 28 := by rw [k2.v rfl, k1.v rfl, k2.v (a := 42) rfl, k1.v (a := 42) rfl]; exact x.1
  have e37 : ∀ j, h2.2.2 37 j = h1.2.2 37 j := fun j => k2.v rfl
  have e38 : ∀ j, h2.2.2 38 j = h1.2.2 38 j := fun j => k2.v rfl
  have e79 : ∀ j, h1.2.2 79 j = h.2.2 79 j := fun j => k1.v rfl
  have e80 : ∀ j, h2.2.2 80 j = h.2.2 80 j := fun j => (k2.v rfl).trans (k1.v rfl)
  have e39 : ∀ j, h2.2.2 39 j = h.2.2 39 j := fun j => (k2.v rfl).trans (k1.v rfl)
  have e81 : ∀ j, h2.2.2 81 j = h.2.2 81 j := fun j => (k2.v rfl).trans (k1.v rfl)
  rcases f1 with ⟨n1, q1, m1, m2⟩ | ⟨t1, q1, m1, m2⟩
  · rcases f2 with ⟨_, q2, m3⟩ | ⟨t2, _⟩
    · exact ⟨q1.trans q2.symm, y1, fun s hs => by rw [e37, e38, m1, m2, m3, e79, e80]; exact x.2.1 s hs, fun s hs a b i hi => by
        rw [e37, m1] at a b
        rw [e38, m2] at hi
        rw [e39, e81]
        exact x.2.2 s hs a b i hi⟩
    · exact absurd t2 n1
  · rcases f2 with ⟨n2, _⟩ | ⟨_, q2, m3⟩
    · exact absurd t1 n2
    · unfold KV at t1
      refine ⟨q1.trans q2.symm, y1, fun s hs => ?_, fun s hs a b i hi => ?_⟩
      · rw [e37, e38, e80]
        rcases Decidable.em (s = k.toNat) with z | z
        · rw [z, m1.1, m2.1, m3.1]
          unfold Sh
          split <;> omega
        · rw [m1.2 s z, m2.2 s z, m3.2 s z, e79]
          exact x.2.1 s hs
      · rw [e37] at a b
        rw [e38] at hi
        rw [e39, e81]
        rcases Decidable.em (s = k.toNat) with z | z
        · rw [z, m2.1] at hi
          omega
        · rw [m1.2 s z] at a b
          rw [m2.2 s z] at hi
          exact x.2.2 s hs a b i hi
theorem R0.row {h h1 h2 : JH} {k o n : Int} (x : R0 h) (hz : ∀ s : Nat, s < 6 → h.2.2 38 s ≤ 60) (k1 : Kp [(37, 0), (38, 0), (39, 0)] h h1) (k2 : Kp [(79, 0), (80, 0), (81, 0)] h1 h2) (f1 : RoC h h1 k o n) (f2 : RoR h1 h2 k o n) : R0 h2 := by
  have y1 : h2.2.2 0 7 = h2.2.2 42 28 := by rw [k2.v rfl, k1.v rfl, k2.v (a := 42) rfl, k1.v (a := 42) rfl]; exact x.1
  have e37 : ∀ j, h2.2.2 37 j = h1.2.2 37 j := fun j => k2.v rfl
  have e38 : ∀ j, h2.2.2 38 j = h1.2.2 38 j := fun j => k2.v rfl
  have e39 : ∀ j, h2.2.2 39 j = h1.2.2 39 j := fun j => k2.v rfl
  have e79 : ∀ j, h1.2.2 79 j = h.2.2 79 j := fun j => k1.v rfl
  have e80 : ∀ j, h1.2.2 80 j = h.2.2 80 j := fun j => k1.v rfl
  have e81 : ∀ j, h1.2.2 81 j = h.2.2 81 j := fun j => k1.v rfl
  rcases f1 with ⟨n1, m1, m2, m5⟩ | ⟨t1, m1, m2, m5⟩
  · rcases f2 with ⟨_, m3, m4, m6⟩ | ⟨t2, _⟩
    · exact ⟨y1, fun s hs => by rw [e37, e38, m1, m2, m3, m4, e79, e80]; exact x.2.1 s hs, fun s hs a b i hi => by
        rw [e37, m1] at a b
        rw [e38, m2] at hi
        rw [e39, m5, m6, e81]
        exact x.2.2 s hs a b i hi⟩
    · exact absurd t2 n1
  · rcases f2 with ⟨n2, _⟩ | ⟨_, m3, m4, m6⟩
    · exact absurd t1 n2
    · unfold RV at t1
      refine ⟨y1, fun s hs => ?_, fun s hs a b i hi => ?_⟩
      · rw [e37, e38]
        rcases Decidable.em (s = k.toNat) with z | z
        · rw [z, m1.1, m2.1, m3.1, m4.1]
          unfold Sh
          omega
        · rw [m1.2 s z, m2.2 s z, m3.2 s z, m4.2 s z, e79, e80]
          exact x.2.1 s hs
      · rw [e37] at a b
        rw [e38] at hi
        rw [e39]
        rcases Decidable.em (s = k.toNat) with z | z
        · rw [z, m2.1] at hi
          rw [m5.1 _ (by omega) (by omega), m6.1 _ (by omega) (by omega)]
        · rw [m1.2 s z] at a b
          rw [m2.2 s z] at hi
          have := hz s hs
          rw [m5.2 _ (by omega), m6.2 _ (by omega), e81]
          exact x.2.2 s hs a b i hi
theorem R0.put {h h1 h2 : JH} {k i v : Int} (x : R0 h) (hz : ∀ s : Nat, s < 6 → h.2.2 38 s ≤ 60) (k1 : Kp [(39, 0)] h h1) (k2 : Kp [(81, 0)] h1 h2) (f1 : PuC h h1 k i v) (f2 : PuR h1 h2 k i v) : R0 h2 := by
  have e : ∀ a j, a ≠ 39 → a ≠ 81 → h2.2.2 a j = h.2.2 a j := fun a j c1 c2 => by
    have d1 : inW [(81, 0)] a j = false := by
      unfold inW
      simp only [List.any_cons, List.any_nil, Bool.or_false, Bool.or_eq_false_iff, Bool.and_eq_false_iff, beq_eq_false_iff_ne]
      exact ⟨Or.inl (Ne.symm c2), Or.inl (by decide)⟩
    have d2 : inW [(39, 0)] a j = false := by
      unfold inW
      simp only [List.any_cons, List.any_nil, Bool.or_false, Bool.or_eq_false_iff, Bool.and_eq_false_iff, beq_eq_false_iff_ne]
      exact ⟨Or.inl (Ne.symm c1), Or.inl (by decide)⟩
    rw [k2.v d1, k1.v d2]
  have e39 : ∀ j, h2.2.2 39 j = h1.2.2 39 j := fun j => k2.v rfl
  have e81 : ∀ j, h1.2.2 81 j = h.2.2 81 j := fun j => k1.v rfl
  have e79 : ∀ j, h1.2.2 79 j = h.2.2 79 j := fun j => k1.v rfl
  have e80 : ∀ j, h1.2.2 80 j = h.2.2 80 j := fun j => k1.v rfl
  unfold PuR at f2
  rw [e79, e80] at f2
  refine ⟨by rw [e 0 7 (by decide) (by decide), e 42 28 (by decide) (by decide)]; exact x.1, fun s hs => by rw [e 37 _ (by decide) (by decide), e 38 _ (by decide) (by decide), e 79 _ (by decide) (by decide), e 80 _ (by decide) (by decide)]; exact x.2.1 s hs, fun s hs a b t ht => ?_⟩
  rw [e 37 _ (by decide) (by decide)] at a b
  rw [e 38 _ (by decide) (by decide)] at ht
  have y := x.2.2 s hs a b t ht
  rw [e39]
  rcases f1 with ⟨n1, m1⟩ | ⟨t1, m1⟩
  · rcases f2 with ⟨_, m2⟩ | ⟨t2, _⟩
    · rw [m1, m2, e81]; exact y
    · exact absurd ((x.pv k i).mpr t2) n1
  · rcases f2 with ⟨n2, _⟩ | ⟨_, m2⟩
    · exact absurd ((x.pv k i).mp t1) n2
    · have zs := hz s hs
      unfold PV0 at t1
      have zk := hz k.toNat (by omega)
      rcases Decidable.em (60 * s + t = (60 * k + i).toNat) with r | r
      · have w := x.sh t1.1 t1.2.1
        unfold Sh at w
        rw [r, m1.1, m2.1, show -2 - h.2.2 79 k.toNat = h.2.2 37 k.toNat by omega]
      · rw [m1.2 _ r, m2.2 _ r, e81]; exact y
theorem R0.shift {h h1 h2 : JH} {k i o j n : Int} (x : R0 h) (hz : ∀ s : Nat, s < 6 → h.2.2 38 s ≤ 60) (k1 : Kp [(39, 0)] h h1) (k2 : Kp [(81, 0), (82, 0)] h1 h2) (f1 : SfC h h1 k i o j n) (f2 : SfR h1 h2 k i o j n) : R0 h2 := by
  have e : ∀ a j, a < 83 → a ≠ 39 → a ≠ 81 → a ≠ 82 → h2.2.2 a j = h.2.2 a j := fun a j c0 c1 c2 c3 => by
    have d1 : inW [(81, 0), (82, 0)] a j = false := by
      unfold inW
      simp only [List.any_cons, List.any_nil, Bool.or_false, Bool.or_eq_false_iff, Bool.and_eq_false_iff, beq_eq_false_iff_ne]
      exact ⟨⟨Or.inl (Ne.symm c2), Or.inl (by decide)⟩, ⟨Or.inl (Ne.symm c3), Or.inl (by decide)⟩⟩
    have d2 : inW [(39, 0)] a j = false := by
      unfold inW
      simp only [List.any_cons, List.any_nil, Bool.or_false, Bool.or_eq_false_iff, Bool.and_eq_false_iff, beq_eq_false_iff_ne]
      exact ⟨Or.inl (Ne.symm c1), Or.inl (by decide)⟩
    rw [k2.v d1, k1.v d2]
  have e39 : ∀ j, h2.2.2 39 j = h1.2.2 39 j := fun j => k2.v rfl
  have e81 : ∀ j, h1.2.2 81 j = h.2.2 81 j := fun j => k1.v rfl
  have e79 : ∀ j, h1.2.2 79 j = h.2.2 79 j := fun j => k1.v rfl
  have e80 : ∀ j, h1.2.2 80 j = h.2.2 80 j := fun j => k1.v rfl
  unfold SfR at f2
  rw [e79, e79, e80, e80] at f2
  refine ⟨by rw [e 0 7 (by decide) (by decide) (by decide) (by decide), e 42 28 (by decide) (by decide) (by decide) (by decide)]; exact x.1, fun s hs => by rw [e 37 _ (by decide) (by decide) (by decide) (by decide), e 38 _ (by decide) (by decide) (by decide) (by decide), e 79 _ (by decide) (by decide) (by decide) (by decide), e 80 _ (by decide) (by decide) (by decide) (by decide)]; exact x.2.1 s hs, fun s hs a b t ht => ?_⟩
  rw [e 37 _ (by decide) (by decide) (by decide) (by decide)] at a b
  rw [e 38 _ (by decide) (by decide) (by decide) (by decide)] at ht
  have y := x.2.2 s hs a b t ht
  rw [e39]
  rcases f1 with ⟨n1, m1⟩ | ⟨t1, m1⟩
  · rcases f2 with ⟨_, m2⟩ | ⟨t2, _⟩
    · rw [m1, m2, e81]; exact y
    · exact absurd ((x.sv k i o j n).mpr t2) n1
  · rcases f2 with ⟨n2, _⟩ | ⟨_, m2⟩
    · exact absurd ((x.sv k i o j n).mp t1) n2
    · have zs := hz s hs
      unfold SV0 at t1
      have zk := hz k.toNat (by omega)
      have zo := hz o.toNat (by omega)
      have w := x.sh t1.1 t1.2.1
      unfold Sh at w
      rcases Decidable.em (60 * o + j ≤ ((60 * s + t : Nat) : Int) ∧ ((60 * s + t : Nat) : Int) < 60 * o + j + n) with r | r
      · rw [m1.1 _ r.1 r.2, m2.1 _ r.1 r.2, e81]
        have := x.2.2 k.toNat (by omega) (by omega) (by omega) (i + (((60 * s + t : Nat) : Int) - (60 * o + j))).toNat (by omega)
        rw [show (60 * k + i + (((60 * s + t : Nat) : Int) - (60 * o + j))).toNat = 60 * k.toNat + (i + (((60 * s + t : Nat) : Int) - (60 * o + j))).toNat by omega]
        exact this
      · rw [m1.2 _ (by omega), m2.2 _ (by omega), e81]; exact y
theorem R0.feel {h h1 h2 : JH} (x : R0 h) (h83 : 83 ≤ h.1) (k1 : Kx [(0, 8), (24, 0)] h h1) (k2 : Kp [(42, 29), (60, 0), (61, 0)] h1 h2) (e : h2.2.2 0 7 = h2.2.2 42 28) : R0 h2 := by
  have f : ∀ a j, a < 83 → inW [(0, 8), (24, 0)] a j = false → inW [(42, 29), (60, 0), (61, 0)] a j = false → h2.2.2 a j = h.2.2 a j := fun a j ha c1 c2 => (k2.v c2).trans (k1.2.2 a j (by omega) c1)
  refine ⟨e, fun s hs => ?_, fun s hs a b i hi => ?_⟩
  · rw [f 37 s (by decide) rfl rfl, f 38 s (by decide) rfl rfl, f 79 s (by decide) rfl rfl, f 80 s (by decide) rfl rfl]
    exact x.2.1 s hs
  · rw [f 37 s (by decide) rfl rfl] at a b
    rw [f 38 s (by decide) rfl rfl] at hi
    rw [f 39 _ (by decide) rfl rfl, f 81 _ (by decide) rfl rfl]
    exact x.2.2 s hs a b i hi
def feF (k p n : Int) : Int := if 0 ≤ k ∧ k ≤ 5 ∧ (k < 4 ∨ (0 ≤ p ∧ p ≤ 100)) then (if n = 20 then -3 else n) else -1
def feG (k p n : Int) : Int := if 0 ≤ k ∧ k ≤ 5 ∧ (k < 4 ∨ (0 ≤ p ∧ p ≤ 100)) ∧ n ≠ 20 then n + 1 else n
def kpF (k f n : Int) : Int := if 0 ≤ k ∧ k ≤ 5 ∧ (f = -1 ∨ (0 ≤ f ∧ f < n)) then 1 else -1
set_option maxHeartbeats 4000000 in
theorem t178 {G : GH} {h : JH} (g : Gd G h) {a1 : Int} (la1 : (-2147483648) ≤ a1) (ua1 : a1 ≤ 2147483647) {a2 : Int} (la2 : (-2147483648) ≤ a2) (ua2 : a2 ≤ 2147483647) {w0 : Int} (ew0 : h.2.2 0 7 = w0) (lw0 : 0 ≤ w0) (uw0 : w0 ≤ 20) (hB : h.1 ≤ 1000000) : jOk 5 1 3 178 [(2, 0), (0, a1), (0, a2)] h (fun v h' => PN [(0, 8), (24, 0)] h 0 (-3) 19 v h' ∧ (∀ r, v = some (0, r) → r = feF a1 a2 w0) ∧ h'.2.2 0 7 = feG a1 a2 w0) := by
  refine ⟨by decide, by rw [ml178]; exact Nat.le_of_ble_eq_true rfl, ?_⟩
  rw [ml178, pp178]
  show jEv _ none _ c178_0 1 3 _ (c178_0, [(2, 0), (0, a1), (0, a2), (9, 0)], [], h, 0, 0)
  have k0 := Kp.rf [(0, 8), (24, 0)] h
  refine ev_iload_n rfl ?_
  refine ev_iconst ?_
  refine ev_icmpeq f178_10 (fun c75406 => ?_) (fun c75406 => ?_)
  · refine ev_iconst ?_
    refine ev_goto f178_15 ?_
    refine ev_istore_n (L' := [(2, 0), (0, a1), (0, a2), (0, 1)]) (Nat.le_of_ble_eq_true rfl) rfl ?_
    refine ev_iload_n rfl ?_
    refine ev_iflt f178_39 (fun c75407 => absurd c75407 (by omega)) (fun c75407 => ?_)
    refine ev_iload_n rfl ?_
    refine ev_iconst ?_
    refine ev_icmpgt f178_39 (fun c75408 => absurd c75408 (by omega)) (fun c75408 => ?_)
    refine ev_iload_n rfl ?_
    refine ev_ifeq f178_41 (fun c75409 => absurd c75409 (by omega)) (fun c75409 => ?_)
    refine ev_iload_n rfl ?_
    refine ev_iflt f178_39 (fun c75410 => ?_) (fun c75410 => ?_)
    · refine ev_iconst ?_
      exact ev_ret rfl (by decide) (by decide) ⟨⟨_, rfl, by omega, by omega, ⟨_, g⟩, k0.x, by rw [k0.1]; omega⟩, fun r hr => by cases hr; (try unfold feF); (try unfold feG); (try unfold kpF); (repeat' split) <;> omega, ((ew0)).trans (by (try unfold feF); (try unfold feG); (try unfold kpF); (repeat' split) <;> omega)⟩
    · refine ev_iload_n rfl ?_
      refine ev_bipush ?_
      refine ev_icmple f178_41 (fun c75411 => ?_) (fun c75411 => ?_)
      · refine ev_aload_n rfl ?_
        refine g_getv (r := 0) (v := w0) g ad0 (by decide) ft11_7 (ew0) ?_
        refine ev_bipush ?_
        refine ev_icmplt f178_53 (fun c75412 => ?_) (fun c75412 => ?_)
        · refine ev_aload_n rfl ?_
          refine g_getp (r := 0) (c := 24) g ad0 (by decide) (by decide) rf0_6 ft11_6 ?_
          refine ev_aload_n rfl ?_
          refine g_getv (r := 0) (v := w0) g ad0 (by decide) ft11_7 (ew0) ?_
          refine ev_aload_n rfl ?_
          refine ev_iload_n rfl ?_
          refine ev_aload_n rfl ?_
          refine g_getv (r := 0) (v := w0) g ad0 (by decide) ft11_7 (ew0) ?_
          refine ev_iload_n rfl ?_
          refine ev_ifeq f178_75 (fun c75413 => absurd c75413 (by omega)) (fun c75413 => ?_)
          refine ev_iload_n rfl ?_
          refine ev_goto f178_76 ?_
          refine ev_call (jcall_v (A := [(0, a2), (0, w0), (0, a1)]) (S' := [(0, w0), (2, 24)]) (r := 0) rfl (g.lt ad0) (g.tg ad0) (Nat.le_of_ble_eq_true rfl)) (jOk_le (by decide) (newFeel (d := 0) (s := 19) (g.lt ad0) (g.fam ad0 (by decide)) (g.pt ad0 (i := 4) (by decide) rf0_4) (g.lt ad19))) (by decide) (by decide) (fun w75414 h75414 z75414 => ?_)
          obtain ⟨rfl, z75414⟩ := z75414
          obtain ⟨g75414, es75414, x75414⟩ := g.newF (feelT_fam _) (by omega) (by omega) (by omega) (by omega) z75414
          have hz75414 := k0.1
          have k75414 := Kx.tx k0 x75414 (by decide)
          have fz75414 := g.2.1.1
          show jEv _ _ _ _ _ _ _ (_, [(2, 0), (0, a1), (0, a2), (0, 1)], [(2, (h.1 : Int)), (0, w0), (2, 24)], _, _, _)
          have ff75415 := gF_at (n := w0) (p := a2) g
          refine ev_astoG (r := 24) (j := (w0).toNat) (v := h.1) (g75414.lt ad24) (g75414.tg ad24) (by omega) (by rw [g75414.ln ad24]; omega) (by rw [es75414]; omega) (newF_ty (feelT_fam _) z75414) (fun h75415a e75415a => ?_)
          refine ev_aload_n rfl ?_
          refine ev_dup (by decide) ?_
          refine ev_getf (r := 0) (v := w0) (by rw [(jwr_ty e75415a).1]; exact g75414.lt ad0) (by rw [(jwr_ty e75415a).2]; exact g75414.fam ad0 (by decide)) ft11_7 ((jw_ne e75415a (Or.inl (by decide))).trans (((x75414.2.2 0 7 (g.lt ad0) (by decide)).trans ew0))) ?_
          refine ev_iconst ?_
          refine ev_iadd (r := (w0 + 1)) (by unfold w32; omega) ?_
          refine ev_putfG (r := 0) (by rw [(jwr_ty e75415a).1]; exact g75414.lt ad0) (by rw [(jwr_ty e75415a).2]; exact g75414.fam ad0 (by decide)) ft11_7 (fun e => absurd e nz11_7) (fun e => absurd e (by decide)) (fun h75415 e75415 => ?_)
          have g75415 := g75414.putF ff75415 (((x75414.2.2 0 7 (g.lt ad0) (by decide)).trans ew0)) e75415a e75415 (by omega) (by omega) (by omega)
          have k75415 := (k75414.wr e75415a rfl).wr e75415 rfl
          refine ev_aload_n rfl ?_
          refine g_getv (r := 0) (v := (w0 + 1)) g75415 ad0 (by decide) ft11_7 ((jw_eq e75415)) ?_
          refine ev_iconst ?_
          refine ev_isub (r := w0) (by unfold w32; omega) ?_
          exact ev_ret rfl (by decide) (by decide) ⟨⟨_, rfl, by omega, by omega, ⟨_, g75415⟩, k75415, by rw [(jwr_ty e75415).1, (jwr_ty e75415a).1, es75414]; omega⟩, fun r hr => by cases hr; (try unfold feF); (try unfold feG); (try unfold kpF); (repeat' split) <;> omega, (((jw_eq e75415))).trans (by (try unfold feF); (try unfold feG); (try unfold kpF); (repeat' split) <;> omega)⟩
        · refine ev_bipush ?_
          exact ev_ret rfl (by decide) (by decide) ⟨⟨_, rfl, by omega, by omega, ⟨_, g⟩, k0.x, by rw [k0.1]; omega⟩, fun r hr => by cases hr; (try unfold feF); (try unfold feG); (try unfold kpF); (repeat' split) <;> omega, ((ew0)).trans (by (try unfold feF); (try unfold feG); (try unfold kpF); (repeat' split) <;> omega)⟩
      · refine ev_iconst ?_
        exact ev_ret rfl (by decide) (by decide) ⟨⟨_, rfl, by omega, by omega, ⟨_, g⟩, k0.x, by rw [k0.1]; omega⟩, fun r hr => by cases hr; (try unfold feF); (try unfold feG); (try unfold kpF); (repeat' split) <;> omega, ((ew0)).trans (by (try unfold feF); (try unfold feG); (try unfold kpF); (repeat' split) <;> omega)⟩
  · refine ev_iload_n rfl ?_
    refine ev_iconst ?_
    refine ev_icmpne f178_14 (fun c75416 => ?_) (fun c75416 => ?_)
    · refine ev_iconst ?_
      refine ev_istore_n (L' := [(2, 0), (0, a1), (0, a2), (0, 0)]) (Nat.le_of_ble_eq_true rfl) rfl ?_
      refine ev_iload_n rfl ?_
      refine ev_iflt f178_39 (fun c75417 => ?_) (fun c75417 => ?_)
      · refine ev_iconst ?_
        exact ev_ret rfl (by decide) (by decide) ⟨⟨_, rfl, by omega, by omega, ⟨_, g⟩, k0.x, by rw [k0.1]; omega⟩, fun r hr => by cases hr; (try unfold feF); (try unfold feG); (try unfold kpF); (repeat' split) <;> omega, ((ew0)).trans (by (try unfold feF); (try unfold feG); (try unfold kpF); (repeat' split) <;> omega)⟩
      · refine ev_iload_n rfl ?_
        refine ev_iconst ?_
        refine ev_icmpgt f178_39 (fun c75418 => ?_) (fun c75418 => ?_)
        · refine ev_iconst ?_
          exact ev_ret rfl (by decide) (by decide) ⟨⟨_, rfl, by omega, by omega, ⟨_, g⟩, k0.x, by rw [k0.1]; omega⟩, fun r hr => by cases hr; (try unfold feF); (try unfold feG); (try unfold kpF); (repeat' split) <;> omega, ((ew0)).trans (by (try unfold feF); (try unfold feG); (try unfold kpF); (repeat' split) <;> omega)⟩
        · refine ev_iload_n rfl ?_
          refine ev_ifeq f178_41 (fun c75419 => ?_) (fun c75419 => absurd c75419 (by omega))
          refine ev_aload_n rfl ?_
          refine g_getv (r := 0) (v := w0) g ad0 (by decide) ft11_7 (ew0) ?_
          refine ev_bipush ?_
          refine ev_icmplt f178_53 (fun c75420 => ?_) (fun c75420 => ?_)
          · refine ev_aload_n rfl ?_
            refine g_getp (r := 0) (c := 24) g ad0 (by decide) (by decide) rf0_6 ft11_6 ?_
            refine ev_aload_n rfl ?_
            refine g_getv (r := 0) (v := w0) g ad0 (by decide) ft11_7 (ew0) ?_
            refine ev_aload_n rfl ?_
            refine ev_iload_n rfl ?_
            refine ev_aload_n rfl ?_
            refine g_getv (r := 0) (v := w0) g ad0 (by decide) ft11_7 (ew0) ?_
            refine ev_iload_n rfl ?_
            refine ev_ifeq f178_75 (fun c75421 => ?_) (fun c75421 => absurd c75421 (by omega))
            refine ev_iconst ?_
            refine ev_call (jcall_v (A := [(0, 0), (0, w0), (0, a1)]) (S' := [(0, w0), (2, 24)]) (r := 0) rfl (g.lt ad0) (g.tg ad0) (Nat.le_of_ble_eq_true rfl)) (jOk_le (by decide) (newFeel (d := 0) (s := 19) (g.lt ad0) (g.fam ad0 (by decide)) (g.pt ad0 (i := 4) (by decide) rf0_4) (g.lt ad19))) (by decide) (by decide) (fun w75422 h75422 z75422 => ?_)
            obtain ⟨rfl, z75422⟩ := z75422
            obtain ⟨g75422, es75422, x75422⟩ := g.newF (feelT_fam _) (by omega) (by omega) (by omega) (by omega) z75422
            have hz75422 := k0.1
            have k75422 := Kx.tx k0 x75422 (by decide)
            have fz75422 := g.2.1.1
            show jEv _ _ _ _ _ _ _ (_, [(2, 0), (0, a1), (0, a2), (0, 0)], [(2, (h.1 : Int)), (0, w0), (2, 24)], _, _, _)
            have ff75423 := gF_at (n := w0) (p := 0) g
            refine ev_astoG (r := 24) (j := (w0).toNat) (v := h.1) (g75422.lt ad24) (g75422.tg ad24) (by omega) (by rw [g75422.ln ad24]; omega) (by rw [es75422]; omega) (newF_ty (feelT_fam _) z75422) (fun h75423a e75423a => ?_)
            refine ev_aload_n rfl ?_
            refine ev_dup (by decide) ?_
            refine ev_getf (r := 0) (v := w0) (by rw [(jwr_ty e75423a).1]; exact g75422.lt ad0) (by rw [(jwr_ty e75423a).2]; exact g75422.fam ad0 (by decide)) ft11_7 ((jw_ne e75423a (Or.inl (by decide))).trans (((x75422.2.2 0 7 (g.lt ad0) (by decide)).trans ew0))) ?_
            refine ev_iconst ?_
            refine ev_iadd (r := (w0 + 1)) (by unfold w32; omega) ?_
            refine ev_putfG (r := 0) (by rw [(jwr_ty e75423a).1]; exact g75422.lt ad0) (by rw [(jwr_ty e75423a).2]; exact g75422.fam ad0 (by decide)) ft11_7 (fun e => absurd e nz11_7) (fun e => absurd e (by decide)) (fun h75423 e75423 => ?_)
            have g75423 := g75422.putF ff75423 (((x75422.2.2 0 7 (g.lt ad0) (by decide)).trans ew0)) e75423a e75423 (by omega) (by omega) (by omega)
            have k75423 := (k75422.wr e75423a rfl).wr e75423 rfl
            refine ev_aload_n rfl ?_
            refine g_getv (r := 0) (v := (w0 + 1)) g75423 ad0 (by decide) ft11_7 ((jw_eq e75423)) ?_
            refine ev_iconst ?_
            refine ev_isub (r := w0) (by unfold w32; omega) ?_
            exact ev_ret rfl (by decide) (by decide) ⟨⟨_, rfl, by omega, by omega, ⟨_, g75423⟩, k75423, by rw [(jwr_ty e75423).1, (jwr_ty e75423a).1, es75422]; omega⟩, fun r hr => by cases hr; (try unfold feF); (try unfold feG); (try unfold kpF); (repeat' split) <;> omega, (((jw_eq e75423))).trans (by (try unfold feF); (try unfold feG); (try unfold kpF); (repeat' split) <;> omega)⟩
          · refine ev_bipush ?_
            exact ev_ret rfl (by decide) (by decide) ⟨⟨_, rfl, by omega, by omega, ⟨_, g⟩, k0.x, by rw [k0.1]; omega⟩, fun r hr => by cases hr; (try unfold feF); (try unfold feG); (try unfold kpF); (repeat' split) <;> omega, ((ew0)).trans (by (try unfold feF); (try unfold feG); (try unfold kpF); (repeat' split) <;> omega)⟩
    · refine ev_iconst ?_
      refine ev_goto f178_15 ?_
      refine ev_istore_n (L' := [(2, 0), (0, a1), (0, a2), (0, 1)]) (Nat.le_of_ble_eq_true rfl) rfl ?_
      refine ev_iload_n rfl ?_
      refine ev_iflt f178_39 (fun c75424 => absurd c75424 (by omega)) (fun c75424 => ?_)
      refine ev_iload_n rfl ?_
      refine ev_iconst ?_
      refine ev_icmpgt f178_39 (fun c75425 => absurd c75425 (by omega)) (fun c75425 => ?_)
      refine ev_iload_n rfl ?_
      refine ev_ifeq f178_41 (fun c75426 => absurd c75426 (by omega)) (fun c75426 => ?_)
      refine ev_iload_n rfl ?_
      refine ev_iflt f178_39 (fun c75427 => ?_) (fun c75427 => ?_)
      · refine ev_iconst ?_
        exact ev_ret rfl (by decide) (by decide) ⟨⟨_, rfl, by omega, by omega, ⟨_, g⟩, k0.x, by rw [k0.1]; omega⟩, fun r hr => by cases hr; (try unfold feF); (try unfold feG); (try unfold kpF); (repeat' split) <;> omega, ((ew0)).trans (by (try unfold feF); (try unfold feG); (try unfold kpF); (repeat' split) <;> omega)⟩
      · refine ev_iload_n rfl ?_
        refine ev_bipush ?_
        refine ev_icmple f178_41 (fun c75428 => ?_) (fun c75428 => ?_)
        · refine ev_aload_n rfl ?_
          refine g_getv (r := 0) (v := w0) g ad0 (by decide) ft11_7 (ew0) ?_
          refine ev_bipush ?_
          refine ev_icmplt f178_53 (fun c75429 => ?_) (fun c75429 => ?_)
          · refine ev_aload_n rfl ?_
            refine g_getp (r := 0) (c := 24) g ad0 (by decide) (by decide) rf0_6 ft11_6 ?_
            refine ev_aload_n rfl ?_
            refine g_getv (r := 0) (v := w0) g ad0 (by decide) ft11_7 (ew0) ?_
            refine ev_aload_n rfl ?_
            refine ev_iload_n rfl ?_
            refine ev_aload_n rfl ?_
            refine g_getv (r := 0) (v := w0) g ad0 (by decide) ft11_7 (ew0) ?_
            refine ev_iload_n rfl ?_
            refine ev_ifeq f178_75 (fun c75430 => absurd c75430 (by omega)) (fun c75430 => ?_)
            refine ev_iload_n rfl ?_
            refine ev_goto f178_76 ?_
            refine ev_call (jcall_v (A := [(0, a2), (0, w0), (0, a1)]) (S' := [(0, w0), (2, 24)]) (r := 0) rfl (g.lt ad0) (g.tg ad0) (Nat.le_of_ble_eq_true rfl)) (jOk_le (by decide) (newFeel (d := 0) (s := 19) (g.lt ad0) (g.fam ad0 (by decide)) (g.pt ad0 (i := 4) (by decide) rf0_4) (g.lt ad19))) (by decide) (by decide) (fun w75431 h75431 z75431 => ?_)
            obtain ⟨rfl, z75431⟩ := z75431
            obtain ⟨g75431, es75431, x75431⟩ := g.newF (feelT_fam _) (by omega) (by omega) (by omega) (by omega) z75431
            have hz75431 := k0.1
            have k75431 := Kx.tx k0 x75431 (by decide)
            have fz75431 := g.2.1.1
            show jEv _ _ _ _ _ _ _ (_, [(2, 0), (0, a1), (0, a2), (0, 1)], [(2, (h.1 : Int)), (0, w0), (2, 24)], _, _, _)
            have ff75432 := gF_at (n := w0) (p := a2) g
            refine ev_astoG (r := 24) (j := (w0).toNat) (v := h.1) (g75431.lt ad24) (g75431.tg ad24) (by omega) (by rw [g75431.ln ad24]; omega) (by rw [es75431]; omega) (newF_ty (feelT_fam _) z75431) (fun h75432a e75432a => ?_)
            refine ev_aload_n rfl ?_
            refine ev_dup (by decide) ?_
            refine ev_getf (r := 0) (v := w0) (by rw [(jwr_ty e75432a).1]; exact g75431.lt ad0) (by rw [(jwr_ty e75432a).2]; exact g75431.fam ad0 (by decide)) ft11_7 ((jw_ne e75432a (Or.inl (by decide))).trans (((x75431.2.2 0 7 (g.lt ad0) (by decide)).trans ew0))) ?_
            refine ev_iconst ?_
            refine ev_iadd (r := (w0 + 1)) (by unfold w32; omega) ?_
            refine ev_putfG (r := 0) (by rw [(jwr_ty e75432a).1]; exact g75431.lt ad0) (by rw [(jwr_ty e75432a).2]; exact g75431.fam ad0 (by decide)) ft11_7 (fun e => absurd e nz11_7) (fun e => absurd e (by decide)) (fun h75432 e75432 => ?_)
            have g75432 := g75431.putF ff75432 (((x75431.2.2 0 7 (g.lt ad0) (by decide)).trans ew0)) e75432a e75432 (by omega) (by omega) (by omega)
            have k75432 := (k75431.wr e75432a rfl).wr e75432 rfl
            refine ev_aload_n rfl ?_
            refine g_getv (r := 0) (v := (w0 + 1)) g75432 ad0 (by decide) ft11_7 ((jw_eq e75432)) ?_
            refine ev_iconst ?_
            refine ev_isub (r := w0) (by unfold w32; omega) ?_
            exact ev_ret rfl (by decide) (by decide) ⟨⟨_, rfl, by omega, by omega, ⟨_, g75432⟩, k75432, by rw [(jwr_ty e75432).1, (jwr_ty e75432a).1, es75431]; omega⟩, fun r hr => by cases hr; (try unfold feF); (try unfold feG); (try unfold kpF); (repeat' split) <;> omega, (((jw_eq e75432))).trans (by (try unfold feF); (try unfold feG); (try unfold kpF); (repeat' split) <;> omega)⟩
          · refine ev_bipush ?_
            exact ev_ret rfl (by decide) (by decide) ⟨⟨_, rfl, by omega, by omega, ⟨_, g⟩, k0.x, by rw [k0.1]; omega⟩, fun r hr => by cases hr; (try unfold feF); (try unfold feG); (try unfold kpF); (repeat' split) <;> omega, ((ew0)).trans (by (try unfold feF); (try unfold feG); (try unfold kpF); (repeat' split) <;> omega)⟩
        · refine ev_iconst ?_
          exact ev_ret rfl (by decide) (by decide) ⟨⟨_, rfl, by omega, by omega, ⟨_, g⟩, k0.x, by rw [k0.1]; omega⟩, fun r hr => by cases hr; (try unfold feF); (try unfold feG); (try unfold kpF); (repeat' split) <;> omega, ((ew0)).trans (by (try unfold feF); (try unfold feG); (try unfold kpF); (repeat' split) <;> omega)⟩
set_option maxHeartbeats 4000000 in
theorem t285 {G : GH} {h : JH} (g : Gd G h) {a1 : Int} (la1 : (-2147483648) ≤ a1) (ua1 : a1 ≤ 2147483647) {a2 : Int} (la2 : (-2147483648) ≤ a2) (ua2 : a2 ≤ 2147483647) {w0 : Int} (ew0 : h.2.2 42 28 = w0) (lw0 : 0 ≤ w0) (uw0 : w0 ≤ 20) : jOk 2 0 0 285 [(2, 42), (0, a1), (0, a2)] h (fun v h' => ∃ r : Int, v = some (0, r) ∧ Gd G h' ∧ Kp [(42, 29), (60, 0), (61, 0)] h h' ∧ r = feF a1 a2 w0 ∧ h'.2.2 42 28 = feG a1 a2 w0) := by
  refine ⟨by decide, by rw [ml285]; exact Nat.le_of_ble_eq_true rfl, ?_⟩
  rw [ml285, pp285]
  show jEv _ none _ c285_0 0 0 _ (c285_0, [(2, 42), (0, a1), (0, a2)], [], h, 0, 0)
  have k0 := Kp.rf [(42, 29), (60, 0), (61, 0)] h
  refine ev_iload_n rfl ?_
  refine ev_iconst ?_
  refine ev_iconst ?_
  refine ev_in (d := 0) (a := 0) (b := 0) (cd' := c242_0) (m := 3) (L0 := [(0, a1), (0, 0), (0, 5)]) (jcall_s (A := [(0, 5), (0, 0), (0, a1)]) (S' := []) (by decide) rfl (Nat.le_of_ble_eq_true rfl)) (by decide) ml242 pp242 (Nat.le_of_ble_eq_true rfl) rfl (by decide) (by decide) ?_
  refine ev_iload_n rfl ?_
  refine ev_iload_n rfl ?_
  refine ev_icmplt f242_14 (fun c75475 => ?_) (fun c75475 => ?_)
  · refine ev_iconst ?_
    refine ev_ret rfl (by decide) (by decide) ?_
    show jEv _ _ _ _ _ _ _ (_, [(2, 42), (0, a1), (0, a2)], [(0, 0)], _, _, _)
    refine ev_ifeq f285_24 (fun c75476 => ?_) (fun c75476 => absurd c75476 (by omega))
    refine ev_iconst ?_
    exact ev_ret rfl (by decide) (by decide) ⟨_, rfl, g, k0, by (try unfold feF); (try unfold feG); (try unfold kpF); (repeat' split) <;> omega, ((ew0)).trans (by (try unfold feF); (try unfold feG); (try unfold kpF); (repeat' split) <;> omega)⟩
  · refine ev_iload_n rfl ?_
    refine ev_iload_n rfl ?_
    refine ev_icmpgt f242_14 (fun c75477 => ?_) (fun c75477 => ?_)
    · refine ev_iconst ?_
      refine ev_ret rfl (by decide) (by decide) ?_
      show jEv _ _ _ _ _ _ _ (_, [(2, 42), (0, a1), (0, a2)], [(0, 0)], _, _, _)
      refine ev_ifeq f285_24 (fun c75478 => ?_) (fun c75478 => absurd c75478 (by omega))
      refine ev_iconst ?_
      exact ev_ret rfl (by decide) (by decide) ⟨_, rfl, g, k0, by (try unfold feF); (try unfold feG); (try unfold kpF); (repeat' split) <;> omega, ((ew0)).trans (by (try unfold feF); (try unfold feG); (try unfold kpF); (repeat' split) <;> omega)⟩
    · refine ev_iconst ?_
      refine ev_goto f242_15 ?_
      refine ev_ret rfl (by decide) (by decide) ?_
      show jEv _ _ _ _ _ _ _ (_, [(2, 42), (0, a1), (0, a2)], [(0, 1)], _, _, _)
      refine ev_ifeq f285_24 (fun c75479 => absurd c75479 (by omega)) (fun c75479 => ?_)
      refine ev_iload_n rfl ?_
      refine ev_iconst ?_
      refine ev_icmplt f285_26 (fun c75480 => ?_) (fun c75480 => ?_)
      · refine ev_aload_n rfl ?_
        refine g_getv (r := 42) (v := w0) g ad42 (by decide) ft12_28 (ew0) ?_
        refine ev_bipush ?_
        refine ev_icmpne f285_38 (fun c75481 => ?_) (fun c75481 => ?_)
        · refine ev_aload_n rfl ?_
          refine g_getp (r := 42) (c := 60) g ad42 (by decide) (by decide) rf42_29 ft12_29 ?_
          refine ev_aload_n rfl ?_
          refine g_getv (r := 42) (v := w0) g ad42 (by decide) ft12_28 (ew0) ?_
          refine ev_iload_n rfl ?_
          refine g_iast g ad60 rt60 (fun _ => rfl) (by omega) (by omega) (by omega) (by omega) (fun h75482 e75482 g75482 => ?_)
          have k75482 := k0.wr e75482 rfl
          refine ev_aload_n rfl ?_
          refine g_getp (r := 42) (c := 61) g75482 ad42 (by decide) (by decide) rf42_30 ft12_30 ?_
          refine ev_aload_n rfl ?_
          refine g_getv (r := 42) (v := w0) g75482 ad42 (by decide) ft12_28 (((jw_ne e75482 (Or.inl (by decide))).trans ew0)) ?_
          refine ev_iload_n rfl ?_
          refine ev_iconst ?_
          refine ev_icmplt f285_65 (fun c75483 => ?_) (fun c75483 => absurd c75483 (by omega))
          refine ev_iconst ?_
          refine g_iast g75482 ad61 rt61 (fun _ => rfl) (by omega) (by omega) (by omega) (by omega) (fun h75484 e75484 g75484 => ?_)
          have k75484 := k75482.wr e75484 rfl
          refine ev_aload_n rfl ?_
          refine ev_dup (by decide) ?_
          refine g_getv (r := 42) (v := w0) g75484 ad42 (by decide) ft12_28 (((jw_ne e75484 (Or.inl (by decide))).trans ((jw_ne e75482 (Or.inl (by decide))).trans ew0))) ?_
          refine ev_iconst ?_
          refine ev_iadd (r := (w0 + 1)) (by unfold w32; omega) ?_
          refine g_putf (r := 42) g75484 ad42 (by decide) ft12_28 (by decide) (fun e => absurd e nz12_28) rf42_28 (by decide) (by omega) (by omega) (fun h75485 e75485 g75485 => ?_)
          have k75485 := k75484.wr e75485 rfl
          refine ev_aload_n rfl ?_
          refine g_getv (r := 42) (v := (w0 + 1)) g75485 ad42 (by decide) ft12_28 ((jw_eq e75485)) ?_
          refine ev_iconst ?_
          refine ev_isub (r := w0) (by unfold w32; omega) ?_
          exact ev_ret rfl (by decide) (by decide) ⟨_, rfl, g75485, k75485, by (try unfold feF); (try unfold feG); (try unfold kpF); (repeat' split) <;> omega, (((jw_eq e75485))).trans (by (try unfold feF); (try unfold feG); (try unfold kpF); (repeat' split) <;> omega)⟩
        · refine ev_bipush ?_
          exact ev_ret rfl (by decide) (by decide) ⟨_, rfl, g, k0, by (try unfold feF); (try unfold feG); (try unfold kpF); (repeat' split) <;> omega, ((ew0)).trans (by (try unfold feF); (try unfold feG); (try unfold kpF); (repeat' split) <;> omega)⟩
      · refine ev_iload_n rfl ?_
        refine ev_iconst ?_
        refine ev_bipush ?_
        refine ev_in (d := 0) (a := 0) (b := 0) (cd' := c242_0) (m := 3) (L0 := [(0, a2), (0, 0), (0, 100)]) (jcall_s (A := [(0, 100), (0, 0), (0, a2)]) (S' := []) (by decide) rfl (Nat.le_of_ble_eq_true rfl)) (by decide) ml242 pp242 (Nat.le_of_ble_eq_true rfl) rfl (by decide) (by decide) ?_
        refine ev_iload_n rfl ?_
        refine ev_iload_n rfl ?_
        refine ev_icmplt f242_14 (fun c75486 => ?_) (fun c75486 => ?_)
        · refine ev_iconst ?_
          refine ev_ret rfl (by decide) (by decide) ?_
          show jEv _ _ _ _ _ _ _ (_, [(2, 42), (0, a1), (0, a2)], [(0, 0)], _, _, _)
          refine ev_ifne f285_26 (fun c75487 => absurd c75487 (by omega)) (fun c75487 => ?_)
          refine ev_iconst ?_
          exact ev_ret rfl (by decide) (by decide) ⟨_, rfl, g, k0, by (try unfold feF); (try unfold feG); (try unfold kpF); (repeat' split) <;> omega, ((ew0)).trans (by (try unfold feF); (try unfold feG); (try unfold kpF); (repeat' split) <;> omega)⟩
        · refine ev_iload_n rfl ?_
          refine ev_iload_n rfl ?_
          refine ev_icmpgt f242_14 (fun c75488 => ?_) (fun c75488 => ?_)
          · refine ev_iconst ?_
            refine ev_ret rfl (by decide) (by decide) ?_
            show jEv _ _ _ _ _ _ _ (_, [(2, 42), (0, a1), (0, a2)], [(0, 0)], _, _, _)
            refine ev_ifne f285_26 (fun c75489 => absurd c75489 (by omega)) (fun c75489 => ?_)
            refine ev_iconst ?_
            exact ev_ret rfl (by decide) (by decide) ⟨_, rfl, g, k0, by (try unfold feF); (try unfold feG); (try unfold kpF); (repeat' split) <;> omega, ((ew0)).trans (by (try unfold feF); (try unfold feG); (try unfold kpF); (repeat' split) <;> omega)⟩
          · refine ev_iconst ?_
            refine ev_goto f242_15 ?_
            refine ev_ret rfl (by decide) (by decide) ?_
            show jEv _ _ _ _ _ _ _ (_, [(2, 42), (0, a1), (0, a2)], [(0, 1)], _, _, _)
            refine ev_ifne f285_26 (fun c75490 => ?_) (fun c75490 => absurd c75490 (by omega))
            refine ev_aload_n rfl ?_
            refine g_getv (r := 42) (v := w0) g ad42 (by decide) ft12_28 (ew0) ?_
            refine ev_bipush ?_
            refine ev_icmpne f285_38 (fun c75491 => ?_) (fun c75491 => ?_)
            · refine ev_aload_n rfl ?_
              refine g_getp (r := 42) (c := 60) g ad42 (by decide) (by decide) rf42_29 ft12_29 ?_
              refine ev_aload_n rfl ?_
              refine g_getv (r := 42) (v := w0) g ad42 (by decide) ft12_28 (ew0) ?_
              refine ev_iload_n rfl ?_
              refine g_iast g ad60 rt60 (fun _ => rfl) (by omega) (by omega) (by omega) (by omega) (fun h75492 e75492 g75492 => ?_)
              have k75492 := k0.wr e75492 rfl
              refine ev_aload_n rfl ?_
              refine g_getp (r := 42) (c := 61) g75492 ad42 (by decide) (by decide) rf42_30 ft12_30 ?_
              refine ev_aload_n rfl ?_
              refine g_getv (r := 42) (v := w0) g75492 ad42 (by decide) ft12_28 (((jw_ne e75492 (Or.inl (by decide))).trans ew0)) ?_
              refine ev_iload_n rfl ?_
              refine ev_iconst ?_
              refine ev_icmplt f285_65 (fun c75493 => absurd c75493 (by omega)) (fun c75493 => ?_)
              refine ev_iload_n rfl ?_
              refine ev_goto f285_66 ?_
              refine g_iast g75492 ad61 rt61 (fun _ => rfl) (by omega) (by omega) (by omega) (by omega) (fun h75494 e75494 g75494 => ?_)
              have k75494 := k75492.wr e75494 rfl
              refine ev_aload_n rfl ?_
              refine ev_dup (by decide) ?_
              refine g_getv (r := 42) (v := w0) g75494 ad42 (by decide) ft12_28 (((jw_ne e75494 (Or.inl (by decide))).trans ((jw_ne e75492 (Or.inl (by decide))).trans ew0))) ?_
              refine ev_iconst ?_
              refine ev_iadd (r := (w0 + 1)) (by unfold w32; omega) ?_
              refine g_putf (r := 42) g75494 ad42 (by decide) ft12_28 (by decide) (fun e => absurd e nz12_28) rf42_28 (by decide) (by omega) (by omega) (fun h75495 e75495 g75495 => ?_)
              have k75495 := k75494.wr e75495 rfl
              refine ev_aload_n rfl ?_
              refine g_getv (r := 42) (v := (w0 + 1)) g75495 ad42 (by decide) ft12_28 ((jw_eq e75495)) ?_
              refine ev_iconst ?_
              refine ev_isub (r := w0) (by unfold w32; omega) ?_
              exact ev_ret rfl (by decide) (by decide) ⟨_, rfl, g75495, k75495, by (try unfold feF); (try unfold feG); (try unfold kpF); (repeat' split) <;> omega, (((jw_eq e75495))).trans (by (try unfold feF); (try unfold feG); (try unfold kpF); (repeat' split) <;> omega)⟩
            · refine ev_bipush ?_
              exact ev_ret rfl (by decide) (by decide) ⟨_, rfl, g, k0, by (try unfold feF); (try unfold feG); (try unfold kpF); (repeat' split) <;> omega, ((ew0)).trans (by (try unfold feF); (try unfold feG); (try unfold kpF); (repeat' split) <;> omega)⟩
set_option maxHeartbeats 4000000 in
theorem t212 {G : GH} {h : JH} (g : Gd G h) {a1 : Int} (la1 : (-2147483648) ≤ a1) (ua1 : a1 ≤ 2147483647) {a2 : Int} (la2 : (-2147483648) ≤ a2) (ua2 : a2 ≤ 2147483647) {w0 : Int} (ew0 : h.2.2 0 7 = w0) (lw0 : 0 ≤ w0) (uw0 : w0 ≤ 20) : jOk 2 0 0 212 [(2, 0), (0, a1), (0, a2)] h (fun v h' => ∃ r : Int, v = some (0, r) ∧ Gd G h' ∧ Kp [(37, 0), (38, 0)] h h' ∧ KeC h h' a1 a2 w0 r) := by
  refine ⟨by decide, by rw [ml212]; exact Nat.le_of_ble_eq_true rfl, ?_⟩
  rw [ml212, pp212]
  show jEv _ none _ c212_0 0 0 _ (c212_0, [(2, 0), (0, a1), (0, a2)], [], h, 0, 0)
  have k0 := Kp.rf [(37, 0), (38, 0)] h
  refine ev_iload_n rfl ?_
  refine ev_in (d := 0) (a := 0) (b := 0) (cd' := c222_0) (m := 1) (L0 := [(0, a1)]) (jcall_s (A := [(0, a1)]) (S' := []) (by decide) rfl (Nat.le_of_ble_eq_true rfl)) (by decide) ml222 pp222 (Nat.le_of_ble_eq_true rfl) rfl (by decide) (by decide) ?_
  refine ev_iload_n rfl ?_
  refine ev_iflt f222_14 (fun c75138 => ?_) (fun c75138 => ?_)
  · refine ev_iconst ?_
    refine ev_ret rfl (by decide) (by decide) ?_
    show jEv _ _ _ _ _ _ _ (_, [(2, 0), (0, a1), (0, a2)], [(0, 0)], _, _, _)
    refine ev_ifeq f212_20 (fun c75139 => ?_) (fun c75139 => absurd c75139 (by omega))
    refine ev_iconst ?_
    exact ev_ret rfl (by decide) (by decide) ⟨_, rfl, g, k0, Or.inl ⟨by unfold KV; omega, rfl, fun _ => rfl, fun _ => rfl⟩⟩
  · refine ev_iload_n rfl ?_
    refine ev_bipush ?_
    refine ev_icmpge f222_14 (fun c75140 => ?_) (fun c75140 => ?_)
    · refine ev_iconst ?_
      refine ev_ret rfl (by decide) (by decide) ?_
      show jEv _ _ _ _ _ _ _ (_, [(2, 0), (0, a1), (0, a2)], [(0, 0)], _, _, _)
      refine ev_ifeq f212_20 (fun c75141 => ?_) (fun c75141 => absurd c75141 (by omega))
      refine ev_iconst ?_
      exact ev_ret rfl (by decide) (by decide) ⟨_, rfl, g, k0, Or.inl ⟨by unfold KV; omega, rfl, fun _ => rfl, fun _ => rfl⟩⟩
    · refine ev_iconst ?_
      refine ev_goto f222_15 ?_
      refine ev_ret rfl (by decide) (by decide) ?_
      show jEv _ _ _ _ _ _ _ (_, [(2, 0), (0, a1), (0, a2)], [(0, 1)], _, _, _)
      refine ev_ifeq f212_20 (fun c75142 => absurd c75142 (by omega)) (fun c75142 => ?_)
      refine ev_iload_n rfl ?_
      refine ev_iconst ?_
      refine ev_icmpeq f212_22 (fun c75143 => ?_) (fun c75143 => ?_)
      · refine ev_aload_n rfl ?_
        refine g_getp (r := 0) (c := 37) g ad0 (by decide) (by decide) rf0_12 ft11_12 ?_
        refine ev_iload_n rfl ?_
        refine ev_iload_n rfl ?_
        refine ev_iconst ?_
        refine ev_icmpne f212_36 (fun c75144 => absurd c75144 (by omega)) (fun c75144 => ?_)
        refine ev_iconst ?_
        refine ev_goto f212_40 ?_
        refine g_iast g ad37 rt37 (fun _ => rfl) (by omega) (by omega) (by omega) (by omega) (fun h75145 e75145 g75145 => ?_)
        have k75145 := k0.wr e75145 rfl
        refine ev_aload_n rfl ?_
        refine g_getp (r := 0) (c := 38) g75145 ad0 (by decide) (by decide) rf0_13 ft11_13 ?_
        refine ev_iload_n rfl ?_
        refine ev_iconst ?_
        refine g_iast g75145 ad38 rt38 (fun _ => rfl) (by omega) (by omega) (by omega) (by omega) (fun h75146 e75146 g75146 => ?_)
        have k75146 := k75145.wr e75146 rfl
        refine ev_iconst ?_
        exact ev_ret rfl (by decide) (by decide) ⟨_, rfl, g75146, k75146, Or.inr ⟨by unfold KV; omega, rfl, (Up.kp (Up.mk2 (i := a1) (i' := a1) (v' := if a2 = -1 then -1 else a2 + 10) e75145 (by omega) (by split <;> omega)) ((Kp.rf [(38, 0)] _).wr e75146 rfl) (fun _ => rfl)), (Up.pk ((Kp.rf [(37, 0)] _).wr e75145 rfl) (fun _ => rfl) (Up.mk2 (i := a1) (i' := a1) (v' := 0) e75146 (by omega) (by omega)))⟩⟩
      · refine ev_aload_n rfl ?_
        refine ev_iload_n rfl ?_
        refine ev_in (d := 0) (a := 0) (b := 0) (cd' := c220_0) (m := 2) (L0 := [(2, 0), (0, a2)]) (jcall_v (A := [(0, a2)]) (S' := []) (r := 0) rfl (g.lt ad0) (g.tg ad0) (Nat.le_of_ble_eq_true rfl)) (by decide) ml220 pp220 (Nat.le_of_ble_eq_true rfl) rfl (by decide) (by decide) ?_
        refine ev_iload_n rfl ?_
        refine ev_iflt f220_12 (fun c75147 => ?_) (fun c75147 => ?_)
        · refine ev_aconst_null ?_
          refine ev_goto f220_22 ?_
          refine ev_ret rfl (by decide) (by decide) ?_
          show jEv _ _ _ _ _ _ _ (_, [(2, 0), (0, a1), (0, a2)], [(2, (-1))], _, _, _)
          refine ev_ifnonnull f212_22 (fun c75148 => absurd c75148 (by decide)) (fun c75148 => ?_)
          refine ev_iconst ?_
          exact ev_ret rfl (by decide) (by decide) ⟨_, rfl, g, k0, Or.inl ⟨by unfold KV; omega, rfl, fun _ => rfl, fun _ => rfl⟩⟩
        · refine ev_iload_n rfl ?_
          refine ev_aload_n rfl ?_
          refine g_getv (r := 0) (v := w0) g ad0 (by decide) ft11_7 (ew0) ?_
          refine ev_icmplt f220_16 (fun c75149 => ?_) (fun c75149 => ?_)
          · refine ev_aload_n rfl ?_
            refine g_getp (r := 0) (c := 24) g ad0 (by decide) (by decide) rf0_6 ft11_6 ?_
            refine ev_iload_n rfl ?_
            refine g_faald (g) (i := a2) (ew0) (by omega) (by omega) (fun f75150 qf75150 => ?_)
            refine ev_ret rfl (by decide) (by decide) ?_
            show jEv _ _ _ _ _ _ _ (_, [(2, 0), (0, a1), (0, a2)], [(2, (f75150 : Int))], _, _, _)
            refine ev_ifnonnull f212_22 (fun c75151 => ?_) (fun c75151 => absurd c75151 (by omega))
            refine ev_aload_n rfl ?_
            refine g_getp (r := 0) (c := 37) g ad0 (by decide) (by decide) rf0_12 ft11_12 ?_
            refine ev_iload_n rfl ?_
            refine ev_iload_n rfl ?_
            refine ev_iconst ?_
            refine ev_icmpne f212_36 (fun c75152 => ?_) (fun c75152 => absurd c75152 (by omega))
            refine ev_bipush ?_
            refine ev_iload_n rfl ?_
            refine ev_iadd (r := (a2 + 10)) (by unfold w32; omega) ?_
            refine g_iast g ad37 rt37 (fun _ => rfl) (by omega) (by omega) (by omega) (by omega) (fun h75153 e75153 g75153 => ?_)
            have k75153 := k0.wr e75153 rfl
            refine ev_aload_n rfl ?_
            refine g_getp (r := 0) (c := 38) g75153 ad0 (by decide) (by decide) rf0_13 ft11_13 ?_
            refine ev_iload_n rfl ?_
            refine ev_iconst ?_
            refine g_iast g75153 ad38 rt38 (fun _ => rfl) (by omega) (by omega) (by omega) (by omega) (fun h75154 e75154 g75154 => ?_)
            have k75154 := k75153.wr e75154 rfl
            refine ev_iconst ?_
            exact ev_ret rfl (by decide) (by decide) ⟨_, rfl, g75154, k75154, Or.inr ⟨by unfold KV; omega, rfl, (Up.kp (Up.mk2 (i := a1) (i' := a1) (v' := if a2 = -1 then -1 else a2 + 10) e75153 (by omega) (by split <;> omega)) ((Kp.rf [(38, 0)] _).wr e75154 rfl) (fun _ => rfl)), (Up.pk ((Kp.rf [(37, 0)] _).wr e75153 rfl) (fun _ => rfl) (Up.mk2 (i := a1) (i' := a1) (v' := 0) e75154 (by omega) (by omega)))⟩⟩
          · refine ev_aconst_null ?_
            refine ev_goto f220_22 ?_
            refine ev_ret rfl (by decide) (by decide) ?_
            show jEv _ _ _ _ _ _ _ (_, [(2, 0), (0, a1), (0, a2)], [(2, (-1))], _, _, _)
            refine ev_ifnonnull f212_22 (fun c75155 => absurd c75155 (by decide)) (fun c75155 => ?_)
            refine ev_iconst ?_
            exact ev_ret rfl (by decide) (by decide) ⟨_, rfl, g, k0, Or.inl ⟨by unfold KV; omega, rfl, fun _ => rfl, fun _ => rfl⟩⟩
set_option maxHeartbeats 4000000 in
theorem t371 {G : GH} {h : JH} (g : Gd G h) {a1 : Int} (la1 : (-2147483648) ≤ a1) (ua1 : a1 ≤ 2147483647) {a2 : Int} (la2 : (-2147483648) ≤ a2) (ua2 : a2 ≤ 2147483647) {w0 : Int} (ew0 : h.2.2 42 28 = w0) (lw0 : 0 ≤ w0) (uw0 : w0 ≤ 20) : jOk 3 0 0 371 [(2, 42), (0, a1), (0, a2)] h (fun v h' => ∃ r : Int, v = some (0, r) ∧ Gd G h' ∧ Kp [(79, 0)] h h' ∧ KeR h h' a1 a2 w0 r) := by
  refine ⟨by decide, by rw [ml371]; exact Nat.le_of_ble_eq_true rfl, ?_⟩
  rw [ml371, pp371]
  show jEv _ none _ c371_0 0 0 _ (c371_0, [(2, 42), (0, a1), (0, a2)], [], h, 0, 0)
  have k0 := Kp.rf [(79, 0)] h
  refine ev_iload_n rfl ?_
  refine ev_in (d := 1) (a := 0) (b := 0) (cd' := c370_0) (m := 1) (L0 := [(0, a1)]) (jcall_s (A := [(0, a1)]) (S' := []) (by decide) rfl (Nat.le_of_ble_eq_true rfl)) (by decide) ml370 pp370 (Nat.le_of_ble_eq_true rfl) rfl (by decide) (by decide) ?_
  refine ev_iload_n rfl ?_
  refine ev_iconst ?_
  refine ev_iconst ?_
  refine ev_in (d := 0) (a := 0) (b := 0) (cd' := c242_0) (m := 3) (L0 := [(0, a1), (0, 0), (0, 5)]) (jcall_s (A := [(0, 5), (0, 0), (0, a1)]) (S' := []) (by decide) rfl (Nat.le_of_ble_eq_true rfl)) (by decide) ml242 pp242 (Nat.le_of_ble_eq_true rfl) rfl (by decide) (by decide) ?_
  refine ev_iload_n rfl ?_
  refine ev_iload_n rfl ?_
  refine ev_icmplt f242_14 (fun c75182 => ?_) (fun c75182 => ?_)
  · refine ev_iconst ?_
    refine ev_ret rfl (by decide) (by decide) ?_
    show jEv _ _ _ _ _ _ _ (_, [(0, a1)], [(0, 0)], _, _, _)
    refine ev_ret rfl (by decide) (by decide) ?_
    show jEv _ _ _ _ _ _ _ (_, [(2, 42), (0, a1), (0, a2)], [(0, 0)], _, _, _)
    refine ev_ifeq f371_20 (fun c75183 => ?_) (fun c75183 => absurd c75183 (by omega))
    refine ev_iconst ?_
    exact ev_ret rfl (by decide) (by decide) ⟨_, rfl, g, k0, Or.inl ⟨by unfold KV; omega, rfl, fun _ => rfl⟩⟩
  · refine ev_iload_n rfl ?_
    refine ev_iload_n rfl ?_
    refine ev_icmpgt f242_14 (fun c75184 => ?_) (fun c75184 => ?_)
    · refine ev_iconst ?_
      refine ev_ret rfl (by decide) (by decide) ?_
      show jEv _ _ _ _ _ _ _ (_, [(0, a1)], [(0, 0)], _, _, _)
      refine ev_ret rfl (by decide) (by decide) ?_
      show jEv _ _ _ _ _ _ _ (_, [(2, 42), (0, a1), (0, a2)], [(0, 0)], _, _, _)
      refine ev_ifeq f371_20 (fun c75185 => ?_) (fun c75185 => absurd c75185 (by omega))
      refine ev_iconst ?_
      exact ev_ret rfl (by decide) (by decide) ⟨_, rfl, g, k0, Or.inl ⟨by unfold KV; omega, rfl, fun _ => rfl⟩⟩
    · refine ev_iconst ?_
      refine ev_goto f242_15 ?_
      refine ev_ret rfl (by decide) (by decide) ?_
      show jEv _ _ _ _ _ _ _ (_, [(0, a1)], [(0, 1)], _, _, _)
      refine ev_ret rfl (by decide) (by decide) ?_
      show jEv _ _ _ _ _ _ _ (_, [(2, 42), (0, a1), (0, a2)], [(0, 1)], _, _, _)
      refine ev_ifeq f371_20 (fun c75186 => absurd c75186 (by omega)) (fun c75186 => ?_)
      refine ev_iload_n rfl ?_
      refine ev_iconst ?_
      refine ev_icmpeq f371_22 (fun c75187 => ?_) (fun c75187 => ?_)
      · refine ev_aload_n rfl ?_
        refine g_getp (r := 42) (c := 79) g ad42 (by decide) (by decide) rf42_62 ft12_62 ?_
        refine ev_iload_n rfl ?_
        refine ev_iload_n rfl ?_
        refine g_iast g ad79 rt79 (fun _ => rfl) (by omega) (by omega) (by omega) (by omega) (fun h75188 e75188 g75188 => ?_)
        have k75188 := k0.wr e75188 rfl
        refine ev_iconst ?_
        exact ev_ret rfl (by decide) (by decide) ⟨_, rfl, g75188, k75188, Or.inr ⟨by unfold KV; omega, rfl, (Up.mk2 (i := a1) (i' := a1) (v' := a2) e75188 (by omega) (by omega))⟩⟩
      · refine ev_aload_n rfl ?_
        refine ev_iload_n rfl ?_
        refine ev_in (d := 1) (a := 0) (b := 0) (cd' := c284_0) (m := 2) (L0 := [(2, 42), (0, a2)]) (jcall_v (A := [(0, a2)]) (S' := []) (r := 42) rfl (g.lt ad42) (g.tg ad42) (Nat.le_of_ble_eq_true rfl)) (by decide) ml284 pp284 (Nat.le_of_ble_eq_true rfl) rfl (by decide) (by decide) ?_
        refine ev_iload_n rfl ?_
        refine ev_iconst ?_
        refine ev_aload_n rfl ?_
        refine g_getv (r := 42) (v := w0) g ad42 (by decide) ft12_28 (ew0) ?_
        refine ev_iconst ?_
        refine ev_isub (r := (w0 - 1)) (by unfold w32; omega) ?_
        refine ev_in (d := 0) (a := 0) (b := 0) (cd' := c242_0) (m := 3) (L0 := [(0, a2), (0, 0), (0, (w0 - 1))]) (jcall_s (A := [(0, (w0 - 1)), (0, 0), (0, a2)]) (S' := []) (by decide) rfl (Nat.le_of_ble_eq_true rfl)) (by decide) ml242 pp242 (Nat.le_of_ble_eq_true rfl) rfl (by decide) (by decide) ?_
        refine ev_iload_n rfl ?_
        refine ev_iload_n rfl ?_
        refine ev_icmplt f242_14 (fun c75189 => ?_) (fun c75189 => ?_)
        · refine ev_iconst ?_
          refine ev_ret rfl (by decide) (by decide) ?_
          show jEv _ _ _ _ _ _ _ (_, [(2, 42), (0, a2)], [(0, 0)], _, _, _)
          refine ev_ret rfl (by decide) (by decide) ?_
          show jEv _ _ _ _ _ _ _ (_, [(2, 42), (0, a1), (0, a2)], [(0, 0)], _, _, _)
          refine ev_ifne f371_22 (fun c75190 => absurd c75190 (by omega)) (fun c75190 => ?_)
          refine ev_iconst ?_
          exact ev_ret rfl (by decide) (by decide) ⟨_, rfl, g, k0, Or.inl ⟨by unfold KV; omega, rfl, fun _ => rfl⟩⟩
        · refine ev_iload_n rfl ?_
          refine ev_iload_n rfl ?_
          refine ev_icmpgt f242_14 (fun c75191 => ?_) (fun c75191 => ?_)
          · refine ev_iconst ?_
            refine ev_ret rfl (by decide) (by decide) ?_
            show jEv _ _ _ _ _ _ _ (_, [(2, 42), (0, a2)], [(0, 0)], _, _, _)
            refine ev_ret rfl (by decide) (by decide) ?_
            show jEv _ _ _ _ _ _ _ (_, [(2, 42), (0, a1), (0, a2)], [(0, 0)], _, _, _)
            refine ev_ifne f371_22 (fun c75192 => absurd c75192 (by omega)) (fun c75192 => ?_)
            refine ev_iconst ?_
            exact ev_ret rfl (by decide) (by decide) ⟨_, rfl, g, k0, Or.inl ⟨by unfold KV; omega, rfl, fun _ => rfl⟩⟩
          · refine ev_iconst ?_
            refine ev_goto f242_15 ?_
            refine ev_ret rfl (by decide) (by decide) ?_
            show jEv _ _ _ _ _ _ _ (_, [(2, 42), (0, a2)], [(0, 1)], _, _, _)
            refine ev_ret rfl (by decide) (by decide) ?_
            show jEv _ _ _ _ _ _ _ (_, [(2, 42), (0, a1), (0, a2)], [(0, 1)], _, _, _)
            refine ev_ifne f371_22 (fun c75193 => ?_) (fun c75193 => absurd c75193 (by omega))
            refine ev_aload_n rfl ?_
            refine g_getp (r := 42) (c := 79) g ad42 (by decide) (by decide) rf42_62 ft12_62 ?_
            refine ev_iload_n rfl ?_
            refine ev_iload_n rfl ?_
            refine g_iast g ad79 rt79 (fun _ => rfl) (by omega) (by omega) (by omega) (by omega) (fun h75194 e75194 g75194 => ?_)
            have k75194 := k0.wr e75194 rfl
            refine ev_iconst ?_
            exact ev_ret rfl (by decide) (by decide) ⟨_, rfl, g75194, k75194, Or.inr ⟨by unfold KV; omega, rfl, (Up.mk2 (i := a1) (i' := a1) (v' := a2) e75194 (by omega) (by omega))⟩⟩
set_option maxHeartbeats 4000000 in
theorem t213_l {G : GH} {h : JH} {a1 : Int} (la1 : (-2147483648) ≤ a1) (ua1 : a1 ≤ 2147483647) {a2 : Int} (la2 : (-2147483648) ≤ a2) (ua2 : a2 ≤ 2147483647) {a3 : Int} (la3 : (-2147483648) ≤ a3) (ua3 : a3 ≤ 2147483647) : ∀ N : Nat, (∀ (h1 : JH) (x4 : Int), Gd G h1 → Kp [(37, 0), (38, 0), (39, 0)] h h1 → 0 ≤ a1 → a1 ≤ 5 → 0 ≤ a2 → a2 ≤ 4 → 0 ≤ a3 → a3 ≤ 60 → 0 ≤ x4 → x4 ≤ 60 → ((-a3) + x4) ≤ 0 → Up h h1 37 a1 (a2) → Up h h1 38 a1 a3 → Zr h h1 39 (60 * a1) x4 → ((-x4) + 60) < N → jEv (jOk 1) none (fun _ => 0) c213_0 0 0 (fun v h' => ∃ r : Int, v = some (0, r) ∧ Gd G h' ∧ Kp [(37, 0), (38, 0), (39, 0)] h h' ∧ RoC h h' a1 a2 a3) (c213_48, [(2, 0), (0, a1), (0, a2), (0, a3), (0, x4)], [], h1, 0, 0)) := by
  intro N
  induction N with
  | zero => exact fun h1 x4 g1 k1 b0 b1 b2 b3 b4 b5 b6 b7 b8 b9 b10 b11 hm => absurd hm (by omega)
  | succ N ih =>
    show _
    intro h1 x4 g1 k1 b0 b1 b2 b3 b4 b5 b6 b7 b8 H0 H1 H2 hm
    refine ev_iload rfl ?_
    refine ev_iload_n rfl ?_
    refine ev_icmpge f213_73 (fun c75578 => ?_) (fun c75578 => ?_)
    · refine ev_iconst ?_
      exact ev_ret rfl (by decide) (by decide) ⟨_, rfl, g1, k1, Or.inr ⟨by unfold RV; omega, H0, H1, H2.to (by omega)⟩⟩
    · refine ev_aload_n rfl ?_
      refine g_getp (r := 0) (c := 39) g1 ad0 (by decide) (by decide) rf0_14 ft11_14 ?_
      refine ev_bipush ?_
      refine ev_iload_n rfl ?_
      refine ev_imul (r := (60 * a1)) (by unfold w32; omega) ?_
      refine ev_iload rfl ?_
      refine ev_iadd (r := (60 * a1 + x4)) (by unfold w32; omega) ?_
      refine ev_lconst ?_
      refine g_last g1 ad39 rt39 (fun _ => rfl) (by omega) (by omega) (by omega) (by omega) (fun h75579 e75579 g75579 => ?_)
      have k75579 := k1.wr e75579 rfl
      refine ev_iinc (w := (x4 + 1)) (L' := [(2, 0), (0, a1), (0, a2), (0, a3), (0, (x4 + 1))]) rfl (by unfold w32; omega) rfl ?_
      refine ev_goto f213_48 ?_
      exact ih _ _ g75579 k75579 (by omega) (by omega) (by omega) (by omega) (by omega) (by omega) (by omega) (by omega) (by omega) (Up.kp H0 ((Kp.rf [(39, 0)] _).wr e75579 rfl) (fun _ => rfl)) (Up.kp H1 ((Kp.rf [(39, 0)] _).wr e75579 rfl) (fun _ => rfl)) (Zr.step (i := (60 * a1 + x4)) H2 (by omega) (by omega) e75579 (by omega) (by omega)) (by omega)
set_option maxHeartbeats 4000000 in
theorem t213 {G : GH} {h : JH} (g : Gd G h) {a1 : Int} (la1 : (-2147483648) ≤ a1) (ua1 : a1 ≤ 2147483647) {a2 : Int} (la2 : (-2147483648) ≤ a2) (ua2 : a2 ≤ 2147483647) {a3 : Int} (la3 : (-2147483648) ≤ a3) (ua3 : a3 ≤ 2147483647) : jOk 2 0 0 213 [(2, 0), (0, a1), (0, a2), (0, a3)] h (fun v h' => ∃ r : Int, v = some (0, r) ∧ Gd G h' ∧ Kp [(37, 0), (38, 0), (39, 0)] h h' ∧ RoC h h' a1 a2 a3) := by
  refine ⟨by decide, by rw [ml213]; exact Nat.le_of_ble_eq_true rfl, ?_⟩
  rw [ml213, pp213]
  show jEv _ none _ c213_0 0 0 _ (c213_0, [(2, 0), (0, a1), (0, a2), (0, a3), (9, 0)], [], h, 0, 0)
  have k0 := Kp.rf [(37, 0), (38, 0), (39, 0)] h
  refine ev_iload_n rfl ?_
  refine ev_in (d := 0) (a := 0) (b := 0) (cd' := c222_0) (m := 1) (L0 := [(0, a1)]) (jcall_s (A := [(0, a1)]) (S' := []) (by decide) rfl (Nat.le_of_ble_eq_true rfl)) (by decide) ml222 pp222 (Nat.le_of_ble_eq_true rfl) rfl (by decide) (by decide) ?_
  refine ev_iload_n rfl ?_
  refine ev_iflt f222_14 (fun c75580 => ?_) (fun c75580 => ?_)
  · refine ev_iconst ?_
    refine ev_ret rfl (by decide) (by decide) ?_
    show jEv _ _ _ _ _ _ _ (_, [(2, 0), (0, a1), (0, a2), (0, a3), (9, 0)], [(0, 0)], _, _, _)
    refine ev_ifeq f213_22 (fun c75581 => ?_) (fun c75581 => absurd c75581 (by omega))
    refine ev_iconst ?_
    exact ev_ret rfl (by decide) (by decide) ⟨_, rfl, g, k0, Or.inl ⟨by unfold RV; omega, fun _ => rfl, fun _ => rfl, fun _ => rfl⟩⟩
  · refine ev_iload_n rfl ?_
    refine ev_bipush ?_
    refine ev_icmpge f222_14 (fun c75582 => ?_) (fun c75582 => ?_)
    · refine ev_iconst ?_
      refine ev_ret rfl (by decide) (by decide) ?_
      show jEv _ _ _ _ _ _ _ (_, [(2, 0), (0, a1), (0, a2), (0, a3), (9, 0)], [(0, 0)], _, _, _)
      refine ev_ifeq f213_22 (fun c75583 => ?_) (fun c75583 => absurd c75583 (by omega))
      refine ev_iconst ?_
      exact ev_ret rfl (by decide) (by decide) ⟨_, rfl, g, k0, Or.inl ⟨by unfold RV; omega, fun _ => rfl, fun _ => rfl, fun _ => rfl⟩⟩
    · refine ev_iconst ?_
      refine ev_goto f222_15 ?_
      refine ev_ret rfl (by decide) (by decide) ?_
      show jEv _ _ _ _ _ _ _ (_, [(2, 0), (0, a1), (0, a2), (0, a3), (9, 0)], [(0, 1)], _, _, _)
      refine ev_ifeq f213_22 (fun c75584 => absurd c75584 (by omega)) (fun c75584 => ?_)
      refine ev_iload_n rfl ?_
      refine ev_iflt f213_22 (fun c75585 => ?_) (fun c75585 => ?_)
      · refine ev_iconst ?_
        exact ev_ret rfl (by decide) (by decide) ⟨_, rfl, g, k0, Or.inl ⟨by unfold RV; omega, fun _ => rfl, fun _ => rfl, fun _ => rfl⟩⟩
      · refine ev_iload_n rfl ?_
        refine ev_iconst ?_
        refine ev_icmpge f213_22 (fun c75586 => ?_) (fun c75586 => ?_)
        · refine ev_iconst ?_
          exact ev_ret rfl (by decide) (by decide) ⟨_, rfl, g, k0, Or.inl ⟨by unfold RV; omega, fun _ => rfl, fun _ => rfl, fun _ => rfl⟩⟩
        · refine ev_iload_n rfl ?_
          refine ev_bipush ?_
          refine ev_icmple f213_24 (fun c75587 => ?_) (fun c75587 => ?_)
          · refine ev_iload_n rfl ?_
            refine ev_ifge f213_31 (fun c75588 => ?_) (fun c75588 => ?_)
            · refine ev_aload_n rfl ?_
              refine g_getp (r := 0) (c := 37) g ad0 (by decide) (by decide) rf0_12 ft11_12 ?_
              refine ev_iload_n rfl ?_
              refine ev_iload_n rfl ?_
              refine g_iast g ad37 rt37 (fun _ => rfl) (by omega) (by omega) (by omega) (by omega) (fun h75589 e75589 g75589 => ?_)
              have k75589 := k0.wr e75589 rfl
              refine ev_aload_n rfl ?_
              refine g_getp (r := 0) (c := 38) g75589 ad0 (by decide) (by decide) rf0_13 ft11_13 ?_
              refine ev_iload_n rfl ?_
              refine ev_iload_n rfl ?_
              refine g_iast g75589 ad38 rt38 (fun _ => rfl) (by omega) (by omega) (by omega) (by omega) (fun h75590 e75590 g75590 => ?_)
              have k75590 := k75589.wr e75590 rfl
              refine ev_iconst ?_
              refine ev_istore (L' := [(2, 0), (0, a1), (0, a2), (0, a3), (0, 0)]) (Nat.le_of_ble_eq_true rfl) rfl ?_
              exact (t213_l la1 ua1 la2 ua2 la3 ua3 122) _ _ g75590 k75590 (by omega) (by omega) (by omega) (by omega) (by omega) (by omega) (by omega) (by omega) (by omega) (Up.kp (Up.mk2 (i := a1) (i' := a1) (v' := a2) e75589 (by omega) (by omega)) ((Kp.rf [(38, 0)] _).wr e75590 rfl) (fun _ => rfl)) (Up.pk ((Kp.rf [(37, 0)] _).wr e75589 rfl) (fun _ => rfl) (Up.mk2 (i := a1) (i' := a1) (v' := a3) e75590 (by omega) (by omega))) (Zr.start _ ((Kp.rf [(37, 0), (38, 0)] _).wr e75589 rfl |>.wr e75590 rfl) (fun _ => rfl) (by omega)) (by omega)
            · refine ev_bipush ?_
              exact ev_ret rfl (by decide) (by decide) ⟨_, rfl, g, k0, Or.inl ⟨by unfold RV; omega, fun _ => rfl, fun _ => rfl, fun _ => rfl⟩⟩
          · refine ev_iconst ?_
            exact ev_ret rfl (by decide) (by decide) ⟨_, rfl, g, k0, Or.inl ⟨by unfold RV; omega, fun _ => rfl, fun _ => rfl, fun _ => rfl⟩⟩
set_option maxHeartbeats 4000000 in
theorem t372_l {G : GH} {h : JH} {a1 : Int} (la1 : (-2147483648) ≤ a1) (ua1 : a1 ≤ 2147483647) {a2 : Int} (la2 : (-2147483648) ≤ a2) (ua2 : a2 ≤ 2147483647) {a3 : Int} (la3 : (-2147483648) ≤ a3) (ua3 : a3 ≤ 2147483647) : ∀ N : Nat, (∀ (h1 : JH) (x4 : Int), Gd G h1 → Kp [(79, 0), (80, 0), (81, 0)] h h1 → 0 ≤ a1 → a1 ≤ 5 → 0 ≤ a2 → a2 ≤ 4 → 0 ≤ a3 → a3 ≤ 60 → 0 ≤ x4 → x4 ≤ 360 → (60 * a1 + (-x4)) ≤ 0 → ((-60) * a1 + x4) ≤ 60 → Up h h1 79 a1 (-2 - a2) → Up h h1 80 a1 a3 → Zr h h1 81 (60 * a1) (x4 - 60 * a1) → ((-x4) + 360) < N → jEv (jOk 2) none (fun _ => 0) c372_0 0 0 (fun v h' => ∃ r : Int, v = some (0, r) ∧ Gd G h' ∧ Kp [(79, 0), (80, 0), (81, 0)] h h' ∧ RoR h h' a1 a2 a3) (c372_54, [(2, 42), (0, a1), (0, a2), (0, a3), (0, x4)], [], h1, 0, 0)) := by
  intro N
  induction N with
  | zero => exact fun h1 x4 g1 k1 b0 b1 b2 b3 b4 b5 b6 b7 b8 b9 b10 b11 b12 hm => absurd hm (by omega)
  | succ N ih =>
    show _
    intro h1 x4 g1 k1 b0 b1 b2 b3 b4 b5 b6 b7 b8 b9 H0 H1 H2 hm
    refine ev_iload rfl ?_
    refine ev_bipush ?_
    refine ev_iload_n rfl ?_
    refine ev_imul (r := (60 * a1)) (by unfold w32; omega) ?_
    refine ev_bipush ?_
    refine ev_iadd (r := (60 * a1 + 60)) (by unfold w32; omega) ?_
    refine ev_icmpge f372_80 (fun c75637 => ?_) (fun c75637 => ?_)
    · refine ev_iconst ?_
      exact ev_ret rfl (by decide) (by decide) ⟨_, rfl, g1, k1, Or.inr ⟨by unfold RV; omega, H0, H1, H2.to (by omega)⟩⟩
    · refine ev_aload_n rfl ?_
      refine g_getp (r := 42) (c := 81) g1 ad42 (by decide) (by decide) rf42_64 ft12_64 ?_
      refine ev_iload rfl ?_
      refine ev_lconst ?_
      refine g_last g1 ad81 rt81 (fun _ => rfl) (by omega) (by omega) (by omega) (by omega) (fun h75638 e75638 g75638 => ?_)
      have k75638 := k1.wr e75638 rfl
      refine ev_iinc (w := (x4 + 1)) (L' := [(2, 42), (0, a1), (0, a2), (0, a3), (0, (x4 + 1))]) rfl (by unfold w32; omega) rfl ?_
      refine ev_goto f372_54 ?_
      exact ih _ _ g75638 k75638 (by omega) (by omega) (by omega) (by omega) (by omega) (by omega) (by omega) (by omega) (by omega) (by omega) (Up.kp H0 ((Kp.rf [(81, 0)] _).wr e75638 rfl) (fun _ => rfl)) (Up.kp H1 ((Kp.rf [(81, 0)] _).wr e75638 rfl) (fun _ => rfl)) (Zr.step (i := x4) H2 (by omega) (by omega) e75638 (by omega) (by omega)) (by omega)
set_option maxHeartbeats 4000000 in
theorem t372 {G : GH} {h : JH} (g : Gd G h) {a1 : Int} (la1 : (-2147483648) ≤ a1) (ua1 : a1 ≤ 2147483647) {a2 : Int} (la2 : (-2147483648) ≤ a2) (ua2 : a2 ≤ 2147483647) {a3 : Int} (la3 : (-2147483648) ≤ a3) (ua3 : a3 ≤ 2147483647) : jOk 3 0 0 372 [(2, 42), (0, a1), (0, a2), (0, a3)] h (fun v h' => ∃ r : Int, v = some (0, r) ∧ Gd G h' ∧ Kp [(79, 0), (80, 0), (81, 0)] h h' ∧ RoR h h' a1 a2 a3) := by
  refine ⟨by decide, by rw [ml372]; exact Nat.le_of_ble_eq_true rfl, ?_⟩
  rw [ml372, pp372]
  show jEv _ none _ c372_0 0 0 _ (c372_0, [(2, 42), (0, a1), (0, a2), (0, a3), (9, 0)], [], h, 0, 0)
  have k0 := Kp.rf [(79, 0), (80, 0), (81, 0)] h
  refine ev_iload_n rfl ?_
  refine ev_in (d := 1) (a := 0) (b := 0) (cd' := c370_0) (m := 1) (L0 := [(0, a1)]) (jcall_s (A := [(0, a1)]) (S' := []) (by decide) rfl (Nat.le_of_ble_eq_true rfl)) (by decide) ml370 pp370 (Nat.le_of_ble_eq_true rfl) rfl (by decide) (by decide) ?_
  refine ev_iload_n rfl ?_
  refine ev_iconst ?_
  refine ev_iconst ?_
  refine ev_in (d := 0) (a := 0) (b := 0) (cd' := c242_0) (m := 3) (L0 := [(0, a1), (0, 0), (0, 5)]) (jcall_s (A := [(0, 5), (0, 0), (0, a1)]) (S' := []) (by decide) rfl (Nat.le_of_ble_eq_true rfl)) (by decide) ml242 pp242 (Nat.le_of_ble_eq_true rfl) rfl (by decide) (by decide) ?_
  refine ev_iload_n rfl ?_
  refine ev_iload_n rfl ?_
  refine ev_icmplt f242_14 (fun c75639 => ?_) (fun c75639 => ?_)
  · refine ev_iconst ?_
    refine ev_ret rfl (by decide) (by decide) ?_
    show jEv _ _ _ _ _ _ _ (_, [(0, a1)], [(0, 0)], _, _, _)
    refine ev_ret rfl (by decide) (by decide) ?_
    show jEv _ _ _ _ _ _ _ (_, [(2, 42), (0, a1), (0, a2), (0, a3), (9, 0)], [(0, 0)], _, _, _)
    refine ev_ifeq f372_22 (fun c75640 => ?_) (fun c75640 => absurd c75640 (by omega))
    refine ev_iconst ?_
    exact ev_ret rfl (by decide) (by decide) ⟨_, rfl, g, k0, Or.inl ⟨by unfold RV; omega, fun _ => rfl, fun _ => rfl, fun _ => rfl⟩⟩
  · refine ev_iload_n rfl ?_
    refine ev_iload_n rfl ?_
    refine ev_icmpgt f242_14 (fun c75641 => ?_) (fun c75641 => ?_)
    · refine ev_iconst ?_
      refine ev_ret rfl (by decide) (by decide) ?_
      show jEv _ _ _ _ _ _ _ (_, [(0, a1)], [(0, 0)], _, _, _)
      refine ev_ret rfl (by decide) (by decide) ?_
      show jEv _ _ _ _ _ _ _ (_, [(2, 42), (0, a1), (0, a2), (0, a3), (9, 0)], [(0, 0)], _, _, _)
      refine ev_ifeq f372_22 (fun c75642 => ?_) (fun c75642 => absurd c75642 (by omega))
      refine ev_iconst ?_
      exact ev_ret rfl (by decide) (by decide) ⟨_, rfl, g, k0, Or.inl ⟨by unfold RV; omega, fun _ => rfl, fun _ => rfl, fun _ => rfl⟩⟩
    · refine ev_iconst ?_
      refine ev_goto f242_15 ?_
      refine ev_ret rfl (by decide) (by decide) ?_
      show jEv _ _ _ _ _ _ _ (_, [(0, a1)], [(0, 1)], _, _, _)
      refine ev_ret rfl (by decide) (by decide) ?_
      show jEv _ _ _ _ _ _ _ (_, [(2, 42), (0, a1), (0, a2), (0, a3), (9, 0)], [(0, 1)], _, _, _)
      refine ev_ifeq f372_22 (fun c75643 => absurd c75643 (by omega)) (fun c75643 => ?_)
      refine ev_iload_n rfl ?_
      refine ev_iconst ?_
      refine ev_iconst ?_
      refine ev_in (d := 1) (a := 0) (b := 0) (cd' := c242_0) (m := 3) (L0 := [(0, a2), (0, 0), (0, 4)]) (jcall_s (A := [(0, 4), (0, 0), (0, a2)]) (S' := []) (by decide) rfl (Nat.le_of_ble_eq_true rfl)) (by decide) ml242 pp242 (Nat.le_of_ble_eq_true rfl) rfl (by decide) (by decide) ?_
      refine ev_iload_n rfl ?_
      refine ev_iload_n rfl ?_
      refine ev_icmplt f242_14 (fun c75644 => ?_) (fun c75644 => ?_)
      · refine ev_iconst ?_
        refine ev_ret rfl (by decide) (by decide) ?_
        show jEv _ _ _ _ _ _ _ (_, [(2, 42), (0, a1), (0, a2), (0, a3), (9, 0)], [(0, 0)], _, _, _)
        refine ev_ifeq f372_22 (fun c75645 => ?_) (fun c75645 => absurd c75645 (by omega))
        refine ev_iconst ?_
        exact ev_ret rfl (by decide) (by decide) ⟨_, rfl, g, k0, Or.inl ⟨by unfold RV; omega, fun _ => rfl, fun _ => rfl, fun _ => rfl⟩⟩
      · refine ev_iload_n rfl ?_
        refine ev_iload_n rfl ?_
        refine ev_icmpgt f242_14 (fun c75646 => ?_) (fun c75646 => ?_)
        · refine ev_iconst ?_
          refine ev_ret rfl (by decide) (by decide) ?_
          show jEv _ _ _ _ _ _ _ (_, [(2, 42), (0, a1), (0, a2), (0, a3), (9, 0)], [(0, 0)], _, _, _)
          refine ev_ifeq f372_22 (fun c75647 => ?_) (fun c75647 => absurd c75647 (by omega))
          refine ev_iconst ?_
          exact ev_ret rfl (by decide) (by decide) ⟨_, rfl, g, k0, Or.inl ⟨by unfold RV; omega, fun _ => rfl, fun _ => rfl, fun _ => rfl⟩⟩
        · refine ev_iconst ?_
          refine ev_goto f242_15 ?_
          refine ev_ret rfl (by decide) (by decide) ?_
          show jEv _ _ _ _ _ _ _ (_, [(2, 42), (0, a1), (0, a2), (0, a3), (9, 0)], [(0, 1)], _, _, _)
          refine ev_ifeq f372_22 (fun c75648 => absurd c75648 (by omega)) (fun c75648 => ?_)
          refine ev_iload_n rfl ?_
          refine ev_bipush ?_
          refine ev_icmple f372_24 (fun c75649 => ?_) (fun c75649 => ?_)
          · refine ev_iload_n rfl ?_
            refine ev_ifge f372_31 (fun c75650 => ?_) (fun c75650 => ?_)
            · refine ev_aload_n rfl ?_
              refine g_getp (r := 42) (c := 79) g ad42 (by decide) (by decide) rf42_62 ft12_62 ?_
              refine ev_iload_n rfl ?_
              refine ev_bipush ?_
              refine ev_iload_n rfl ?_
              refine ev_isub (r := ((-a2) - 2)) (by unfold w32; omega) ?_
              refine g_iast g ad79 rt79 (fun _ => rfl) (by omega) (by omega) (by omega) (by omega) (fun h75651 e75651 g75651 => ?_)
              have k75651 := k0.wr e75651 rfl
              refine ev_aload_n rfl ?_
              refine g_getp (r := 42) (c := 80) g75651 ad42 (by decide) (by decide) rf42_63 ft12_63 ?_
              refine ev_iload_n rfl ?_
              refine ev_iload_n rfl ?_
              refine g_iast g75651 ad80 rt80 (fun _ => rfl) (by omega) (by omega) (by omega) (by omega) (fun h75652 e75652 g75652 => ?_)
              have k75652 := k75651.wr e75652 rfl
              refine ev_bipush ?_
              refine ev_iload_n rfl ?_
              refine ev_imul (r := (60 * a1)) (by unfold w32; omega) ?_
              refine ev_istore (L' := [(2, 42), (0, a1), (0, a2), (0, a3), (0, (60 * a1))]) (Nat.le_of_ble_eq_true rfl) rfl ?_
              exact (t372_l la1 ua1 la2 ua2 la3 ua3 722) _ _ g75652 k75652 (by omega) (by omega) (by omega) (by omega) (by omega) (by omega) (by omega) (by omega) (by omega) (by omega) (Up.kp (Up.mk2 (i := a1) (i' := a1) (v' := -2 - a2) e75651 (by omega) (by omega)) ((Kp.rf [(80, 0)] _).wr e75652 rfl) (fun _ => rfl)) (Up.pk ((Kp.rf [(79, 0)] _).wr e75651 rfl) (fun _ => rfl) (Up.mk2 (i := a1) (i' := a1) (v' := a3) e75652 (by omega) (by omega))) (Zr.start _ ((Kp.rf [(79, 0), (80, 0)] _).wr e75651 rfl |>.wr e75652 rfl) (fun _ => rfl) (by omega)) (by omega)
            · refine ev_bipush ?_
              exact ev_ret rfl (by decide) (by decide) ⟨_, rfl, g, k0, Or.inl ⟨by unfold RV; omega, fun _ => rfl, fun _ => rfl, fun _ => rfl⟩⟩
          · refine ev_iconst ?_
            exact ev_ret rfl (by decide) (by decide) ⟨_, rfl, g, k0, Or.inl ⟨by unfold RV; omega, fun _ => rfl, fun _ => rfl, fun _ => rfl⟩⟩
set_option maxHeartbeats 4000000 in
theorem t214 {G : GH} {h : JH} (g : Gd G h) {a1 : Int} (la1 : (-2147483648) ≤ a1) (ua1 : a1 ≤ 2147483647) {a2 : Int} (la2 : (-2147483648) ≤ a2) (ua2 : a2 ≤ 2147483647) {a3 : Int} (la3 : (-9223372036854775808) ≤ a3) (ua3 : a3 ≤ 9223372036854775807) : jOk 3 0 0 214 [(2, 0), (0, a1), (0, a2), (1, a3)] h (fun v h' => ∃ r : Int, v = some (0, r) ∧ Gd G h' ∧ Kp [(39, 0)] h h' ∧ PuC h h' a1 a2 a3) := by
  refine ⟨by decide, by rw [ml214]; exact Nat.le_of_ble_eq_true rfl, ?_⟩
  rw [ml214, pp214]
  show jEv _ none _ c214_0 0 0 _ (c214_0, [(2, 0), (0, a1), (0, a2), (1, a3), (9, 0), (9, 0)], [], h, 0, 0)
  have k0 := Kp.rf [(39, 0)] h
  refine ev_aload_n rfl ?_
  refine ev_iload_n rfl ?_
  refine ev_iload_n rfl ?_
  refine ev_in (d := 1) (a := 0) (b := 0) (cd' := c239_0) (m := 3) (L0 := [(2, 0), (0, a1), (0, a2)]) (jcall_v (A := [(0, a2), (0, a1)]) (S' := []) (r := 0) rfl (g.lt ad0) (g.tg ad0) (Nat.le_of_ble_eq_true rfl)) (by decide) ml239 pp239 (Nat.le_of_ble_eq_true rfl) rfl (by decide) (by decide) ?_
  refine ev_iload_n rfl ?_
  refine ev_in (d := 0) (a := 0) (b := 0) (cd' := c222_0) (m := 1) (L0 := [(0, a1)]) (jcall_s (A := [(0, a1)]) (S' := []) (by decide) rfl (Nat.le_of_ble_eq_true rfl)) (by decide) ml222 pp222 (Nat.le_of_ble_eq_true rfl) rfl (by decide) (by decide) ?_
  refine ev_iload_n rfl ?_
  refine ev_iflt f222_14 (fun c75715 => ?_) (fun c75715 => ?_)
  · refine ev_iconst ?_
    refine ev_ret rfl (by decide) (by decide) ?_
    show jEv _ _ _ _ _ _ _ (_, [(2, 0), (0, a1), (0, a2)], [(0, 0)], _, _, _)
    refine ev_ifne f239_9 (fun c75716 => absurd c75716 (by omega)) (fun c75716 => ?_)
    refine ev_iconst ?_
    refine ev_ret rfl (by decide) (by decide) ?_
    show jEv _ _ _ _ _ _ _ (_, [(2, 0), (0, a1), (0, a2), (1, a3), (9, 0), (9, 0)], [(0, (-1))], _, _, _)
    refine ev_istore (L' := [(2, 0), (0, a1), (0, a2), (1, a3), (9, 0), (0, (-1))]) (Nat.le_of_ble_eq_true rfl) rfl ?_
    refine ev_iload rfl ?_
    refine ev_ifeq f214_16 (fun c75717 => absurd c75717 (by omega)) (fun c75717 => ?_)
    refine ev_iload rfl ?_
    exact ev_ret rfl (by decide) (by decide) ⟨_, rfl, g, k0, Or.inl ⟨by unfold PV0; omega, fun _ => rfl⟩⟩
  · refine ev_iload_n rfl ?_
    refine ev_bipush ?_
    refine ev_icmpge f222_14 (fun c75718 => ?_) (fun c75718 => ?_)
    · refine ev_iconst ?_
      refine ev_ret rfl (by decide) (by decide) ?_
      show jEv _ _ _ _ _ _ _ (_, [(2, 0), (0, a1), (0, a2)], [(0, 0)], _, _, _)
      refine ev_ifne f239_9 (fun c75719 => absurd c75719 (by omega)) (fun c75719 => ?_)
      refine ev_iconst ?_
      refine ev_ret rfl (by decide) (by decide) ?_
      show jEv _ _ _ _ _ _ _ (_, [(2, 0), (0, a1), (0, a2), (1, a3), (9, 0), (9, 0)], [(0, (-1))], _, _, _)
      refine ev_istore (L' := [(2, 0), (0, a1), (0, a2), (1, a3), (9, 0), (0, (-1))]) (Nat.le_of_ble_eq_true rfl) rfl ?_
      refine ev_iload rfl ?_
      refine ev_ifeq f214_16 (fun c75720 => absurd c75720 (by omega)) (fun c75720 => ?_)
      refine ev_iload rfl ?_
      exact ev_ret rfl (by decide) (by decide) ⟨_, rfl, g, k0, Or.inl ⟨by unfold PV0; omega, fun _ => rfl⟩⟩
    · refine ev_iconst ?_
      refine ev_goto f222_15 ?_
      refine ev_ret rfl (by decide) (by decide) ?_
      show jEv _ _ _ _ _ _ _ (_, [(2, 0), (0, a1), (0, a2)], [(0, 1)], _, _, _)
      refine ev_ifne f239_9 (fun c75721 => ?_) (fun c75721 => absurd c75721 (by omega))
      refine ev_aload_n rfl ?_
      refine g_getp (r := 0) (c := 37) g ad0 (by decide) (by decide) rf0_12 ft11_12 ?_
      refine ev_iload_n rfl ?_
      refine g_iald g ad37 rt37 (by omega) (by omega) (fun v75722 ev75722 lv75722 uv75722 => ?_)
      refine ev_iconst ?_
      refine ev_icmpne f239_22 (fun c75723 => ?_) (fun c75723 => ?_)
      · refine ev_aload_n rfl ?_
        refine g_getp (r := 0) (c := 37) g ad0 (by decide) (by decide) rf0_12 ft11_12 ?_
        refine ev_iload_n rfl ?_
        refine g_ialdv (v := v75722) g ad37 (by omega) (by omega) (ev75722) ?_
        refine ev_bipush ?_
        refine ev_icmplt f239_36 (fun c75724 => ?_) (fun c75724 => ?_)
        · refine ev_iload_n rfl ?_
          refine ev_iflt f239_50 (fun c75725 => ?_) (fun c75725 => ?_)
          · refine ev_bipush ?_
            refine ev_goto f239_56 ?_
            refine ev_ret rfl (by decide) (by decide) ?_
            show jEv _ _ _ _ _ _ _ (_, [(2, 0), (0, a1), (0, a2), (1, a3), (9, 0), (9, 0)], [(0, (-13))], _, _, _)
            refine ev_istore (L' := [(2, 0), (0, a1), (0, a2), (1, a3), (9, 0), (0, (-13))]) (Nat.le_of_ble_eq_true rfl) rfl ?_
            refine ev_iload rfl ?_
            refine ev_ifeq f214_16 (fun c75726 => absurd c75726 (by omega)) (fun c75726 => ?_)
            refine ev_iload rfl ?_
            exact ev_ret rfl (by decide) (by decide) ⟨_, rfl, g, k0, Or.inl ⟨by unfold PV0; (try rw [ev75722]); omega, fun _ => rfl⟩⟩
          · refine ev_iload_n rfl ?_
            refine ev_aload_n rfl ?_
            refine g_getp (r := 0) (c := 38) g ad0 (by decide) (by decide) rf0_13 ft11_13 ?_
            refine ev_iload_n rfl ?_
            refine g_iald g ad38 rt38 (by omega) (by omega) (fun v75727 ev75727 lv75727 uv75727 => ?_)
            refine ev_icmplt f239_55 (fun c75728 => ?_) (fun c75728 => ?_)
            · refine ev_iconst ?_
              refine ev_ret rfl (by decide) (by decide) ?_
              show jEv _ _ _ _ _ _ _ (_, [(2, 0), (0, a1), (0, a2), (1, a3), (9, 0), (9, 0)], [(0, 0)], _, _, _)
              refine ev_istore (L' := [(2, 0), (0, a1), (0, a2), (1, a3), (9, 0), (0, 0)]) (Nat.le_of_ble_eq_true rfl) rfl ?_
              refine ev_iload rfl ?_
              refine ev_ifeq f214_16 (fun c75729 => ?_) (fun c75729 => absurd c75729 (by omega))
              refine ev_aload_n rfl ?_
              refine g_getp (r := 0) (c := 39) g ad0 (by decide) (by decide) rf0_14 ft11_14 ?_
              refine ev_bipush ?_
              refine ev_iload_n rfl ?_
              refine ev_imul (r := (60 * a1)) (by unfold w32; omega) ?_
              refine ev_iload_n rfl ?_
              refine ev_iadd (r := (60 * a1 + a2)) (by unfold w32; omega) ?_
              refine ev_aload_n rfl ?_
              refine g_getp (r := 0) (c := 37) g ad0 (by decide) (by decide) rf0_12 ft11_12 ?_
              refine ev_iload_n rfl ?_
              refine g_ialdv (v := v75722) g ad37 (by omega) (by omega) (ev75722) ?_
              refine ev_lload_n rfl ?_
              refine ev_in (d := 1) (a := 0) (b := 0) (cd' := c240_0) (m := 3) (L0 := [(0, v75722), (1, a3), (9, 0)]) (jcall_s (A := [(1, a3), (0, v75722)]) (S' := [(0, (60 * a1 + a2)), (2, 39)]) (by decide) rfl (Nat.le_of_ble_eq_true rfl)) (by decide) ml240 pp240 (Nat.le_of_ble_eq_true rfl) rfl (by decide) (by decide) ?_
              refine ev_iload_n rfl ?_
              rcases (show v75722 = 0 ∨ v75722 = 1 ∨ v75722 = 2 ∨ v75722 = 3 ∨ 3 < v75722 by omega) with c75730 | c75730 | c75730 | c75730 | c75730
              · refine ev_sw (t := 32) (by rw [c75730]; decide) f240_32 ?_
                refine ev_lload_n rfl ?_
                refine g_l2iG (fun v75731 ev75731 lv75731 uv75731 => ?_)
                refine g_i2bG (fun v75732 ev75732 lv75732 uv75732 => ?_)
                refine ev_i2l ?_
                refine ev_ret rfl (by decide) (by decide) ?_
                show jEv _ _ _ _ _ _ _ (_, [(2, 0), (0, a1), (0, a2), (1, a3), (9, 0), (0, 0)], [(1, v75732), (0, (60 * a1 + a2)), (2, 39)], _, _, _)
                refine g_last g ad39 rt39 (fun _ => rfl) (by omega) (by omega) (by omega) (by omega) (fun h75733 e75733 g75733 => ?_)
                have k75733 := k0.wr e75733 rfl
                refine ev_iconst ?_
                exact ev_ret rfl (by decide) (by decide) ⟨_, rfl, g75733, k75733, Or.inr ⟨by unfold PV0; (try rw [ev75722]); (try rw [ev75727]); omega, (Up.mk2 (i := (60 * a1 + a2)) (i' := 60 * a1 + a2) (v' := lbF (h.2.2 37 (a1).toNat) a3) e75733 (by omega) (by unfold lbF; (try rw [ev75722]); (try rw [ev75727]); (repeat' split) <;> first | (exfalso; omega) | (subst_vars; rfl) | omega))⟩⟩
              · refine ev_sw (t := 37) (by rw [c75730]; decide) f240_37 ?_
                refine ev_lload_n rfl ?_
                refine g_l2iG (fun v75734 ev75734 lv75734 uv75734 => ?_)
                refine g_i2sG (fun v75735 ev75735 lv75735 uv75735 => ?_)
                refine ev_i2l ?_
                refine ev_ret rfl (by decide) (by decide) ?_
                show jEv _ _ _ _ _ _ _ (_, [(2, 0), (0, a1), (0, a2), (1, a3), (9, 0), (0, 0)], [(1, v75735), (0, (60 * a1 + a2)), (2, 39)], _, _, _)
                refine g_last g ad39 rt39 (fun _ => rfl) (by omega) (by omega) (by omega) (by omega) (fun h75736 e75736 g75736 => ?_)
                have k75736 := k0.wr e75736 rfl
                refine ev_iconst ?_
                exact ev_ret rfl (by decide) (by decide) ⟨_, rfl, g75736, k75736, Or.inr ⟨by unfold PV0; (try rw [ev75722]); (try rw [ev75727]); omega, (Up.mk2 (i := (60 * a1 + a2)) (i' := 60 * a1 + a2) (v' := lbF (h.2.2 37 (a1).toNat) a3) e75736 (by omega) (by unfold lbF; (try rw [ev75722]); (try rw [ev75727]); (repeat' split) <;> first | (exfalso; omega) | (subst_vars; rfl) | omega))⟩⟩
              · refine ev_sw (t := 42) (by rw [c75730]; decide) f240_42 ?_
                refine ev_lload_n rfl ?_
                refine g_l2iG (fun v75737 ev75737 lv75737 uv75737 => ?_)
                refine ev_i2l ?_
                refine ev_ret rfl (by decide) (by decide) ?_
                show jEv _ _ _ _ _ _ _ (_, [(2, 0), (0, a1), (0, a2), (1, a3), (9, 0), (0, 0)], [(1, v75737), (0, (60 * a1 + a2)), (2, 39)], _, _, _)
                refine g_last g ad39 rt39 (fun _ => rfl) (by omega) (by omega) (by omega) (by omega) (fun h75738 e75738 g75738 => ?_)
                have k75738 := k0.wr e75738 rfl
                refine ev_iconst ?_
                exact ev_ret rfl (by decide) (by decide) ⟨_, rfl, g75738, k75738, Or.inr ⟨by unfold PV0; (try rw [ev75722]); (try rw [ev75727]); omega, (Up.mk2 (i := (60 * a1 + a2)) (i' := 60 * a1 + a2) (v' := lbF (h.2.2 37 (a1).toNat) a3) e75738 (by omega) (by unfold lbF; (try rw [ev75722]); (try rw [ev75727]); (repeat' split) <;> first | (exfalso; omega) | (subst_vars; rfl) | omega))⟩⟩
              · refine ev_sw (t := 46) (by rw [c75730]; decide) f240_46 ?_
                refine ev_lload_n rfl ?_
                refine ev_ret rfl (by decide) (by decide) ?_
                show jEv _ _ _ _ _ _ _ (_, [(2, 0), (0, a1), (0, a2), (1, a3), (9, 0), (0, 0)], [(1, a3), (0, (60 * a1 + a2)), (2, 39)], _, _, _)
                refine g_last g ad39 rt39 (fun _ => rfl) (by omega) (by omega) (by omega) (by omega) (fun h75739 e75739 g75739 => ?_)
                have k75739 := k0.wr e75739 rfl
                refine ev_iconst ?_
                exact ev_ret rfl (by decide) (by decide) ⟨_, rfl, g75739, k75739, Or.inr ⟨by unfold PV0; (try rw [ev75722]); (try rw [ev75727]); omega, (Up.mk2 (i := (60 * a1 + a2)) (i' := 60 * a1 + a2) (v' := lbF (h.2.2 37 (a1).toNat) a3) e75739 (by omega) (by unfold lbF; (try rw [ev75722]); (try rw [ev75727]); (repeat' split) <;> first | (exfalso; omega) | (subst_vars; rfl) | omega))⟩⟩
              · refine ev_sw (t := 48) (by rw [if_pos (show _ ∨ _ by omega)]; rfl) f240_48 ?_
                refine ev_lload_n rfl ?_
                refine ev_lconst ?_
                refine ev_lcmp ?_
                refine ev_ifeq f240_58 (fun c75740 => ?_) (fun c75740 => ?_)
                · have c75740b := jcmpL_eq c75740
                  refine ev_lconst ?_
                  refine ev_ret rfl (by decide) (by decide) ?_
                  show jEv _ _ _ _ _ _ _ (_, [(2, 0), (0, a1), (0, a2), (1, a3), (9, 0), (0, 0)], [(1, 0), (0, (60 * a1 + a2)), (2, 39)], _, _, _)
                  refine g_last g ad39 rt39 (fun _ => rfl) (by omega) (by omega) (by omega) (by omega) (fun h75741 e75741 g75741 => ?_)
                  have k75741 := k0.wr e75741 rfl
                  refine ev_iconst ?_
                  exact ev_ret rfl (by decide) (by decide) ⟨_, rfl, g75741, k75741, Or.inr ⟨by unfold PV0; (try rw [ev75722]); (try rw [ev75727]); omega, (Up.mk2 (i := (60 * a1 + a2)) (i' := 60 * a1 + a2) (v' := lbF (h.2.2 37 (a1).toNat) a3) e75741 (by omega) (by unfold lbF; (try rw [ev75722]); (try rw [ev75727]); (repeat' split) <;> first | (exfalso; omega) | (subst_vars; rfl) | omega))⟩⟩
                · have c75740b := jcmpL_eqN c75740
                  refine ev_lconst ?_
                  refine ev_goto f240_59 ?_
                  refine ev_ret rfl (by decide) (by decide) ?_
                  show jEv _ _ _ _ _ _ _ (_, [(2, 0), (0, a1), (0, a2), (1, a3), (9, 0), (0, 0)], [(1, 1), (0, (60 * a1 + a2)), (2, 39)], _, _, _)
                  refine g_last g ad39 rt39 (fun _ => rfl) (by omega) (by omega) (by omega) (by omega) (fun h75742 e75742 g75742 => ?_)
                  have k75742 := k0.wr e75742 rfl
                  refine ev_iconst ?_
                  exact ev_ret rfl (by decide) (by decide) ⟨_, rfl, g75742, k75742, Or.inr ⟨by unfold PV0; (try rw [ev75722]); (try rw [ev75727]); omega, (Up.mk2 (i := (60 * a1 + a2)) (i' := 60 * a1 + a2) (v' := lbF (h.2.2 37 (a1).toNat) a3) e75742 (by omega) (by unfold lbF; (try rw [ev75722]); (try rw [ev75727]); (repeat' split) <;> first | (exfalso; omega) | (subst_vars; rfl) | omega))⟩⟩
            · refine ev_bipush ?_
              refine ev_goto f239_56 ?_
              refine ev_ret rfl (by decide) (by decide) ?_
              show jEv _ _ _ _ _ _ _ (_, [(2, 0), (0, a1), (0, a2), (1, a3), (9, 0), (9, 0)], [(0, (-13))], _, _, _)
              refine ev_istore (L' := [(2, 0), (0, a1), (0, a2), (1, a3), (9, 0), (0, (-13))]) (Nat.le_of_ble_eq_true rfl) rfl ?_
              refine ev_iload rfl ?_
              refine ev_ifeq f214_16 (fun c75743 => absurd c75743 (by omega)) (fun c75743 => ?_)
              refine ev_iload rfl ?_
              exact ev_ret rfl (by decide) (by decide) ⟨_, rfl, g, k0, Or.inl ⟨by unfold PV0; (try rw [ev75722]); (try rw [ev75727]); omega, fun _ => rfl⟩⟩
        · refine ev_bipush ?_
          refine ev_ret rfl (by decide) (by decide) ?_
          show jEv _ _ _ _ _ _ _ (_, [(2, 0), (0, a1), (0, a2), (1, a3), (9, 0), (9, 0)], [(0, (-12))], _, _, _)
          refine ev_istore (L' := [(2, 0), (0, a1), (0, a2), (1, a3), (9, 0), (0, (-12))]) (Nat.le_of_ble_eq_true rfl) rfl ?_
          refine ev_iload rfl ?_
          refine ev_ifeq f214_16 (fun c75744 => absurd c75744 (by omega)) (fun c75744 => ?_)
          refine ev_iload rfl ?_
          exact ev_ret rfl (by decide) (by decide) ⟨_, rfl, g, k0, Or.inl ⟨by unfold PV0; (try rw [ev75722]); omega, fun _ => rfl⟩⟩
      · refine ev_bipush ?_
        refine ev_ret rfl (by decide) (by decide) ?_
        show jEv _ _ _ _ _ _ _ (_, [(2, 0), (0, a1), (0, a2), (1, a3), (9, 0), (9, 0)], [(0, (-11))], _, _, _)
        refine ev_istore (L' := [(2, 0), (0, a1), (0, a2), (1, a3), (9, 0), (0, (-11))]) (Nat.le_of_ble_eq_true rfl) rfl ?_
        refine ev_iload rfl ?_
        refine ev_ifeq f214_16 (fun c75745 => absurd c75745 (by omega)) (fun c75745 => ?_)
        refine ev_iload rfl ?_
        exact ev_ret rfl (by decide) (by decide) ⟨_, rfl, g, k0, Or.inl ⟨by unfold PV0; (try rw [ev75722]); omega, fun _ => rfl⟩⟩
set_option maxHeartbeats 4000000 in
theorem t374 {G : GH} {h : JH} (g : Gd G h) {a1 : Int} (la1 : (-2147483648) ≤ a1) (ua1 : a1 ≤ 2147483647) {a2 : Int} (la2 : (-2147483648) ≤ a2) (ua2 : a2 ≤ 2147483647) {a3 : Int} (la3 : (-9223372036854775808) ≤ a3) (ua3 : a3 ≤ 9223372036854775807) : jOk 4 0 0 374 [(2, 42), (0, a1), (0, a2), (1, a3)] h (fun v h' => ∃ r : Int, v = some (0, r) ∧ Gd G h' ∧ Kp [(81, 0)] h h' ∧ PuR h h' a1 a2 a3) := by
  refine ⟨by decide, by rw [ml374]; exact Nat.le_of_ble_eq_true rfl, ?_⟩
  rw [ml374, pp374]
  show jEv _ none _ c374_0 0 0 _ (c374_0, [(2, 42), (0, a1), (0, a2), (1, a3), (9, 0), (9, 0), (9, 0)], [], h, 0, 0)
  have k0 := Kp.rf [(81, 0)] h
  refine ev_aload_n rfl ?_
  refine ev_iload_n rfl ?_
  refine ev_iload_n rfl ?_
  refine ev_in (d := 2) (a := 0) (b := 0) (cd' := c373_0) (m := 3) (L0 := [(2, 42), (0, a1), (0, a2)]) (jcall_v (A := [(0, a2), (0, a1)]) (S' := []) (r := 42) rfl (g.lt ad42) (g.tg ad42) (Nat.le_of_ble_eq_true rfl)) (by decide) ml373 pp373 (Nat.le_of_ble_eq_true rfl) rfl (by decide) (by decide) ?_
  refine ev_iload_n rfl ?_
  refine ev_in (d := 1) (a := 0) (b := 0) (cd' := c370_0) (m := 1) (L0 := [(0, a1)]) (jcall_s (A := [(0, a1)]) (S' := []) (by decide) rfl (Nat.le_of_ble_eq_true rfl)) (by decide) ml370 pp370 (Nat.le_of_ble_eq_true rfl) rfl (by decide) (by decide) ?_
  refine ev_iload_n rfl ?_
  refine ev_iconst ?_
  refine ev_iconst ?_
  refine ev_in (d := 0) (a := 0) (b := 0) (cd' := c242_0) (m := 3) (L0 := [(0, a1), (0, 0), (0, 5)]) (jcall_s (A := [(0, 5), (0, 0), (0, a1)]) (S' := []) (by decide) rfl (Nat.le_of_ble_eq_true rfl)) (by decide) ml242 pp242 (Nat.le_of_ble_eq_true rfl) rfl (by decide) (by decide) ?_
  refine ev_iload_n rfl ?_
  refine ev_iload_n rfl ?_
  refine ev_icmplt f242_14 (fun c75820 => ?_) (fun c75820 => ?_)
  · refine ev_iconst ?_
    refine ev_ret rfl (by decide) (by decide) ?_
    show jEv _ _ _ _ _ _ _ (_, [(0, a1)], [(0, 0)], _, _, _)
    refine ev_ret rfl (by decide) (by decide) ?_
    show jEv _ _ _ _ _ _ _ (_, [(2, 42), (0, a1), (0, a2)], [(0, 0)], _, _, _)
    refine ev_ifne f373_9 (fun c75821 => absurd c75821 (by omega)) (fun c75821 => ?_)
    refine ev_iconst ?_
    refine ev_ret rfl (by decide) (by decide) ?_
    show jEv _ _ _ _ _ _ _ (_, [(2, 42), (0, a1), (0, a2), (1, a3), (9, 0), (9, 0), (9, 0)], [(0, (-1))], _, _, _)
    refine ev_istore (L' := [(2, 42), (0, a1), (0, a2), (1, a3), (9, 0), (0, (-1)), (9, 0)]) (Nat.le_of_ble_eq_true rfl) rfl ?_
    refine ev_iload rfl ?_
    refine ev_ifge f374_16 (fun c75822 => absurd c75822 (by omega)) (fun c75822 => ?_)
    refine ev_iload rfl ?_
    exact ev_ret rfl (by decide) (by decide) ⟨_, rfl, g, k0, Or.inl ⟨by unfold PV1; omega, fun _ => rfl⟩⟩
  · refine ev_iload_n rfl ?_
    refine ev_iload_n rfl ?_
    refine ev_icmpgt f242_14 (fun c75823 => ?_) (fun c75823 => ?_)
    · refine ev_iconst ?_
      refine ev_ret rfl (by decide) (by decide) ?_
      show jEv _ _ _ _ _ _ _ (_, [(0, a1)], [(0, 0)], _, _, _)
      refine ev_ret rfl (by decide) (by decide) ?_
      show jEv _ _ _ _ _ _ _ (_, [(2, 42), (0, a1), (0, a2)], [(0, 0)], _, _, _)
      refine ev_ifne f373_9 (fun c75824 => absurd c75824 (by omega)) (fun c75824 => ?_)
      refine ev_iconst ?_
      refine ev_ret rfl (by decide) (by decide) ?_
      show jEv _ _ _ _ _ _ _ (_, [(2, 42), (0, a1), (0, a2), (1, a3), (9, 0), (9, 0), (9, 0)], [(0, (-1))], _, _, _)
      refine ev_istore (L' := [(2, 42), (0, a1), (0, a2), (1, a3), (9, 0), (0, (-1)), (9, 0)]) (Nat.le_of_ble_eq_true rfl) rfl ?_
      refine ev_iload rfl ?_
      refine ev_ifge f374_16 (fun c75825 => absurd c75825 (by omega)) (fun c75825 => ?_)
      refine ev_iload rfl ?_
      exact ev_ret rfl (by decide) (by decide) ⟨_, rfl, g, k0, Or.inl ⟨by unfold PV1; omega, fun _ => rfl⟩⟩
    · refine ev_iconst ?_
      refine ev_goto f242_15 ?_
      refine ev_ret rfl (by decide) (by decide) ?_
      show jEv _ _ _ _ _ _ _ (_, [(0, a1)], [(0, 1)], _, _, _)
      refine ev_ret rfl (by decide) (by decide) ?_
      show jEv _ _ _ _ _ _ _ (_, [(2, 42), (0, a1), (0, a2)], [(0, 1)], _, _, _)
      refine ev_ifne f373_9 (fun c75826 => ?_) (fun c75826 => absurd c75826 (by omega))
      refine ev_aload_n rfl ?_
      refine g_getp (r := 42) (c := 79) g ad42 (by decide) (by decide) rf42_62 ft12_62 ?_
      refine ev_iload_n rfl ?_
      refine g_iald g ad79 rt79 (by omega) (by omega) (fun v75827 ev75827 lv75827 uv75827 => ?_)
      refine ev_iconst ?_
      refine ev_icmpne f373_22 (fun c75828 => ?_) (fun c75828 => ?_)
      · refine ev_aload_n rfl ?_
        refine g_getp (r := 42) (c := 79) g ad42 (by decide) (by decide) rf42_62 ft12_62 ?_
        refine ev_iload_n rfl ?_
        refine g_ialdv (v := v75827) g ad79 (by omega) (by omega) (ev75827) ?_
        refine ev_iflt f373_34 (fun c75829 => ?_) (fun c75829 => ?_)
        · refine ev_iload_n rfl ?_
          refine ev_iconst ?_
          refine ev_aload_n rfl ?_
          refine g_getp (r := 42) (c := 80) g ad42 (by decide) (by decide) rf42_63 ft12_63 ?_
          refine ev_iload_n rfl ?_
          refine g_iald g ad80 rt80 (by omega) (by omega) (fun v75830 ev75830 lv75830 uv75830 => ?_)
          refine ev_iconst ?_
          refine ev_isub (r := (v75830 - 1)) (by unfold w32; omega) ?_
          refine ev_in (d := 1) (a := 0) (b := 0) (cd' := c242_0) (m := 3) (L0 := [(0, a2), (0, 0), (0, (v75830 - 1))]) (jcall_s (A := [(0, (v75830 - 1)), (0, 0), (0, a2)]) (S' := []) (by decide) rfl (Nat.le_of_ble_eq_true rfl)) (by decide) ml242 pp242 (Nat.le_of_ble_eq_true rfl) rfl (by decide) (by decide) ?_
          refine ev_iload_n rfl ?_
          refine ev_iload_n rfl ?_
          refine ev_icmplt f242_14 (fun c75831 => ?_) (fun c75831 => ?_)
          · refine ev_iconst ?_
            refine ev_ret rfl (by decide) (by decide) ?_
            show jEv _ _ _ _ _ _ _ (_, [(2, 42), (0, a1), (0, a2)], [(0, 0)], _, _, _)
            refine ev_ifeq f373_54 (fun c75832 => ?_) (fun c75832 => absurd c75832 (by omega))
            refine ev_bipush ?_
            refine ev_ret rfl (by decide) (by decide) ?_
            show jEv _ _ _ _ _ _ _ (_, [(2, 42), (0, a1), (0, a2), (1, a3), (9, 0), (9, 0), (9, 0)], [(0, (-13))], _, _, _)
            refine ev_istore (L' := [(2, 42), (0, a1), (0, a2), (1, a3), (9, 0), (0, (-13)), (9, 0)]) (Nat.le_of_ble_eq_true rfl) rfl ?_
            refine ev_iload rfl ?_
            refine ev_ifge f374_16 (fun c75833 => absurd c75833 (by omega)) (fun c75833 => ?_)
            refine ev_iload rfl ?_
            exact ev_ret rfl (by decide) (by decide) ⟨_, rfl, g, k0, Or.inl ⟨by unfold PV1; (try rw [ev75827]); (try rw [ev75830]); omega, fun _ => rfl⟩⟩
          · refine ev_iload_n rfl ?_
            refine ev_iload_n rfl ?_
            refine ev_icmpgt f242_14 (fun c75834 => ?_) (fun c75834 => ?_)
            · refine ev_iconst ?_
              refine ev_ret rfl (by decide) (by decide) ?_
              show jEv _ _ _ _ _ _ _ (_, [(2, 42), (0, a1), (0, a2)], [(0, 0)], _, _, _)
              refine ev_ifeq f373_54 (fun c75835 => ?_) (fun c75835 => absurd c75835 (by omega))
              refine ev_bipush ?_
              refine ev_ret rfl (by decide) (by decide) ?_
              show jEv _ _ _ _ _ _ _ (_, [(2, 42), (0, a1), (0, a2), (1, a3), (9, 0), (9, 0), (9, 0)], [(0, (-13))], _, _, _)
              refine ev_istore (L' := [(2, 42), (0, a1), (0, a2), (1, a3), (9, 0), (0, (-13)), (9, 0)]) (Nat.le_of_ble_eq_true rfl) rfl ?_
              refine ev_iload rfl ?_
              refine ev_ifge f374_16 (fun c75836 => absurd c75836 (by omega)) (fun c75836 => ?_)
              refine ev_iload rfl ?_
              exact ev_ret rfl (by decide) (by decide) ⟨_, rfl, g, k0, Or.inl ⟨by unfold PV1; (try rw [ev75827]); (try rw [ev75830]); omega, fun _ => rfl⟩⟩
            · refine ev_iconst ?_
              refine ev_goto f242_15 ?_
              refine ev_ret rfl (by decide) (by decide) ?_
              show jEv _ _ _ _ _ _ _ (_, [(2, 42), (0, a1), (0, a2)], [(0, 1)], _, _, _)
              refine ev_ifeq f373_54 (fun c75837 => absurd c75837 (by omega)) (fun c75837 => ?_)
              refine ev_iconst ?_
              refine ev_goto f373_56 ?_
              refine ev_ret rfl (by decide) (by decide) ?_
              show jEv _ _ _ _ _ _ _ (_, [(2, 42), (0, a1), (0, a2), (1, a3), (9, 0), (9, 0), (9, 0)], [(0, 0)], _, _, _)
              refine ev_istore (L' := [(2, 42), (0, a1), (0, a2), (1, a3), (9, 0), (0, 0), (9, 0)]) (Nat.le_of_ble_eq_true rfl) rfl ?_
              refine ev_iload rfl ?_
              refine ev_ifge f374_16 (fun c75838 => ?_) (fun c75838 => absurd c75838 (by omega))
              refine ev_bipush ?_
              refine ev_aload_n rfl ?_
              refine g_getp (r := 42) (c := 79) g ad42 (by decide) (by decide) rf42_62 ft12_62 ?_
              refine ev_iload_n rfl ?_
              refine g_ialdv (v := v75827) g ad79 (by omega) (by omega) (ev75827) ?_
              refine ev_isub (r := ((-v75827) - 2)) (by unfold w32; omega) ?_
              refine ev_istore (L' := [(2, 42), (0, a1), (0, a2), (1, a3), (9, 0), (0, 0), (0, ((-v75827) - 2))]) (Nat.le_of_ble_eq_true rfl) rfl ?_
              refine ev_aload_n rfl ?_
              refine g_getp (r := 42) (c := 81) g ad42 (by decide) (by decide) rf42_64 ft12_64 ?_
              refine ev_bipush ?_
              refine ev_iload_n rfl ?_
              refine ev_imul (r := (60 * a1)) (by unfold w32; omega) ?_
              refine ev_iload_n rfl ?_
              refine ev_iadd (r := (60 * a1 + a2)) (by unfold w32; omega) ?_
              refine ev_iload rfl ?_
              refine ev_ifne f374_49 (fun c75839 => ?_) (fun c75839 => ?_)
              · refine ev_iload rfl ?_
                refine ev_iconst ?_
                refine ev_icmpne f374_62 (fun c75840 => ?_) (fun c75840 => ?_)
                · refine ev_iload rfl ?_
                  refine ev_iconst ?_
                  refine ev_icmpne f374_74 (fun c75841 => ?_) (fun c75841 => ?_)
                  · refine ev_iload rfl ?_
                    refine ev_iconst ?_
                    refine ev_icmpne f374_84 (fun c75842 => ?_) (fun c75842 => ?_)
                    · refine ev_lload_n rfl ?_
                      refine ev_lconst ?_
                      refine ev_lcmp ?_
                      refine ev_ifeq f374_94 (fun c75843 => ?_) (fun c75843 => ?_)
                      · have c75843b := jcmpL_eq c75843
                        refine ev_lconst ?_
                        refine g_last g ad81 rt81 (fun _ => rfl) (by omega) (by omega) (by omega) (by omega) (fun h75844 e75844 g75844 => ?_)
                        have k75844 := k0.wr e75844 rfl
                        refine ev_iconst ?_
                        exact ev_ret rfl (by decide) (by decide) ⟨_, rfl, g75844, k75844, Or.inr ⟨by unfold PV1; (try rw [ev75827]); (try rw [ev75830]); omega, (Up.mk2 (i := (60 * a1 + a2)) (i' := 60 * a1 + a2) (v' := lbF (-2 - h.2.2 79 (a1).toNat) a3) e75844 (by omega) (by unfold lbF; (try rw [ev75827]); (try rw [ev75830]); (repeat' split) <;> first | (exfalso; omega) | (subst_vars; rfl) | omega))⟩⟩
                      · have c75843b := jcmpL_eqN c75843
                        refine ev_lconst ?_
                        refine ev_goto f374_95 ?_
                        refine g_last g ad81 rt81 (fun _ => rfl) (by omega) (by omega) (by omega) (by omega) (fun h75845 e75845 g75845 => ?_)
                        have k75845 := k0.wr e75845 rfl
                        refine ev_iconst ?_
                        exact ev_ret rfl (by decide) (by decide) ⟨_, rfl, g75845, k75845, Or.inr ⟨by unfold PV1; (try rw [ev75827]); (try rw [ev75830]); omega, (Up.mk2 (i := (60 * a1 + a2)) (i' := 60 * a1 + a2) (v' := lbF (-2 - h.2.2 79 (a1).toNat) a3) e75845 (by omega) (by unfold lbF; (try rw [ev75827]); (try rw [ev75830]); (repeat' split) <;> first | (exfalso; omega) | (subst_vars; rfl) | omega))⟩⟩
                    · refine ev_lload_n rfl ?_
                      refine ev_goto f374_95 ?_
                      refine g_last g ad81 rt81 (fun _ => rfl) (by omega) (by omega) (by omega) (by omega) (fun h75846 e75846 g75846 => ?_)
                      have k75846 := k0.wr e75846 rfl
                      refine ev_iconst ?_
                      exact ev_ret rfl (by decide) (by decide) ⟨_, rfl, g75846, k75846, Or.inr ⟨by unfold PV1; (try rw [ev75827]); (try rw [ev75830]); omega, (Up.mk2 (i := (60 * a1 + a2)) (i' := 60 * a1 + a2) (v' := lbF (-2 - h.2.2 79 (a1).toNat) a3) e75846 (by omega) (by unfold lbF; (try rw [ev75827]); (try rw [ev75830]); (repeat' split) <;> first | (exfalso; omega) | (subst_vars; rfl) | omega))⟩⟩
                  · refine ev_lload_n rfl ?_
                    refine g_l2iG (fun v75847 ev75847 lv75847 uv75847 => ?_)
                    refine ev_i2l ?_
                    refine ev_goto f374_95 ?_
                    refine g_last g ad81 rt81 (fun _ => rfl) (by omega) (by omega) (by omega) (by omega) (fun h75848 e75848 g75848 => ?_)
                    have k75848 := k0.wr e75848 rfl
                    refine ev_iconst ?_
                    exact ev_ret rfl (by decide) (by decide) ⟨_, rfl, g75848, k75848, Or.inr ⟨by unfold PV1; (try rw [ev75827]); (try rw [ev75830]); omega, (Up.mk2 (i := (60 * a1 + a2)) (i' := 60 * a1 + a2) (v' := lbF (-2 - h.2.2 79 (a1).toNat) a3) e75848 (by omega) (by unfold lbF; (try rw [ev75827]); (try rw [ev75830]); (repeat' split) <;> first | (exfalso; omega) | (subst_vars; rfl) | omega))⟩⟩
                · refine ev_lload_n rfl ?_
                  refine g_l2iG (fun v75849 ev75849 lv75849 uv75849 => ?_)
                  refine g_i2sG (fun v75850 ev75850 lv75850 uv75850 => ?_)
                  refine ev_i2l ?_
                  refine ev_goto f374_95 ?_
                  refine g_last g ad81 rt81 (fun _ => rfl) (by omega) (by omega) (by omega) (by omega) (fun h75851 e75851 g75851 => ?_)
                  have k75851 := k0.wr e75851 rfl
                  refine ev_iconst ?_
                  exact ev_ret rfl (by decide) (by decide) ⟨_, rfl, g75851, k75851, Or.inr ⟨by unfold PV1; (try rw [ev75827]); (try rw [ev75830]); omega, (Up.mk2 (i := (60 * a1 + a2)) (i' := 60 * a1 + a2) (v' := lbF (-2 - h.2.2 79 (a1).toNat) a3) e75851 (by omega) (by unfold lbF; (try rw [ev75827]); (try rw [ev75830]); (repeat' split) <;> first | (exfalso; omega) | (subst_vars; rfl) | omega))⟩⟩
              · refine ev_lload_n rfl ?_
                refine g_l2iG (fun v75852 ev75852 lv75852 uv75852 => ?_)
                refine g_i2bG (fun v75853 ev75853 lv75853 uv75853 => ?_)
                refine ev_i2l ?_
                refine ev_goto f374_95 ?_
                refine g_last g ad81 rt81 (fun _ => rfl) (by omega) (by omega) (by omega) (by omega) (fun h75854 e75854 g75854 => ?_)
                have k75854 := k0.wr e75854 rfl
                refine ev_iconst ?_
                exact ev_ret rfl (by decide) (by decide) ⟨_, rfl, g75854, k75854, Or.inr ⟨by unfold PV1; (try rw [ev75827]); (try rw [ev75830]); omega, (Up.mk2 (i := (60 * a1 + a2)) (i' := 60 * a1 + a2) (v' := lbF (-2 - h.2.2 79 (a1).toNat) a3) e75854 (by omega) (by unfold lbF; (try rw [ev75827]); (try rw [ev75830]); (repeat' split) <;> first | (exfalso; omega) | (subst_vars; rfl) | omega))⟩⟩
        · refine ev_bipush ?_
          refine ev_ret rfl (by decide) (by decide) ?_
          show jEv _ _ _ _ _ _ _ (_, [(2, 42), (0, a1), (0, a2), (1, a3), (9, 0), (9, 0), (9, 0)], [(0, (-12))], _, _, _)
          refine ev_istore (L' := [(2, 42), (0, a1), (0, a2), (1, a3), (9, 0), (0, (-12)), (9, 0)]) (Nat.le_of_ble_eq_true rfl) rfl ?_
          refine ev_iload rfl ?_
          refine ev_ifge f374_16 (fun c75855 => absurd c75855 (by omega)) (fun c75855 => ?_)
          refine ev_iload rfl ?_
          exact ev_ret rfl (by decide) (by decide) ⟨_, rfl, g, k0, Or.inl ⟨by unfold PV1; (try rw [ev75827]); omega, fun _ => rfl⟩⟩
      · refine ev_bipush ?_
        refine ev_ret rfl (by decide) (by decide) ?_
        show jEv _ _ _ _ _ _ _ (_, [(2, 42), (0, a1), (0, a2), (1, a3), (9, 0), (9, 0), (9, 0)], [(0, (-11))], _, _, _)
        refine ev_istore (L' := [(2, 42), (0, a1), (0, a2), (1, a3), (9, 0), (0, (-11)), (9, 0)]) (Nat.le_of_ble_eq_true rfl) rfl ?_
        refine ev_iload rfl ?_
        refine ev_ifge f374_16 (fun c75856 => absurd c75856 (by omega)) (fun c75856 => ?_)
        refine ev_iload rfl ?_
        exact ev_ret rfl (by decide) (by decide) ⟨_, rfl, g, k0, Or.inl ⟨by unfold PV1; (try rw [ev75827]); omega, fun _ => rfl⟩⟩
set_option maxHeartbeats 4000000 in
theorem t216 {G : GH} {h : JH} (g : Gd G h) {a1 : Int} (la1 : (-2147483648) ≤ a1) (ua1 : a1 ≤ 2147483647) {a2 : Int} (la2 : (-2147483648) ≤ a2) (ua2 : a2 ≤ 2147483647) {a3 : Int} (la3 : (-2147483648) ≤ a3) (ua3 : a3 ≤ 2147483647) {a4 : Int} (la4 : (-2147483648) ≤ a4) (ua4 : a4 ≤ 2147483647) {a5 : Int} (la5 : (-2147483648) ≤ a5) (ua5 : a5 ≤ 2147483647) : jOk 2 0 0 216 [(2, 0), (0, a1), (0, a2), (0, a3), (0, a4), (0, a5)] h (fun v h' => ∃ r : Int, v = some (0, r) ∧ Gd G h' ∧ Kp [(39, 0)] h h' ∧ SfC h h' a1 a2 a3 a4 a5) := by
  refine ⟨by decide, by rw [ml216]; exact Nat.le_of_ble_eq_true rfl, ?_⟩
  rw [ml216, pp216]
  show jEv _ none _ c216_0 0 0 _ (c216_0, [(2, 0), (0, a1), (0, a2), (0, a3), (0, a4), (0, a5)], [], h, 0, 0)
  have k0 := Kp.rf [(39, 0)] h
  refine ev_iload_n rfl ?_
  refine ev_in (d := 0) (a := 0) (b := 0) (cd' := c222_0) (m := 1) (L0 := [(0, a1)]) (jcall_s (A := [(0, a1)]) (S' := []) (by decide) rfl (Nat.le_of_ble_eq_true rfl)) (by decide) ml222 pp222 (Nat.le_of_ble_eq_true rfl) rfl (by decide) (by decide) ?_
  refine ev_iload_n rfl ?_
  refine ev_iflt f222_14 (fun c75905 => ?_) (fun c75905 => ?_)
  · refine ev_iconst ?_
    refine ev_ret rfl (by decide) (by decide) ?_
    show jEv _ _ _ _ _ _ _ (_, [(2, 0), (0, a1), (0, a2), (0, a3), (0, a4), (0, a5)], [(0, 0)], _, _, _)
    refine ev_ifeq f216_14 (fun c75906 => ?_) (fun c75906 => absurd c75906 (by omega))
    refine ev_iconst ?_
    exact ev_ret rfl (by decide) (by decide) ⟨_, rfl, g, k0, Or.inl ⟨by unfold SV0; omega, fun _ => rfl⟩⟩
  · refine ev_iload_n rfl ?_
    refine ev_bipush ?_
    refine ev_icmpge f222_14 (fun c75907 => ?_) (fun c75907 => ?_)
    · refine ev_iconst ?_
      refine ev_ret rfl (by decide) (by decide) ?_
      show jEv _ _ _ _ _ _ _ (_, [(2, 0), (0, a1), (0, a2), (0, a3), (0, a4), (0, a5)], [(0, 0)], _, _, _)
      refine ev_ifeq f216_14 (fun c75908 => ?_) (fun c75908 => absurd c75908 (by omega))
      refine ev_iconst ?_
      exact ev_ret rfl (by decide) (by decide) ⟨_, rfl, g, k0, Or.inl ⟨by unfold SV0; omega, fun _ => rfl⟩⟩
    · refine ev_iconst ?_
      refine ev_goto f222_15 ?_
      refine ev_ret rfl (by decide) (by decide) ?_
      show jEv _ _ _ _ _ _ _ (_, [(2, 0), (0, a1), (0, a2), (0, a3), (0, a4), (0, a5)], [(0, 1)], _, _, _)
      refine ev_ifeq f216_14 (fun c75909 => absurd c75909 (by omega)) (fun c75909 => ?_)
      refine ev_iload_n rfl ?_
      refine ev_in (d := 0) (a := 0) (b := 0) (cd' := c222_0) (m := 1) (L0 := [(0, a3)]) (jcall_s (A := [(0, a3)]) (S' := []) (by decide) rfl (Nat.le_of_ble_eq_true rfl)) (by decide) ml222 pp222 (Nat.le_of_ble_eq_true rfl) rfl (by decide) (by decide) ?_
      refine ev_iload_n rfl ?_
      refine ev_iflt f222_14 (fun c75910 => ?_) (fun c75910 => ?_)
      · refine ev_iconst ?_
        refine ev_ret rfl (by decide) (by decide) ?_
        show jEv _ _ _ _ _ _ _ (_, [(2, 0), (0, a1), (0, a2), (0, a3), (0, a4), (0, a5)], [(0, 0)], _, _, _)
        refine ev_ifne f216_16 (fun c75911 => absurd c75911 (by omega)) (fun c75911 => ?_)
        refine ev_iconst ?_
        exact ev_ret rfl (by decide) (by decide) ⟨_, rfl, g, k0, Or.inl ⟨by unfold SV0; omega, fun _ => rfl⟩⟩
      · refine ev_iload_n rfl ?_
        refine ev_bipush ?_
        refine ev_icmpge f222_14 (fun c75912 => ?_) (fun c75912 => ?_)
        · refine ev_iconst ?_
          refine ev_ret rfl (by decide) (by decide) ?_
          show jEv _ _ _ _ _ _ _ (_, [(2, 0), (0, a1), (0, a2), (0, a3), (0, a4), (0, a5)], [(0, 0)], _, _, _)
          refine ev_ifne f216_16 (fun c75913 => absurd c75913 (by omega)) (fun c75913 => ?_)
          refine ev_iconst ?_
          exact ev_ret rfl (by decide) (by decide) ⟨_, rfl, g, k0, Or.inl ⟨by unfold SV0; omega, fun _ => rfl⟩⟩
        · refine ev_iconst ?_
          refine ev_goto f222_15 ?_
          refine ev_ret rfl (by decide) (by decide) ?_
          show jEv _ _ _ _ _ _ _ (_, [(2, 0), (0, a1), (0, a2), (0, a3), (0, a4), (0, a5)], [(0, 1)], _, _, _)
          refine ev_ifne f216_16 (fun c75914 => ?_) (fun c75914 => absurd c75914 (by omega))
          refine ev_aload_n rfl ?_
          refine g_getp (r := 0) (c := 37) g ad0 (by decide) (by decide) rf0_12 ft11_12 ?_
          refine ev_iload_n rfl ?_
          refine g_iald g ad37 rt37 (by omega) (by omega) (fun v75915 ev75915 lv75915 uv75915 => ?_)
          refine ev_iconst ?_
          refine ev_icmpeq f216_36 (fun c75916 => ?_) (fun c75916 => ?_)
          · refine ev_bipush ?_
            exact ev_ret rfl (by decide) (by decide) ⟨_, rfl, g, k0, Or.inl ⟨by unfold SV0; (try rw [ev75915]); omega, fun _ => rfl⟩⟩
          · refine ev_aload_n rfl ?_
            refine g_getp (r := 0) (c := 37) g ad0 (by decide) (by decide) rf0_12 ft11_12 ?_
            refine ev_iload_n rfl ?_
            refine g_iald g ad37 rt37 (by omega) (by omega) (fun v75917 ev75917 lv75917 uv75917 => ?_)
            refine ev_iconst ?_
            refine ev_icmpne f216_39 (fun c75918 => ?_) (fun c75918 => ?_)
            · refine ev_aload_n rfl ?_
              refine g_getp (r := 0) (c := 37) g ad0 (by decide) (by decide) rf0_12 ft11_12 ?_
              refine ev_iload_n rfl ?_
              refine g_ialdv (v := v75915) g ad37 (by omega) (by omega) (ev75915) ?_
              refine ev_bipush ?_
              refine ev_icmpge f216_65 (fun c75919 => ?_) (fun c75919 => ?_)
              · refine ev_bipush ?_
                exact ev_ret rfl (by decide) (by decide) ⟨_, rfl, g, k0, Or.inl ⟨by unfold SV0; (try rw [ev75915]); (try rw [ev75917]); omega, fun _ => rfl⟩⟩
              · refine ev_aload_n rfl ?_
                refine g_getp (r := 0) (c := 37) g ad0 (by decide) (by decide) rf0_12 ft11_12 ?_
                refine ev_iload_n rfl ?_
                refine g_ialdv (v := v75915) g ad37 (by omega) (by omega) (ev75915) ?_
                refine ev_aload_n rfl ?_
                refine g_getp (r := 0) (c := 37) g ad0 (by decide) (by decide) rf0_12 ft11_12 ?_
                refine ev_iload_n rfl ?_
                refine g_ialdv (v := v75917) g ad37 (by omega) (by omega) (ev75917) ?_
                refine ev_icmpeq f216_68 (fun c75920 => ?_) (fun c75920 => ?_)
                · refine ev_iload rfl ?_
                  refine ev_iflt f216_109 (fun c75921 => ?_) (fun c75921 => ?_)
                  · refine ev_bipush ?_
                    exact ev_ret rfl (by decide) (by decide) ⟨_, rfl, g, k0, Or.inl ⟨by unfold SV0; (try rw [ev75915]); (try rw [ev75917]); omega, fun _ => rfl⟩⟩
                  · refine ev_iload_n rfl ?_
                    refine ev_iflt f216_109 (fun c75922 => ?_) (fun c75922 => ?_)
                    · refine ev_bipush ?_
                      exact ev_ret rfl (by decide) (by decide) ⟨_, rfl, g, k0, Or.inl ⟨by unfold SV0; (try rw [ev75915]); (try rw [ev75917]); omega, fun _ => rfl⟩⟩
                    · refine ev_iload rfl ?_
                      refine ev_iflt f216_109 (fun c75923 => ?_) (fun c75923 => ?_)
                      · refine ev_bipush ?_
                        exact ev_ret rfl (by decide) (by decide) ⟨_, rfl, g, k0, Or.inl ⟨by unfold SV0; (try rw [ev75915]); (try rw [ev75917]); omega, fun _ => rfl⟩⟩
                      · refine ev_iload_n rfl ?_
                        refine ev_aload_n rfl ?_
                        refine g_getp (r := 0) (c := 38) g ad0 (by decide) (by decide) rf0_13 ft11_13 ?_
                        refine ev_iload_n rfl ?_
                        refine g_iald g ad38 rt38 (by omega) (by omega) (fun v75924 ev75924 lv75924 uv75924 => ?_)
                        refine ev_iload rfl ?_
                        refine ev_isub (r := ((-a5) + v75924)) (by unfold w32; omega) ?_
                        refine ev_icmpgt f216_109 (fun c75925 => ?_) (fun c75925 => ?_)
                        · refine ev_bipush ?_
                          exact ev_ret rfl (by decide) (by decide) ⟨_, rfl, g, k0, Or.inl ⟨by unfold SV0; (try rw [ev75915]); (try rw [ev75917]); (try rw [ev75924]); omega, fun _ => rfl⟩⟩
                        · refine ev_iload rfl ?_
                          refine ev_aload_n rfl ?_
                          refine g_getp (r := 0) (c := 38) g ad0 (by decide) (by decide) rf0_13 ft11_13 ?_
                          refine ev_iload_n rfl ?_
                          refine g_iald g ad38 rt38 (by omega) (by omega) (fun v75926 ev75926 lv75926 uv75926 => ?_)
                          refine ev_iload rfl ?_
                          refine ev_isub (r := ((-a5) + v75926)) (by unfold w32; omega) ?_
                          refine ev_icmple f216_112 (fun c75927 => ?_) (fun c75927 => ?_)
                          · refine ev_aload_n rfl ?_
                            refine g_getp (r := 0) (c := 39) g ad0 (by decide) (by decide) rf0_14 ft11_14 ?_
                            refine ev_bipush ?_
                            refine ev_iload_n rfl ?_
                            refine ev_imul (r := (60 * a1)) (by unfold w32; omega) ?_
                            refine ev_iload_n rfl ?_
                            refine ev_iadd (r := (60 * a1 + a2)) (by unfold w32; omega) ?_
                            refine ev_aload_n rfl ?_
                            refine g_getp (r := 0) (c := 39) g ad0 (by decide) (by decide) rf0_14 ft11_14 ?_
                            refine ev_bipush ?_
                            refine ev_iload_n rfl ?_
                            refine ev_imul (r := (60 * a3)) (by unfold w32; omega) ?_
                            refine ev_iload rfl ?_
                            refine ev_iadd (r := (60 * a3 + a4)) (by unfold w32; omega) ?_
                            refine ev_iload rfl ?_
                            refine g_copyE g ad39 (by decide) rt39 (fun _ => rfl) (by omega) (by omega) (by omega) (by omega) (by omega) (Nat.le_of_ble_eq_true rfl) (fun h75928 g75928 kk75928 cp75928 => ?_)
                            have k75928 := k0.tr kk75928 (by decide)
                            refine ev_iload rfl ?_
                            exact ev_ret rfl (by decide) (by decide) ⟨_, rfl, g75928, k75928, Or.inr ⟨by unfold SV0; (try rw [ev75915]); (try rw [ev75917]); (try rw [ev75924]); (try rw [ev75926]); omega, cp75928⟩⟩
                          · refine ev_bipush ?_
                            exact ev_ret rfl (by decide) (by decide) ⟨_, rfl, g, k0, Or.inl ⟨by unfold SV0; (try rw [ev75915]); (try rw [ev75917]); (try rw [ev75924]); (try rw [ev75926]); omega, fun _ => rfl⟩⟩
                · refine ev_bipush ?_
                  exact ev_ret rfl (by decide) (by decide) ⟨_, rfl, g, k0, Or.inl ⟨by unfold SV0; (try rw [ev75915]); (try rw [ev75917]); omega, fun _ => rfl⟩⟩
            · refine ev_bipush ?_
              exact ev_ret rfl (by decide) (by decide) ⟨_, rfl, g, k0, Or.inl ⟨by unfold SV0; (try rw [ev75915]); (try rw [ev75917]); omega, fun _ => rfl⟩⟩
set_option maxHeartbeats 4000000 in
theorem t376_l {G : GH} {h : JH} {a1 : Int} (la1 : (-2147483648) ≤ a1) (ua1 : a1 ≤ 2147483647) {a2 : Int} (la2 : (-2147483648) ≤ a2) (ua2 : a2 ≤ 2147483647) {a3 : Int} (la3 : (-2147483648) ≤ a3) (ua3 : a3 ≤ 2147483647) {a4 : Int} (la4 : (-2147483648) ≤ a4) (ua4 : a4 ≤ 2147483647) {a5 : Int} (la5 : (-2147483648) ≤ a5) (ua5 : a5 ≤ 2147483647) : ∀ N : Nat, (∀ (h1 : JH) (x6 : Int), Gd G h1 → Kp [(81, 0), (82, 0)] h h1 → 0 ≤ a1 → a1 ≤ 5 → 0 ≤ a2 → a2 ≤ 60 → 0 ≤ a3 → a3 ≤ 5 → 0 ≤ a4 → a4 ≤ 60 → 0 ≤ a5 → a5 ≤ 60 → 0 ≤ x6 → x6 ≤ 60 → (a2 + a5) ≤ 60 → (a4 + a5) ≤ 60 → ((-a5) + x6) ≤ 0 → SV1 a1 a2 a3 a4 a5 (h.2.2 79 (a1).toNat) (h.2.2 79 (a3).toNat) (h.2.2 80 (a1).toNat) (h.2.2 80 (a3).toNat) → T1 h h1 (60 * a1 + a2) x6 → ((-x6) + 121) < N → jEv (jOk 2) none (fun _ => 0) c376_0 0 0 (fun v h' => ∃ r : Int, v = some (0, r) ∧ Gd G h' ∧ Kp [(81, 0), (82, 0)] h h' ∧ SfR h h' a1 a2 a3 a4 a5) (c376_113, [(2, 42), (0, a1), (0, a2), (0, a3), (0, a4), (0, a5), (0, x6)], [], h1, 0, 0)) ∧ (∀ (h1 : JH) (x6 : Int), Gd G h1 → Kp [(81, 0), (82, 0)] h h1 → 0 ≤ a1 → a1 ≤ 5 → 0 ≤ a2 → a2 ≤ 60 → 0 ≤ a3 → a3 ≤ 5 → 0 ≤ a4 → a4 ≤ 60 → 0 ≤ a5 → a5 ≤ 60 → 0 ≤ x6 → x6 ≤ 60 → (a2 + a5) ≤ 60 → (a4 + a5) ≤ 60 → ((-a5) + x6) ≤ 0 → SV1 a1 a2 a3 a4 a5 (h.2.2 79 (a1).toNat) (h.2.2 79 (a3).toNat) (h.2.2 80 (a1).toNat) (h.2.2 80 (a3).toNat) → T2 h h1 (60 * a1 + a2) (60 * a3 + a4) a5 x6 → ((-x6) + 60) < N → jEv (jOk 2) none (fun _ => 0) c376_0 0 0 (fun v h' => ∃ r : Int, v = some (0, r) ∧ Gd G h' ∧ Kp [(81, 0), (82, 0)] h h' ∧ SfR h h' a1 a2 a3 a4 a5) (c376_150, [(2, 42), (0, a1), (0, a2), (0, a3), (0, a4), (0, a5), (0, x6)], [], h1, 0, 0)) := by
  intro N
  induction N with
  | zero => exact ⟨fun h1 x6 g1 k1 b0 b1 b2 b3 b4 b5 b6 b7 b8 b9 b10 b11 b12 b13 b14 b15 b16 hm => absurd hm (by omega), fun h1 x6 g1 k1 b0 b1 b2 b3 b4 b5 b6 b7 b8 b9 b10 b11 b12 b13 b14 b15 b16 hm => absurd hm (by omega)⟩
  | succ N ih =>
    refine ⟨?_, ?_⟩
    · intro h1 x6 g1 k1 b0 b1 b2 b3 b4 b5 b6 b7 b8 b9 b10 b11 b12 b13 b14 H0 H1 hm
      refine ev_iload rfl ?_
      refine ev_iload rfl ?_
      refine ev_icmpge f376_147 (fun c76155 => ?_) (fun c76155 => ?_)
      · refine ev_iconst ?_
        refine ev_istore (L' := [(2, 42), (0, a1), (0, a2), (0, a3), (0, a4), (0, a5), (0, 0)]) (Nat.le_of_ble_eq_true rfl) rfl ?_
        exact ih.2 _ _ g1 k1 (by omega) (by omega) (by omega) (by omega) (by omega) (by omega) (by omega) (by omega) (by omega) (by omega) (by omega) (by omega) (by omega) (by omega) (by omega) H0 (T2.start H1 (by omega)) (by omega)
      · refine ev_aload_n rfl ?_
        refine g_getp (r := 42) (c := 82) g1 ad42 (by decide) (by decide) rf42_65 ft12_65 ?_
        refine ev_iload rfl ?_
        refine ev_aload_n rfl ?_
        refine g_getp (r := 42) (c := 81) g1 ad42 (by decide) (by decide) rf42_64 ft12_64 ?_
        refine ev_bipush ?_
        refine ev_iload_n rfl ?_
        refine ev_imul (r := (60 * a1)) (by unfold w32; omega) ?_
        refine ev_iload_n rfl ?_
        refine ev_iadd (r := (60 * a1 + a2)) (by unfold w32; omega) ?_
        refine ev_iload rfl ?_
        refine ev_iadd (r := (60 * a1 + a2 + x6)) (by unfold w32; omega) ?_
        refine g_lald g1 ad81 rt81 (by omega) (by omega) (fun v76156 ev76156 lv76156 uv76156 => ?_)
        refine g_last g1 ad82 rt82 (fun _ => rfl) (by omega) (by omega) (by omega) (by omega) (fun h76157 e76157 g76157 => ?_)
        have k76157 := k1.wr e76157 rfl
        refine ev_iinc (w := (x6 + 1)) (L' := [(2, 42), (0, a1), (0, a2), (0, a3), (0, a4), (0, a5), (0, (x6 + 1))]) rfl (by unfold w32; omega) rfl ?_
        refine ev_goto f376_113 ?_
        exact ih.1 _ _ g76157 k76157 (by omega) (by omega) (by omega) (by omega) (by omega) (by omega) (by omega) (by omega) (by omega) (by omega) (by omega) (by omega) (by omega) (by omega) (by omega) H0 (T1.step (i := (60 * a1 + a2 + x6)) H1 (by omega) (by omega) ev76156 (by omega) e76157) (by omega)
    · intro h1 x6 g1 k1 b0 b1 b2 b3 b4 b5 b6 b7 b8 b9 b10 b11 b12 b13 b14 H0 H1 hm
      refine ev_iload rfl ?_
      refine ev_iload rfl ?_
      refine ev_icmpge f376_185 (fun c76158 => ?_) (fun c76158 => ?_)
      · refine ev_iload rfl ?_
        exact ev_ret rfl (by decide) (by decide) ⟨_, rfl, g1, k1, Or.inr ⟨H0, H1.fin (by omega)⟩⟩
      · refine ev_aload_n rfl ?_
        refine g_getp (r := 42) (c := 81) g1 ad42 (by decide) (by decide) rf42_64 ft12_64 ?_
        refine ev_bipush ?_
        refine ev_iload_n rfl ?_
        refine ev_imul (r := (60 * a3)) (by unfold w32; omega) ?_
        refine ev_iload rfl ?_
        refine ev_iadd (r := (60 * a3 + a4)) (by unfold w32; omega) ?_
        refine ev_iload rfl ?_
        refine ev_iadd (r := (60 * a3 + a4 + x6)) (by unfold w32; omega) ?_
        refine ev_aload_n rfl ?_
        refine g_getp (r := 42) (c := 82) g1 ad42 (by decide) (by decide) rf42_65 ft12_65 ?_
        refine ev_iload rfl ?_
        refine g_lald g1 ad82 rt82 (by omega) (by omega) (fun v76159 ev76159 lv76159 uv76159 => ?_)
        refine g_last g1 ad81 rt81 (fun _ => rfl) (by omega) (by omega) (by omega) (by omega) (fun h76160 e76160 g76160 => ?_)
        have k76160 := k1.wr e76160 rfl
        refine ev_iinc (w := (x6 + 1)) (L' := [(2, 42), (0, a1), (0, a2), (0, a3), (0, a4), (0, a5), (0, (x6 + 1))]) rfl (by unfold w32; omega) rfl ?_
        refine ev_goto f376_150 ?_
        exact ih.2 _ _ g76160 k76160 (by omega) (by omega) (by omega) (by omega) (by omega) (by omega) (by omega) (by omega) (by omega) (by omega) (by omega) (by omega) (by omega) (by omega) (by omega) H0 (T2.step (i := (60 * a3 + a4 + x6)) H1 (by omega) (by omega) (by omega) ev76159 (by omega) e76160) (by omega)
set_option maxHeartbeats 4000000 in
theorem t376 {G : GH} {h : JH} (g : Gd G h) {a1 : Int} (la1 : (-2147483648) ≤ a1) (ua1 : a1 ≤ 2147483647) {a2 : Int} (la2 : (-2147483648) ≤ a2) (ua2 : a2 ≤ 2147483647) {a3 : Int} (la3 : (-2147483648) ≤ a3) (ua3 : a3 ≤ 2147483647) {a4 : Int} (la4 : (-2147483648) ≤ a4) (ua4 : a4 ≤ 2147483647) {a5 : Int} (la5 : (-2147483648) ≤ a5) (ua5 : a5 ≤ 2147483647) : jOk 3 0 0 376 [(2, 42), (0, a1), (0, a2), (0, a3), (0, a4), (0, a5)] h (fun v h' => ∃ r : Int, v = some (0, r) ∧ Gd G h' ∧ Kp [(81, 0), (82, 0)] h h' ∧ SfR h h' a1 a2 a3 a4 a5) := by
  refine ⟨by decide, by rw [ml376]; exact Nat.le_of_ble_eq_true rfl, ?_⟩
  rw [ml376, pp376]
  show jEv _ none _ c376_0 0 0 _ (c376_0, [(2, 42), (0, a1), (0, a2), (0, a3), (0, a4), (0, a5), (9, 0)], [], h, 0, 0)
  have k0 := Kp.rf [(81, 0), (82, 0)] h
  refine ev_iload_n rfl ?_
  refine ev_in (d := 1) (a := 0) (b := 0) (cd' := c370_0) (m := 1) (L0 := [(0, a1)]) (jcall_s (A := [(0, a1)]) (S' := []) (by decide) rfl (Nat.le_of_ble_eq_true rfl)) (by decide) ml370 pp370 (Nat.le_of_ble_eq_true rfl) rfl (by decide) (by decide) ?_
  refine ev_iload_n rfl ?_
  refine ev_iconst ?_
  refine ev_iconst ?_
  refine ev_in (d := 0) (a := 0) (b := 0) (cd' := c242_0) (m := 3) (L0 := [(0, a1), (0, 0), (0, 5)]) (jcall_s (A := [(0, 5), (0, 0), (0, a1)]) (S' := []) (by decide) rfl (Nat.le_of_ble_eq_true rfl)) (by decide) ml242 pp242 (Nat.le_of_ble_eq_true rfl) rfl (by decide) (by decide) ?_
  refine ev_iload_n rfl ?_
  refine ev_iload_n rfl ?_
  refine ev_icmplt f242_14 (fun c76161 => ?_) (fun c76161 => ?_)
  · refine ev_iconst ?_
    refine ev_ret rfl (by decide) (by decide) ?_
    show jEv _ _ _ _ _ _ _ (_, [(0, a1)], [(0, 0)], _, _, _)
    refine ev_ret rfl (by decide) (by decide) ?_
    show jEv _ _ _ _ _ _ _ (_, [(2, 42), (0, a1), (0, a2), (0, a3), (0, a4), (0, a5), (9, 0)], [(0, 0)], _, _, _)
    refine ev_ifeq f376_14 (fun c76162 => ?_) (fun c76162 => absurd c76162 (by omega))
    refine ev_iconst ?_
    exact ev_ret rfl (by decide) (by decide) ⟨_, rfl, g, k0, Or.inl ⟨by unfold SV1; omega, fun _ => rfl⟩⟩
  · refine ev_iload_n rfl ?_
    refine ev_iload_n rfl ?_
    refine ev_icmpgt f242_14 (fun c76163 => ?_) (fun c76163 => ?_)
    · refine ev_iconst ?_
      refine ev_ret rfl (by decide) (by decide) ?_
      show jEv _ _ _ _ _ _ _ (_, [(0, a1)], [(0, 0)], _, _, _)
      refine ev_ret rfl (by decide) (by decide) ?_
      show jEv _ _ _ _ _ _ _ (_, [(2, 42), (0, a1), (0, a2), (0, a3), (0, a4), (0, a5), (9, 0)], [(0, 0)], _, _, _)
      refine ev_ifeq f376_14 (fun c76164 => ?_) (fun c76164 => absurd c76164 (by omega))
      refine ev_iconst ?_
      exact ev_ret rfl (by decide) (by decide) ⟨_, rfl, g, k0, Or.inl ⟨by unfold SV1; omega, fun _ => rfl⟩⟩
    · refine ev_iconst ?_
      refine ev_goto f242_15 ?_
      refine ev_ret rfl (by decide) (by decide) ?_
      show jEv _ _ _ _ _ _ _ (_, [(0, a1)], [(0, 1)], _, _, _)
      refine ev_ret rfl (by decide) (by decide) ?_
      show jEv _ _ _ _ _ _ _ (_, [(2, 42), (0, a1), (0, a2), (0, a3), (0, a4), (0, a5), (9, 0)], [(0, 1)], _, _, _)
      refine ev_ifeq f376_14 (fun c76165 => absurd c76165 (by omega)) (fun c76165 => ?_)
      refine ev_iload_n rfl ?_
      refine ev_in (d := 1) (a := 0) (b := 0) (cd' := c370_0) (m := 1) (L0 := [(0, a3)]) (jcall_s (A := [(0, a3)]) (S' := []) (by decide) rfl (Nat.le_of_ble_eq_true rfl)) (by decide) ml370 pp370 (Nat.le_of_ble_eq_true rfl) rfl (by decide) (by decide) ?_
      refine ev_iload_n rfl ?_
      refine ev_iconst ?_
      refine ev_iconst ?_
      refine ev_in (d := 0) (a := 0) (b := 0) (cd' := c242_0) (m := 3) (L0 := [(0, a3), (0, 0), (0, 5)]) (jcall_s (A := [(0, 5), (0, 0), (0, a3)]) (S' := []) (by decide) rfl (Nat.le_of_ble_eq_true rfl)) (by decide) ml242 pp242 (Nat.le_of_ble_eq_true rfl) rfl (by decide) (by decide) ?_
      refine ev_iload_n rfl ?_
      refine ev_iload_n rfl ?_
      refine ev_icmplt f242_14 (fun c76166 => ?_) (fun c76166 => ?_)
      · refine ev_iconst ?_
        refine ev_ret rfl (by decide) (by decide) ?_
        show jEv _ _ _ _ _ _ _ (_, [(0, a3)], [(0, 0)], _, _, _)
        refine ev_ret rfl (by decide) (by decide) ?_
        show jEv _ _ _ _ _ _ _ (_, [(2, 42), (0, a1), (0, a2), (0, a3), (0, a4), (0, a5), (9, 0)], [(0, 0)], _, _, _)
        refine ev_ifne f376_16 (fun c76167 => absurd c76167 (by omega)) (fun c76167 => ?_)
        refine ev_iconst ?_
        exact ev_ret rfl (by decide) (by decide) ⟨_, rfl, g, k0, Or.inl ⟨by unfold SV1; omega, fun _ => rfl⟩⟩
      · refine ev_iload_n rfl ?_
        refine ev_iload_n rfl ?_
        refine ev_icmpgt f242_14 (fun c76168 => ?_) (fun c76168 => ?_)
        · refine ev_iconst ?_
          refine ev_ret rfl (by decide) (by decide) ?_
          show jEv _ _ _ _ _ _ _ (_, [(0, a3)], [(0, 0)], _, _, _)
          refine ev_ret rfl (by decide) (by decide) ?_
          show jEv _ _ _ _ _ _ _ (_, [(2, 42), (0, a1), (0, a2), (0, a3), (0, a4), (0, a5), (9, 0)], [(0, 0)], _, _, _)
          refine ev_ifne f376_16 (fun c76169 => absurd c76169 (by omega)) (fun c76169 => ?_)
          refine ev_iconst ?_
          exact ev_ret rfl (by decide) (by decide) ⟨_, rfl, g, k0, Or.inl ⟨by unfold SV1; omega, fun _ => rfl⟩⟩
        · refine ev_iconst ?_
          refine ev_goto f242_15 ?_
          refine ev_ret rfl (by decide) (by decide) ?_
          show jEv _ _ _ _ _ _ _ (_, [(0, a3)], [(0, 1)], _, _, _)
          refine ev_ret rfl (by decide) (by decide) ?_
          show jEv _ _ _ _ _ _ _ (_, [(2, 42), (0, a1), (0, a2), (0, a3), (0, a4), (0, a5), (9, 0)], [(0, 1)], _, _, _)
          refine ev_ifne f376_16 (fun c76170 => ?_) (fun c76170 => absurd c76170 (by omega))
          refine ev_aload_n rfl ?_
          refine g_getp (r := 42) (c := 79) g ad42 (by decide) (by decide) rf42_62 ft12_62 ?_
          refine ev_iload_n rfl ?_
          refine g_iald g ad79 rt79 (by omega) (by omega) (fun v76171 ev76171 lv76171 uv76171 => ?_)
          refine ev_iconst ?_
          refine ev_icmpeq f376_36 (fun c76172 => ?_) (fun c76172 => ?_)
          · refine ev_bipush ?_
            exact ev_ret rfl (by decide) (by decide) ⟨_, rfl, g, k0, Or.inl ⟨by unfold SV1; (try rw [ev76171]); omega, fun _ => rfl⟩⟩
          · refine ev_aload_n rfl ?_
            refine g_getp (r := 42) (c := 79) g ad42 (by decide) (by decide) rf42_62 ft12_62 ?_
            refine ev_iload_n rfl ?_
            refine g_iald g ad79 rt79 (by omega) (by omega) (fun v76173 ev76173 lv76173 uv76173 => ?_)
            refine ev_iconst ?_
            refine ev_icmpne f376_39 (fun c76174 => ?_) (fun c76174 => ?_)
            · refine ev_aload_n rfl ?_
              refine g_getp (r := 42) (c := 79) g ad42 (by decide) (by decide) rf42_62 ft12_62 ?_
              refine ev_iload_n rfl ?_
              refine g_ialdv (v := v76171) g ad79 (by omega) (by omega) (ev76171) ?_
              refine ev_ifge f376_63 (fun c76175 => ?_) (fun c76175 => ?_)
              · refine ev_bipush ?_
                exact ev_ret rfl (by decide) (by decide) ⟨_, rfl, g, k0, Or.inl ⟨by unfold SV1; (try rw [ev76171]); (try rw [ev76173]); omega, fun _ => rfl⟩⟩
              · refine ev_aload_n rfl ?_
                refine g_getp (r := 42) (c := 79) g ad42 (by decide) (by decide) rf42_62 ft12_62 ?_
                refine ev_iload_n rfl ?_
                refine g_ialdv (v := v76171) g ad79 (by omega) (by omega) (ev76171) ?_
                refine ev_aload_n rfl ?_
                refine g_getp (r := 42) (c := 79) g ad42 (by decide) (by decide) rf42_62 ft12_62 ?_
                refine ev_iload_n rfl ?_
                refine g_ialdv (v := v76173) g ad79 (by omega) (by omega) (ev76173) ?_
                refine ev_icmpeq f376_66 (fun c76176 => ?_) (fun c76176 => ?_)
                · refine ev_iload rfl ?_
                  refine ev_iflt f376_107 (fun c76177 => ?_) (fun c76177 => ?_)
                  · refine ev_bipush ?_
                    exact ev_ret rfl (by decide) (by decide) ⟨_, rfl, g, k0, Or.inl ⟨by unfold SV1; (try rw [ev76171]); (try rw [ev76173]); omega, fun _ => rfl⟩⟩
                  · refine ev_iload_n rfl ?_
                    refine ev_iflt f376_107 (fun c76178 => ?_) (fun c76178 => ?_)
                    · refine ev_bipush ?_
                      exact ev_ret rfl (by decide) (by decide) ⟨_, rfl, g, k0, Or.inl ⟨by unfold SV1; (try rw [ev76171]); (try rw [ev76173]); omega, fun _ => rfl⟩⟩
                    · refine ev_iload rfl ?_
                      refine ev_iflt f376_107 (fun c76179 => ?_) (fun c76179 => ?_)
                      · refine ev_bipush ?_
                        exact ev_ret rfl (by decide) (by decide) ⟨_, rfl, g, k0, Or.inl ⟨by unfold SV1; (try rw [ev76171]); (try rw [ev76173]); omega, fun _ => rfl⟩⟩
                      · refine ev_iload_n rfl ?_
                        refine ev_aload_n rfl ?_
                        refine g_getp (r := 42) (c := 80) g ad42 (by decide) (by decide) rf42_63 ft12_63 ?_
                        refine ev_iload_n rfl ?_
                        refine g_iald g ad80 rt80 (by omega) (by omega) (fun v76180 ev76180 lv76180 uv76180 => ?_)
                        refine ev_iload rfl ?_
                        refine ev_isub (r := ((-a5) + v76180)) (by unfold w32; omega) ?_
                        refine ev_icmpgt f376_107 (fun c76181 => ?_) (fun c76181 => ?_)
                        · refine ev_bipush ?_
                          exact ev_ret rfl (by decide) (by decide) ⟨_, rfl, g, k0, Or.inl ⟨by unfold SV1; (try rw [ev76171]); (try rw [ev76173]); (try rw [ev76180]); omega, fun _ => rfl⟩⟩
                        · refine ev_iload rfl ?_
                          refine ev_aload_n rfl ?_
                          refine g_getp (r := 42) (c := 80) g ad42 (by decide) (by decide) rf42_63 ft12_63 ?_
                          refine ev_iload_n rfl ?_
                          refine g_iald g ad80 rt80 (by omega) (by omega) (fun v76182 ev76182 lv76182 uv76182 => ?_)
                          refine ev_iload rfl ?_
                          refine ev_isub (r := ((-a5) + v76182)) (by unfold w32; omega) ?_
                          refine ev_icmple f376_110 (fun c76183 => ?_) (fun c76183 => ?_)
                          · refine ev_iconst ?_
                            refine ev_istore (L' := [(2, 42), (0, a1), (0, a2), (0, a3), (0, a4), (0, a5), (0, 0)]) (Nat.le_of_ble_eq_true rfl) rfl ?_
                            exact (t376_l la1 ua1 la2 ua2 la3 ua3 la4 ua4 la5 ua5 183).1 _ _ g k0 (by omega) (by omega) (by omega) (by omega) (by omega) (by omega) (by omega) (by omega) (by omega) (by omega) (by omega) (by omega) (by omega) (by omega) (by omega) (by unfold SV1; (try rw [ev76171]); (try rw [ev76173]); (try rw [ev76180]); (try rw [ev76182]); omega) (T1.start _ _) (by omega)
                          · refine ev_bipush ?_
                            exact ev_ret rfl (by decide) (by decide) ⟨_, rfl, g, k0, Or.inl ⟨by unfold SV1; (try rw [ev76171]); (try rw [ev76173]); (try rw [ev76180]); (try rw [ev76182]); omega, fun _ => rfl⟩⟩
                · refine ev_bipush ?_
                  exact ev_ret rfl (by decide) (by decide) ⟨_, rfl, g, k0, Or.inl ⟨by unfold SV1; (try rw [ev76171]); (try rw [ev76173]); omega, fun _ => rfl⟩⟩
            · refine ev_bipush ?_
              exact ev_ret rfl (by decide) (by decide) ⟨_, rfl, g, k0, Or.inl ⟨by unfold SV1; (try rw [ev76171]); (try rw [ev76173]); omega, fun _ => rfl⟩⟩
set_option maxHeartbeats 4000000 in
theorem t215 {G : GH} {h : JH} (g : Gd G h) {a1 : Int} (la1 : (-2147483648) ≤ a1) (ua1 : a1 ≤ 2147483647) {a2 : Int} (la2 : (-2147483648) ≤ a2) (ua2 : a2 ≤ 2147483647) : jOk 3 0 0 215 [(2, 0), (0, a1), (0, a2)] h (fun v h' => ∃ r : Int, v = some (1, r) ∧ Gd G h' ∧ Kp [] h h' ∧ elC h a1 a2 r) := by
  refine ⟨by decide, by rw [ml215]; exact Nat.le_of_ble_eq_true rfl, ?_⟩
  rw [ml215, pp215]
  show jEv _ none _ c215_0 0 0 _ (c215_0, [(2, 0), (0, a1), (0, a2)], [], h, 0, 0)
  have k0 := Kp.rf [] h
  refine ev_aload_n rfl ?_
  refine ev_iload_n rfl ?_
  refine ev_iload_n rfl ?_
  refine ev_in (d := 1) (a := 0) (b := 0) (cd' := c239_0) (m := 3) (L0 := [(2, 0), (0, a1), (0, a2)]) (jcall_v (A := [(0, a2), (0, a1)]) (S' := []) (r := 0) rfl (g.lt ad0) (g.tg ad0) (Nat.le_of_ble_eq_true rfl)) (by decide) ml239 pp239 (Nat.le_of_ble_eq_true rfl) rfl (by decide) (by decide) ?_
  refine ev_iload_n rfl ?_
  refine ev_in (d := 0) (a := 0) (b := 0) (cd' := c222_0) (m := 1) (L0 := [(0, a1)]) (jcall_s (A := [(0, a1)]) (S' := []) (by decide) rfl (Nat.le_of_ble_eq_true rfl)) (by decide) ml222 pp222 (Nat.le_of_ble_eq_true rfl) rfl (by decide) (by decide) ?_
  refine ev_iload_n rfl ?_
  refine ev_iflt f222_14 (fun c76222 => ?_) (fun c76222 => ?_)
  · refine ev_iconst ?_
    refine ev_ret rfl (by decide) (by decide) ?_
    show jEv _ _ _ _ _ _ _ (_, [(2, 0), (0, a1), (0, a2)], [(0, 0)], _, _, _)
    refine ev_ifne f239_9 (fun c76223 => absurd c76223 (by omega)) (fun c76223 => ?_)
    refine ev_iconst ?_
    refine ev_ret rfl (by decide) (by decide) ?_
    show jEv _ _ _ _ _ _ _ (_, [(2, 0), (0, a1), (0, a2)], [(0, (-1))], _, _, _)
    refine ev_ifeq f215_15 (fun c76224 => absurd c76224 (by omega)) (fun c76224 => ?_)
    refine ev_ldc2_w ?_
    refine ev_goto f215_26 ?_
    exact ev_ret rfl (by decide) (by decide) ⟨_, rfl, g, k0, Or.inl ⟨by unfold PV0; omega, rfl⟩⟩
  · refine ev_iload_n rfl ?_
    refine ev_bipush ?_
    refine ev_icmpge f222_14 (fun c76225 => ?_) (fun c76225 => ?_)
    · refine ev_iconst ?_
      refine ev_ret rfl (by decide) (by decide) ?_
      show jEv _ _ _ _ _ _ _ (_, [(2, 0), (0, a1), (0, a2)], [(0, 0)], _, _, _)
      refine ev_ifne f239_9 (fun c76226 => absurd c76226 (by omega)) (fun c76226 => ?_)
      refine ev_iconst ?_
      refine ev_ret rfl (by decide) (by decide) ?_
      show jEv _ _ _ _ _ _ _ (_, [(2, 0), (0, a1), (0, a2)], [(0, (-1))], _, _, _)
      refine ev_ifeq f215_15 (fun c76227 => absurd c76227 (by omega)) (fun c76227 => ?_)
      refine ev_ldc2_w ?_
      refine ev_goto f215_26 ?_
      exact ev_ret rfl (by decide) (by decide) ⟨_, rfl, g, k0, Or.inl ⟨by unfold PV0; omega, rfl⟩⟩
    · refine ev_iconst ?_
      refine ev_goto f222_15 ?_
      refine ev_ret rfl (by decide) (by decide) ?_
      show jEv _ _ _ _ _ _ _ (_, [(2, 0), (0, a1), (0, a2)], [(0, 1)], _, _, _)
      refine ev_ifne f239_9 (fun c76228 => ?_) (fun c76228 => absurd c76228 (by omega))
      refine ev_aload_n rfl ?_
      refine g_getp (r := 0) (c := 37) g ad0 (by decide) (by decide) rf0_12 ft11_12 ?_
      refine ev_iload_n rfl ?_
      refine g_iald g ad37 rt37 (by omega) (by omega) (fun v76229 ev76229 lv76229 uv76229 => ?_)
      refine ev_iconst ?_
      refine ev_icmpne f239_22 (fun c76230 => ?_) (fun c76230 => ?_)
      · refine ev_aload_n rfl ?_
        refine g_getp (r := 0) (c := 37) g ad0 (by decide) (by decide) rf0_12 ft11_12 ?_
        refine ev_iload_n rfl ?_
        refine g_ialdv (v := v76229) g ad37 (by omega) (by omega) (ev76229) ?_
        refine ev_bipush ?_
        refine ev_icmplt f239_36 (fun c76231 => ?_) (fun c76231 => ?_)
        · refine ev_iload_n rfl ?_
          refine ev_iflt f239_50 (fun c76232 => ?_) (fun c76232 => ?_)
          · refine ev_bipush ?_
            refine ev_goto f239_56 ?_
            refine ev_ret rfl (by decide) (by decide) ?_
            show jEv _ _ _ _ _ _ _ (_, [(2, 0), (0, a1), (0, a2)], [(0, (-13))], _, _, _)
            refine ev_ifeq f215_15 (fun c76233 => absurd c76233 (by omega)) (fun c76233 => ?_)
            refine ev_ldc2_w ?_
            refine ev_goto f215_26 ?_
            exact ev_ret rfl (by decide) (by decide) ⟨_, rfl, g, k0, Or.inl ⟨by unfold PV0; (try rw [ev76229]); omega, rfl⟩⟩
          · refine ev_iload_n rfl ?_
            refine ev_aload_n rfl ?_
            refine g_getp (r := 0) (c := 38) g ad0 (by decide) (by decide) rf0_13 ft11_13 ?_
            refine ev_iload_n rfl ?_
            refine g_iald g ad38 rt38 (by omega) (by omega) (fun v76234 ev76234 lv76234 uv76234 => ?_)
            refine ev_icmplt f239_55 (fun c76235 => ?_) (fun c76235 => ?_)
            · refine ev_iconst ?_
              refine ev_ret rfl (by decide) (by decide) ?_
              show jEv _ _ _ _ _ _ _ (_, [(2, 0), (0, a1), (0, a2)], [(0, 0)], _, _, _)
              refine ev_ifeq f215_15 (fun c76236 => ?_) (fun c76236 => absurd c76236 (by omega))
              refine ev_aload_n rfl ?_
              refine g_getp (r := 0) (c := 39) g ad0 (by decide) (by decide) rf0_14 ft11_14 ?_
              refine ev_bipush ?_
              refine ev_iload_n rfl ?_
              refine ev_imul (r := (60 * a1)) (by unfold w32; omega) ?_
              refine ev_iload_n rfl ?_
              refine ev_iadd (r := (60 * a1 + a2)) (by unfold w32; omega) ?_
              refine g_lald g ad39 rt39 (by omega) (by omega) (fun v76237 ev76237 lv76237 uv76237 => ?_)
              exact ev_ret rfl (by decide) (by decide) ⟨_, rfl, g, k0, Or.inr ⟨by unfold PV0; (try rw [ev76229]); (try rw [ev76234]); omega, ev76237.symm⟩⟩
            · refine ev_bipush ?_
              refine ev_goto f239_56 ?_
              refine ev_ret rfl (by decide) (by decide) ?_
              show jEv _ _ _ _ _ _ _ (_, [(2, 0), (0, a1), (0, a2)], [(0, (-13))], _, _, _)
              refine ev_ifeq f215_15 (fun c76238 => absurd c76238 (by omega)) (fun c76238 => ?_)
              refine ev_ldc2_w ?_
              refine ev_goto f215_26 ?_
              exact ev_ret rfl (by decide) (by decide) ⟨_, rfl, g, k0, Or.inl ⟨by unfold PV0; (try rw [ev76229]); (try rw [ev76234]); omega, rfl⟩⟩
        · refine ev_bipush ?_
          refine ev_ret rfl (by decide) (by decide) ?_
          show jEv _ _ _ _ _ _ _ (_, [(2, 0), (0, a1), (0, a2)], [(0, (-12))], _, _, _)
          refine ev_ifeq f215_15 (fun c76239 => absurd c76239 (by omega)) (fun c76239 => ?_)
          refine ev_ldc2_w ?_
          refine ev_goto f215_26 ?_
          exact ev_ret rfl (by decide) (by decide) ⟨_, rfl, g, k0, Or.inl ⟨by unfold PV0; (try rw [ev76229]); omega, rfl⟩⟩
      · refine ev_bipush ?_
        refine ev_ret rfl (by decide) (by decide) ?_
        show jEv _ _ _ _ _ _ _ (_, [(2, 0), (0, a1), (0, a2)], [(0, (-11))], _, _, _)
        refine ev_ifeq f215_15 (fun c76240 => absurd c76240 (by omega)) (fun c76240 => ?_)
        refine ev_ldc2_w ?_
        refine ev_goto f215_26 ?_
        exact ev_ret rfl (by decide) (by decide) ⟨_, rfl, g, k0, Or.inl ⟨by unfold PV0; (try rw [ev76229]); omega, rfl⟩⟩
set_option maxHeartbeats 4000000 in
theorem t375 {G : GH} {h : JH} (g : Gd G h) {a1 : Int} (la1 : (-2147483648) ≤ a1) (ua1 : a1 ≤ 2147483647) {a2 : Int} (la2 : (-2147483648) ≤ a2) (ua2 : a2 ≤ 2147483647) : jOk 4 0 0 375 [(2, 42), (0, a1), (0, a2)] h (fun v h' => ∃ r : Int, v = some (1, r) ∧ Gd G h' ∧ Kp [] h h' ∧ elR h a1 a2 r) := by
  refine ⟨by decide, by rw [ml375]; exact Nat.le_of_ble_eq_true rfl, ?_⟩
  rw [ml375, pp375]
  show jEv _ none _ c375_0 0 0 _ (c375_0, [(2, 42), (0, a1), (0, a2)], [], h, 0, 0)
  have k0 := Kp.rf [] h
  refine ev_aload_n rfl ?_
  refine ev_iload_n rfl ?_
  refine ev_iload_n rfl ?_
  refine ev_in (d := 2) (a := 0) (b := 0) (cd' := c373_0) (m := 3) (L0 := [(2, 42), (0, a1), (0, a2)]) (jcall_v (A := [(0, a2), (0, a1)]) (S' := []) (r := 42) rfl (g.lt ad42) (g.tg ad42) (Nat.le_of_ble_eq_true rfl)) (by decide) ml373 pp373 (Nat.le_of_ble_eq_true rfl) rfl (by decide) (by decide) ?_
  refine ev_iload_n rfl ?_
  refine ev_in (d := 1) (a := 0) (b := 0) (cd' := c370_0) (m := 1) (L0 := [(0, a1)]) (jcall_s (A := [(0, a1)]) (S' := []) (by decide) rfl (Nat.le_of_ble_eq_true rfl)) (by decide) ml370 pp370 (Nat.le_of_ble_eq_true rfl) rfl (by decide) (by decide) ?_
  refine ev_iload_n rfl ?_
  refine ev_iconst ?_
  refine ev_iconst ?_
  refine ev_in (d := 0) (a := 0) (b := 0) (cd' := c242_0) (m := 3) (L0 := [(0, a1), (0, 0), (0, 5)]) (jcall_s (A := [(0, 5), (0, 0), (0, a1)]) (S' := []) (by decide) rfl (Nat.le_of_ble_eq_true rfl)) (by decide) ml242 pp242 (Nat.le_of_ble_eq_true rfl) rfl (by decide) (by decide) ?_
  refine ev_iload_n rfl ?_
  refine ev_iload_n rfl ?_
  refine ev_icmplt f242_14 (fun c76285 => ?_) (fun c76285 => ?_)
  · refine ev_iconst ?_
    refine ev_ret rfl (by decide) (by decide) ?_
    show jEv _ _ _ _ _ _ _ (_, [(0, a1)], [(0, 0)], _, _, _)
    refine ev_ret rfl (by decide) (by decide) ?_
    show jEv _ _ _ _ _ _ _ (_, [(2, 42), (0, a1), (0, a2)], [(0, 0)], _, _, _)
    refine ev_ifne f373_9 (fun c76286 => absurd c76286 (by omega)) (fun c76286 => ?_)
    refine ev_iconst ?_
    refine ev_ret rfl (by decide) (by decide) ?_
    show jEv _ _ _ _ _ _ _ (_, [(2, 42), (0, a1), (0, a2)], [(0, (-1))], _, _, _)
    refine ev_ifge f375_15 (fun c76287 => absurd c76287 (by omega)) (fun c76287 => ?_)
    refine ev_ldc2_w ?_
    refine ev_goto f375_26 ?_
    exact ev_ret rfl (by decide) (by decide) ⟨_, rfl, g, k0, Or.inl ⟨by unfold PV1; omega, rfl⟩⟩
  · refine ev_iload_n rfl ?_
    refine ev_iload_n rfl ?_
    refine ev_icmpgt f242_14 (fun c76288 => ?_) (fun c76288 => ?_)
    · refine ev_iconst ?_
      refine ev_ret rfl (by decide) (by decide) ?_
      show jEv _ _ _ _ _ _ _ (_, [(0, a1)], [(0, 0)], _, _, _)
      refine ev_ret rfl (by decide) (by decide) ?_
      show jEv _ _ _ _ _ _ _ (_, [(2, 42), (0, a1), (0, a2)], [(0, 0)], _, _, _)
      refine ev_ifne f373_9 (fun c76289 => absurd c76289 (by omega)) (fun c76289 => ?_)
      refine ev_iconst ?_
      refine ev_ret rfl (by decide) (by decide) ?_
      show jEv _ _ _ _ _ _ _ (_, [(2, 42), (0, a1), (0, a2)], [(0, (-1))], _, _, _)
      refine ev_ifge f375_15 (fun c76290 => absurd c76290 (by omega)) (fun c76290 => ?_)
      refine ev_ldc2_w ?_
      refine ev_goto f375_26 ?_
      exact ev_ret rfl (by decide) (by decide) ⟨_, rfl, g, k0, Or.inl ⟨by unfold PV1; omega, rfl⟩⟩
    · refine ev_iconst ?_
      refine ev_goto f242_15 ?_
      refine ev_ret rfl (by decide) (by decide) ?_
      show jEv _ _ _ _ _ _ _ (_, [(0, a1)], [(0, 1)], _, _, _)
      refine ev_ret rfl (by decide) (by decide) ?_
      show jEv _ _ _ _ _ _ _ (_, [(2, 42), (0, a1), (0, a2)], [(0, 1)], _, _, _)
      refine ev_ifne f373_9 (fun c76291 => ?_) (fun c76291 => absurd c76291 (by omega))
      refine ev_aload_n rfl ?_
      refine g_getp (r := 42) (c := 79) g ad42 (by decide) (by decide) rf42_62 ft12_62 ?_
      refine ev_iload_n rfl ?_
      refine g_iald g ad79 rt79 (by omega) (by omega) (fun v76292 ev76292 lv76292 uv76292 => ?_)
      refine ev_iconst ?_
      refine ev_icmpne f373_22 (fun c76293 => ?_) (fun c76293 => ?_)
      · refine ev_aload_n rfl ?_
        refine g_getp (r := 42) (c := 79) g ad42 (by decide) (by decide) rf42_62 ft12_62 ?_
        refine ev_iload_n rfl ?_
        refine g_ialdv (v := v76292) g ad79 (by omega) (by omega) (ev76292) ?_
        refine ev_iflt f373_34 (fun c76294 => ?_) (fun c76294 => ?_)
        · refine ev_iload_n rfl ?_
          refine ev_iconst ?_
          refine ev_aload_n rfl ?_
          refine g_getp (r := 42) (c := 80) g ad42 (by decide) (by decide) rf42_63 ft12_63 ?_
          refine ev_iload_n rfl ?_
          refine g_iald g ad80 rt80 (by omega) (by omega) (fun v76295 ev76295 lv76295 uv76295 => ?_)
          refine ev_iconst ?_
          refine ev_isub (r := (v76295 - 1)) (by unfold w32; omega) ?_
          refine ev_in (d := 1) (a := 0) (b := 0) (cd' := c242_0) (m := 3) (L0 := [(0, a2), (0, 0), (0, (v76295 - 1))]) (jcall_s (A := [(0, (v76295 - 1)), (0, 0), (0, a2)]) (S' := []) (by decide) rfl (Nat.le_of_ble_eq_true rfl)) (by decide) ml242 pp242 (Nat.le_of_ble_eq_true rfl) rfl (by decide) (by decide) ?_
          refine ev_iload_n rfl ?_
          refine ev_iload_n rfl ?_
          refine ev_icmplt f242_14 (fun c76296 => ?_) (fun c76296 => ?_)
          · refine ev_iconst ?_
            refine ev_ret rfl (by decide) (by decide) ?_
            show jEv _ _ _ _ _ _ _ (_, [(2, 42), (0, a1), (0, a2)], [(0, 0)], _, _, _)
            refine ev_ifeq f373_54 (fun c76297 => ?_) (fun c76297 => absurd c76297 (by omega))
            refine ev_bipush ?_
            refine ev_ret rfl (by decide) (by decide) ?_
            show jEv _ _ _ _ _ _ _ (_, [(2, 42), (0, a1), (0, a2)], [(0, (-13))], _, _, _)
            refine ev_ifge f375_15 (fun c76298 => absurd c76298 (by omega)) (fun c76298 => ?_)
            refine ev_ldc2_w ?_
            refine ev_goto f375_26 ?_
            exact ev_ret rfl (by decide) (by decide) ⟨_, rfl, g, k0, Or.inl ⟨by unfold PV1; (try rw [ev76292]); (try rw [ev76295]); omega, rfl⟩⟩
          · refine ev_iload_n rfl ?_
            refine ev_iload_n rfl ?_
            refine ev_icmpgt f242_14 (fun c76299 => ?_) (fun c76299 => ?_)
            · refine ev_iconst ?_
              refine ev_ret rfl (by decide) (by decide) ?_
              show jEv _ _ _ _ _ _ _ (_, [(2, 42), (0, a1), (0, a2)], [(0, 0)], _, _, _)
              refine ev_ifeq f373_54 (fun c76300 => ?_) (fun c76300 => absurd c76300 (by omega))
              refine ev_bipush ?_
              refine ev_ret rfl (by decide) (by decide) ?_
              show jEv _ _ _ _ _ _ _ (_, [(2, 42), (0, a1), (0, a2)], [(0, (-13))], _, _, _)
              refine ev_ifge f375_15 (fun c76301 => absurd c76301 (by omega)) (fun c76301 => ?_)
              refine ev_ldc2_w ?_
              refine ev_goto f375_26 ?_
              exact ev_ret rfl (by decide) (by decide) ⟨_, rfl, g, k0, Or.inl ⟨by unfold PV1; (try rw [ev76292]); (try rw [ev76295]); omega, rfl⟩⟩
            · refine ev_iconst ?_
              refine ev_goto f242_15 ?_
              refine ev_ret rfl (by decide) (by decide) ?_
              show jEv _ _ _ _ _ _ _ (_, [(2, 42), (0, a1), (0, a2)], [(0, 1)], _, _, _)
              refine ev_ifeq f373_54 (fun c76302 => absurd c76302 (by omega)) (fun c76302 => ?_)
              refine ev_iconst ?_
              refine ev_goto f373_56 ?_
              refine ev_ret rfl (by decide) (by decide) ?_
              show jEv _ _ _ _ _ _ _ (_, [(2, 42), (0, a1), (0, a2)], [(0, 0)], _, _, _)
              refine ev_ifge f375_15 (fun c76303 => ?_) (fun c76303 => absurd c76303 (by omega))
              refine ev_aload_n rfl ?_
              refine g_getp (r := 42) (c := 81) g ad42 (by decide) (by decide) rf42_64 ft12_64 ?_
              refine ev_bipush ?_
              refine ev_iload_n rfl ?_
              refine ev_imul (r := (60 * a1)) (by unfold w32; omega) ?_
              refine ev_iload_n rfl ?_
              refine ev_iadd (r := (60 * a1 + a2)) (by unfold w32; omega) ?_
              refine g_lald g ad81 rt81 (by omega) (by omega) (fun v76304 ev76304 lv76304 uv76304 => ?_)
              exact ev_ret rfl (by decide) (by decide) ⟨_, rfl, g, k0, Or.inr ⟨by unfold PV1; (try rw [ev76292]); (try rw [ev76295]); omega, ev76304.symm⟩⟩
        · refine ev_bipush ?_
          refine ev_ret rfl (by decide) (by decide) ?_
          show jEv _ _ _ _ _ _ _ (_, [(2, 42), (0, a1), (0, a2)], [(0, (-12))], _, _, _)
          refine ev_ifge f375_15 (fun c76305 => absurd c76305 (by omega)) (fun c76305 => ?_)
          refine ev_ldc2_w ?_
          refine ev_goto f375_26 ?_
          exact ev_ret rfl (by decide) (by decide) ⟨_, rfl, g, k0, Or.inl ⟨by unfold PV1; (try rw [ev76292]); omega, rfl⟩⟩
      · refine ev_bipush ?_
        refine ev_ret rfl (by decide) (by decide) ?_
        show jEv _ _ _ _ _ _ _ (_, [(2, 42), (0, a1), (0, a2)], [(0, (-11))], _, _, _)
        refine ev_ifge f375_15 (fun c76306 => absurd c76306 (by omega)) (fun c76306 => ?_)
        refine ev_ldc2_w ?_
        refine ev_goto f375_26 ?_
        exact ev_ret rfl (by decide) (by decide) ⟨_, rfl, g, k0, Or.inl ⟨by unfold PV1; (try rw [ev76292]); omega, rfl⟩⟩
theorem al_succ {P : Int → Prop} {x y : Int} (hy : y = x + 1) (H : ∀ t : Int, 0 ≤ t → t < x → P t) (p : P x) : ∀ t : Int, 0 ≤ t → t < y → P t := fun t t0 t1 => by
  rcases Int.lt_or_le t x with z | z
  · exact H t t0 z
  · rw [show t = x by omega]; exact p
def dOk3 (o p q : Int) : Prop := 0 ≤ o ∧ o ≤ 999 ∧ 0 ≤ p ∧ p ≤ 100 ∧ 0 ≤ q ∧ q ≤ 99
/-- a row's t-th day from place i on -/
def Good (h : JH) (c : Nat) (k i sz t : Int) : Prop := 0 ≤ i + 3 * t ∧ i + 3 * t + 2 < sz ∧ dOk3 (w32 (h.2.2 c (60 * k + (i + 3 * t)).toNat)) (w32 (h.2.2 c (60 * k + (i + 3 * t) + 1).toNat)) (w32 (h.2.2 c (60 * k + (i + 3 * t) + 2).toNat))
theorem Good.v {W : List (Nat × Nat)} {h h1 : JH} {c : Nat} {k i sz t i1 i2 i3 v1 v2 v3 u1 u2 u3 : Int} (x : Good h c k i sz t) (kp : Kp W h h1) (cc : ∀ j, inW W c j = false) (e1 : h1.2.2 c i1.toNat = v1) (w1 : w32 v1 = u1) (e2 : h1.2.2 c i2.toNat = v2) (w2 : w32 v2 = u2) (e3 : h1.2.2 c i3.toNat = v3) (w3 : w32 v3 = u3) (h1' : i1 = 60 * k + (i + 3 * t)) (h2' : i2 = i1 + 1) (h3' : i3 = i1 + 2) : dOk3 u1 u2 u3 := by
  have z := x.2.2
  rw [← h1', show i1 + 1 = i2 by omega, show i1 + 2 = i3 by omega, ← kp.v (cc _), ← kp.v (cc _), ← kp.v (cc _), e1, e2, e3, w1, w2, w3] at z
  exact z
theorem Good.mk {W : List (Nat × Nat)} {h h1 : JH} {c : Nat} {k i sz t i1 i2 i3 v1 v2 v3 u1 u2 u3 : Int} (kp : Kp W h h1) (cc : ∀ j, inW W c j = false) (e1 : h1.2.2 c i1.toNat = v1) (w1 : w32 v1 = u1) (e2 : h1.2.2 c i2.toNat = v2) (w2 : w32 v2 = u2) (e3 : h1.2.2 c i3.toNat = v3) (w3 : w32 v3 = u3) (h1' : i1 = 60 * k + (i + 3 * t)) (h2' : i2 = i1 + 1) (h3' : i3 = i1 + 2) (a : 0 ≤ i + 3 * t) (b : i + 3 * t + 2 < sz) (d : dOk3 u1 u2 u3) : Good h c k i sz t := by
  refine ⟨a, b, ?_⟩
  rw [← h1', show i1 + 1 = i2 by omega, show i1 + 2 = i3 by omega, ← kp.v (cc _), ← kp.v (cc _), ← kp.v (cc _), e1, e2, e3, w1, w2, w3]
  exact d
def DA (h : JH) (c : Nat) (k i sz n r : Int) : Prop := 0 ≤ r ∧ r ≤ n ∧ (∀ t : Int, 0 ≤ t → t < r → Good h c k i sz t) ∧ (r < n → ¬ Good h c k i sz r)
def DaC (h : JH) (k i n r : Int) : Prop := (¬ (0 ≤ k ∧ k ≤ 5 ∧ 1 ≤ n ∧ n ≤ 20) ∧ r = -1) ∨ ((0 ≤ k ∧ k ≤ 5 ∧ 1 ≤ n ∧ n ≤ 20) ∧ ((h.2.2 37 k.toNat = -1 ∧ r = 0) ∨ (h.2.2 37 k.toNat = 1 ∧ DA h 39 k i (h.2.2 38 k.toNat) n r) ∨ (h.2.2 37 k.toNat ≠ -1 ∧ h.2.2 37 k.toNat ≠ 1 ∧ r = -12)))
def DaR (h : JH) (k i n r : Int) : Prop := (¬ (0 ≤ k ∧ k ≤ 5 ∧ 1 ≤ n ∧ n ≤ 20) ∧ r = -1) ∨ ((0 ≤ k ∧ k ≤ 5 ∧ 1 ≤ n ∧ n ≤ 20) ∧ ((h.2.2 79 k.toNat = -1 ∧ r = 0) ∨ (h.2.2 79 k.toNat = -3 ∧ DA h 81 k i (h.2.2 80 k.toNat) n r) ∨ (h.2.2 79 k.toNat ≠ -1 ∧ h.2.2 79 k.toNat ≠ -3 ∧ r = -12)))
theorem DA.eq {h : JH} {k i sz n r1 r2 : Int} (e : ∀ t, 0 ≤ t → (Good h 39 k i sz t ↔ Good h 81 k i sz t)) (x : DA h 39 k i sz n r1) (y : DA h 81 k i sz n r2) : r1 = r2 := by
  obtain ⟨x0, x1, x2, x3⟩ := x
  obtain ⟨y0, y1, y2, y3⟩ := y
  rcases Int.lt_trichotomy r1 r2 with z | z | z
  · exact absurd ((e r1 x0).mpr (y2 r1 x0 z)) (x3 (by omega))
  · exact z
  · exact absurd ((e r2 y0).mp (x2 r2 y0 z)) (y3 (by omega))
theorem R0.days {h : JH} (x : R0 h) (hz : ∀ s : Nat, s < 6 → h.2.2 38 s ≤ 60) {k i n r1 r2 : Int} (f1 : DaC h k i n r1) (f2 : DaR h k i n r2) : r1 = r2 := by
  rcases f1 with ⟨n1, q1⟩ | ⟨t1, f1⟩
  · rcases f2 with ⟨_, q2⟩ | ⟨t2, _⟩
    · exact q1.trans q2.symm
    · exact absurd t2 n1
  · rcases f2 with ⟨n2, _⟩ | ⟨_, f2⟩
    · exact absurd t1 n2
    · have w := x.sh t1.1 t1.2.1
      unfold Sh at w
      rcases f1 with ⟨a, b⟩ | ⟨a, b⟩ | ⟨a, b, c⟩
      · rcases f2 with ⟨a', b'⟩ | ⟨a', b'⟩ | ⟨a', b', c'⟩ <;> omega
      · rcases f2 with ⟨a', b'⟩ | ⟨a', b'⟩ | ⟨a', b', c'⟩
        · omega
        · rw [show h.2.2 80 k.toNat = h.2.2 38 k.toNat by omega] at b'
          refine DA.eq (fun t t0 => ?_) b b'
          have g : ∀ j : Int, 0 ≤ j → j < h.2.2 38 k.toNat → h.2.2 39 (60 * k + j).toNat = h.2.2 81 (60 * k + j).toNat := fun j j0 j1 => by
            have := x.2.2 k.toNat (by omega) (by omega) (by omega) j.toNat (by omega)
            rw [show (60 * k + j).toNat = 60 * k.toNat + j.toNat by omega]
            exact this
          unfold Good
          refine ⟨fun z => ⟨z.1, z.2.1, ?_⟩, fun z => ⟨z.1, z.2.1, ?_⟩⟩
          · have := z.2.2
            rw [show 60 * k + (i + 3 * t) + 1 = 60 * k + (i + 3 * t + 1) by omega, show 60 * k + (i + 3 * t) + 2 = 60 * k + (i + 3 * t + 2) by omega] at this ⊢
            rw [g _ (by omega) (by omega), g _ (by omega) (by omega), g _ (by omega) (by omega)] at this
            exact this
          · have := z.2.2
            rw [show 60 * k + (i + 3 * t) + 1 = 60 * k + (i + 3 * t + 1) by omega, show 60 * k + (i + 3 * t) + 2 = 60 * k + (i + 3 * t + 2) by omega] at this ⊢
            rw [g _ (by omega) (by omega), g _ (by omega) (by omega), g _ (by omega) (by omega)]
            exact this
        · omega
      · rcases f2 with ⟨a', b'⟩ | ⟨a', b'⟩ | ⟨a', b', c'⟩ <;> omega
/-! days -/
def DE (h h' : JH) (c a b d : Nat) (k i r : Int) : Prop := ∀ j : Nat, ((j : Int) < r → h'.2.2 a j = w32 (h.2.2 c (60 * k + (i + 3 * (j : Int))).toNat) ∧ h'.2.2 b j = w32 (h.2.2 c (60 * k + (i + 3 * (j : Int)) + 1).toNat) ∧ h'.2.2 d j = w32 (h.2.2 c (60 * k + (i + 3 * (j : Int)) + 2).toNat)) ∧ (r ≤ (j : Int) → h'.2.2 a j = h.2.2 a j ∧ h'.2.2 b j = h.2.2 b j ∧ h'.2.2 d j = h.2.2 d j)
theorem DE.start {h : JH} {c a b d : Nat} {k i r : Int} (hr : r ≤ 0) : DE h h c a b d k i r := fun j => ⟨fun z => by omega, fun _ => ⟨rfl, rfl, rfl⟩⟩
theorem DE.to {h h' : JH} {c a b d : Nat} {k i r s : Int} (x : DE h h' c a b d k i r) (e : r = s) : DE h h' c a b d k i s := e ▸ x
theorem DE.step {W : List (Nat × Nat)} {h h1 h2 h3 h4 : JH} {c a b d : Nat} {k i x i1 i2 i3 v1 v2 v3 u1 u2 u3 : Int} (z : DE h h1 c a b d k i x) (x0 : 0 ≤ x) (hab : a ≠ b) (had : a ≠ d) (hbd : b ≠ d) (kp : Kp W h h1) (cc : ∀ j, inW W c j = false) (e1 : h1.2.2 c i1.toNat = v1) (w1 : w32 v1 = u1) (e2 : h1.2.2 c i2.toNat = v2) (w2 : w32 v2 = u2) (e3 : h1.2.2 c i3.toNat = v3) (w3 : w32 v3 = u3) (h1' : i1 = 60 * k + (i + 3 * x)) (h2' : i2 = i1 + 1) (h3' : i3 = i1 + 2) (ea : h2 = jwr h1 a x.toNat u1) (eb : h3 = jwr h2 b x.toNat u2) (ed : h4 = jwr h3 d x.toNat u3) : DE h h4 c a b d k i (x + 1) := by
  intro j
  have va : h4.2.2 a j = if j = x.toNat then u1 else h1.2.2 a j := by
    rw [jw_ne ed (Or.inl had), jw_ne eb (Or.inl hab)]
    by_cases r : j = x.toNat
    · rw [if_pos r, r]; exact jw_eq ea
    · rw [if_neg r]; exact jw_ne ea (Or.inr r)
  have vb : h4.2.2 b j = if j = x.toNat then u2 else h1.2.2 b j := by
    rw [jw_ne ed (Or.inl hbd)]
    by_cases r : j = x.toNat
    · rw [if_pos r, r]; exact jw_eq eb
    · rw [if_neg r, jw_ne eb (Or.inr r)]; exact jw_ne ea (Or.inl (Ne.symm hab))
  have vd : h4.2.2 d j = if j = x.toNat then u3 else h1.2.2 d j := by
    by_cases r : j = x.toNat
    · rw [if_pos r, r]; exact jw_eq ed
    · rw [if_neg r, jw_ne ed (Or.inr r), jw_ne eb (Or.inl (Ne.symm hbd))]; exact jw_ne ea (Or.inl (Ne.symm had))
  rw [va, vb, vd]
  by_cases r : j = x.toNat
  · rw [if_pos r, if_pos r, if_pos r]
    refine ⟨fun _ => ?_, fun q => by omega⟩
    rw [show 60 * k + (i + 3 * (j : Int)) = i1 by omega, show i1 + 1 = i2 by omega, show i1 + 2 = i3 by omega, ← kp.v (cc _), ← kp.v (cc _), ← kp.v (cc _), e1, e2, e3, w1, w2, w3]
    exact ⟨rfl, rfl, rfl⟩
  · rw [if_neg r, if_neg r, if_neg r]
    exact ⟨fun q => (z j).1 (by omega), fun q => (z j).2 (by omega)⟩
def Dy (h : JH) : Prop := ∀ j : Nat, j < 20 → h.2.2 34 j = h.2.2 74 j ∧ h.2.2 35 j = h.2.2 75 j ∧ h.2.2 36 j = h.2.2 76 j
def Cd : List (Nat × Nat) := [(34, 0), (35, 0), (36, 0), (74, 0), (75, 0), (76, 0)]
theorem Dy.fr {h h' : JH} (x : Dy h) (e : ∀ a i, inW Cd a i = true → h'.2.2 a i = h.2.2 a i) : Dy h' := fun j hj => by
  rw [e 34 _ rfl, e 35 _ rfl, e 36 _ rfl, e 74 _ rfl, e 75 _ rfl, e 76 _ rfl]
  exact x j hj
theorem Dy.kp {W : List (Nat × Nat)} {h h' : JH} (x : Dy h) (k : Kp W h h') (hd : dsj Cd W = true) : Dy h' := x.fr (fun a i hc => k.v (dsj_at hd hc).2)
theorem Dy.kx {W : List (Nat × Nat)} {h h' : JH} (x : Dy h) (k : Kx W h h') (hd : dsj Cd W = true) (h83 : 83 ≤ h.1) : Dy h' := x.fr (fun a i hc => k.2.2 a i (Nat.lt_of_lt_of_le (dsj_at hd hc).1 h83) (dsj_at hd hc).2)
def Cc : List (Nat × Nat) := C0 ++ Cd
def Rl (h : JH) : Prop := h.2.2 0 7 = h.2.2 42 28 ∧ (∀ s : Nat, s < 6 → Sh (h.2.2 37 s) (h.2.2 38 s) (h.2.2 79 s) (h.2.2 80 s)) ∧ El h ∧ Dy h
theorem Rl.r0 {h : JH} (x : Rl h) : R0 h := ⟨x.1, x.2.1, x.2.2.1⟩
theorem R0.rl {h : JH} (x : R0 h) (y : Dy h) : Rl h := ⟨x.1, x.2.1, x.2.2, y⟩
theorem dsj_l {C D W : List (Nat × Nat)} (h : dsj (C ++ D) W = true) : dsj C W = true ∧ dsj D W = true := by
  unfold dsj at h ⊢
  rw [List.all_append, Bool.and_eq_true] at h
  exact h
theorem Rl.kp {W : List (Nat × Nat)} {h h' : JH} (x : Rl h) (k : Kp W h h') (hd : dsj Cc W = true) : Rl h' := (x.r0.kp k (dsj_l hd).1).rl (x.2.2.2.kp k (dsj_l hd).2)
theorem Rl.kx {W : List (Nat × Nat)} {h h' : JH} (x : Rl h) (k : Kx W h h') (hd : dsj Cc W = true) (h83 : 83 ≤ h.1) : Rl h' := (x.r0.kx k (dsj_l hd).1 h83).rl (x.2.2.2.kx k (dsj_l hd).2 h83)
theorem Rl.keep {h h1 h2 : JH} {k f n r1 r2 : Int} (x : Rl h) (k1 : Kp [(37, 0), (38, 0)] h h1) (k2 : Kp [(79, 0)] h1 h2) (f1 : KeC h h1 k f n r1) (f2 : KeR h1 h2 k f n r2) : r1 = r2 ∧ Rl h2 := ⟨(x.r0.keep k1 k2 f1 f2).1, (x.r0.keep k1 k2 f1 f2).2.rl ((x.2.2.2.kp k1 (by decide)).kp k2 (by decide))⟩
theorem Rl.row {h h1 h2 : JH} {k o n : Int} (x : Rl h) (hz : ∀ s : Nat, s < 6 → h.2.2 38 s ≤ 60) (k1 : Kp [(37, 0), (38, 0), (39, 0)] h h1) (k2 : Kp [(79, 0), (80, 0), (81, 0)] h1 h2) (f1 : RoC h h1 k o n) (f2 : RoR h1 h2 k o n) : Rl h2 := (x.r0.row hz k1 k2 f1 f2).rl ((x.2.2.2.kp k1 (by decide)).kp k2 (by decide))
theorem Rl.put {h h1 h2 : JH} {k i v : Int} (x : Rl h) (hz : ∀ s : Nat, s < 6 → h.2.2 38 s ≤ 60) (k1 : Kp [(39, 0)] h h1) (k2 : Kp [(81, 0)] h1 h2) (f1 : PuC h h1 k i v) (f2 : PuR h1 h2 k i v) : Rl h2 := (x.r0.put hz k1 k2 f1 f2).rl ((x.2.2.2.kp k1 (by decide)).kp k2 (by decide))
theorem Rl.shift {h h1 h2 : JH} {k i o j n : Int} (x : Rl h) (hz : ∀ s : Nat, s < 6 → h.2.2 38 s ≤ 60) (k1 : Kp [(39, 0)] h h1) (k2 : Kp [(81, 0), (82, 0)] h1 h2) (f1 : SfC h h1 k i o j n) (f2 : SfR h1 h2 k i o j n) : Rl h2 := (x.r0.shift hz k1 k2 f1 f2).rl ((x.2.2.2.kp k1 (by decide)).kp k2 (by decide))
theorem Rl.feel {h h1 h2 : JH} (x : Rl h) (h83 : 83 ≤ h.1) (k1 : Kx [(0, 8), (24, 0)] h h1) (k2 : Kp [(42, 29), (60, 0), (61, 0)] h1 h2) (e : h2.2.2 0 7 = h2.2.2 42 28) : Rl h2 := (x.r0.feel h83 k1 k2 e).rl ((x.2.2.2.kx k1 (by decide) h83).kp k2 (by decide))
def DV (k o c p : Int) : Prop := 0 ≤ k ∧ k ≤ 19 ∧ 0 ≤ o ∧ o ≤ 999 ∧ 0 ≤ c ∧ c ≤ 100 ∧ 0 ≤ p ∧ p ≤ 99
def DyE (h h' : JH) (a b d : Nat) (k o c p : Int) : Prop := (¬ DV k o c p ∧ Sm h h' a ∧ Sm h h' b ∧ Sm h h' d) ∨ (DV k o c p ∧ Up h h' a k o ∧ Up h h' b k c ∧ Up h h' d k p)
theorem Rl.day {h h1 h2 : JH} {k o c p : Int} (x : Rl h) (k1 : Kp [(34, 0), (35, 0), (36, 0)] h h1) (k2 : Kp [(74, 0), (75, 0), (76, 0)] h1 h2) (f1 : DyE h h1 34 35 36 k o c p) (f2 : DyE h1 h2 74 75 76 k o c p) : Rl h2 := by
  refine ((x.r0.kp k1 (by decide)).kp k2 (by decide)).rl (fun j hj => ?_)
  rw [k2.v (a := 34) rfl, k2.v (a := 35) rfl, k2.v (a := 36) rfl]
  have e4 : ∀ j, h1.2.2 74 j = h.2.2 74 j := fun j => k1.v rfl
  have e5 : ∀ j, h1.2.2 75 j = h.2.2 75 j := fun j => k1.v rfl
  have e6 : ∀ j, h1.2.2 76 j = h.2.2 76 j := fun j => k1.v rfl
  have y := x.2.2.2 j hj
  rcases f1 with ⟨n1, a1, b1, d1⟩ | ⟨t1, a1, b1, d1⟩
  · rcases f2 with ⟨_, a2, b2, d2⟩ | ⟨t2, _⟩
    · rw [a1, b1, d1, a2, b2, d2, e4, e5, e6]; exact y
    · exact absurd t2 n1
  · rcases f2 with ⟨n2, _⟩ | ⟨_, a2, b2, d2⟩
    · exact absurd t1 n2
    · rcases Decidable.em (j = k.toNat) with z | z
      · rw [z, a1.1, b1.1, d1.1, a2.1, b2.1, d2.1]; exact ⟨rfl, rfl, rfl⟩
      · rw [a1.2 j z, b1.2 j z, d1.2 j z, a2.2 j z, b2.2 j z, d2.2 j z, e4, e5, e6]; exact y
theorem DaC.good {h : JH} {k i n r t : Int} (f : DaC h k i n r) (t0 : 0 ≤ t) (t1 : t < r) : 0 ≤ k ∧ k ≤ 5 ∧ h.2.2 37 k.toNat = 1 ∧ Good h 39 k i (h.2.2 38 k.toNat) t := by
  rcases f with ⟨_, q⟩ | ⟨a, f⟩
  · omega
  · rcases f with ⟨_, q⟩ | ⟨e, q⟩ | ⟨_, _, q⟩
    · omega
    · exact ⟨a.1, a.2.1, e, q.2.2.1 t t0 t1⟩
    · omega
theorem Rl.daysE {h h1 h2 : JH} {k i n r1 r2 : Int} (x : Rl h) (hz : ∀ s : Nat, s < 6 → h.2.2 38 s ≤ 60) (k1 : Kp [(34, 0), (35, 0), (36, 0)] h h1) (k2 : Kp [(74, 0), (75, 0), (76, 0)] h1 h2) (f1 : DaC h k i n r1) (f2 : DaR h k i n r2) (g1 : DE h h1 39 34 35 36 k i r1) (g2 : DE h1 h2 81 74 75 76 k i r2) : Rl h2 := by
  have er := R0.days x.r0 hz f1 f2
  subst er
  refine ((x.r0.kp k1 (by decide)).kp k2 (by decide)).rl (fun j hj => ?_)
  rw [k2.v (a := 34) rfl, k2.v (a := 35) rfl, k2.v (a := 36) rfl]
  have e4 : ∀ j, h1.2.2 74 j = h.2.2 74 j := fun j => k1.v rfl
  have e5 : ∀ j, h1.2.2 75 j = h.2.2 75 j := fun j => k1.v rfl
  have e6 : ∀ j, h1.2.2 76 j = h.2.2 76 j := fun j => k1.v rfl
  have e1 : ∀ j, h1.2.2 81 j = h.2.2 81 j := fun j => k1.v rfl
  rcases Int.lt_or_le (j : Int) r1 with z | z
  · obtain ⟨a1, b1, d1⟩ := (g1 j).1 z
    obtain ⟨a2, b2, d2⟩ := (g2 j).1 z
    obtain ⟨p0, p1, p2, p3, p4, _⟩ := f1.good (t := (j : Int)) (by omega) z
    have el := x.2.2.1 k.toNat (by omega) (by omega) (by omega)
    have q : ∀ m : Int, 0 ≤ m → m < h.2.2 38 k.toNat → h.2.2 39 (60 * k + m).toNat = h.2.2 81 (60 * k + m).toNat := fun m m0 m1 => by
      have := el m.toNat (by omega)
      rw [show (60 * k + m).toNat = 60 * k.toNat + m.toNat by omega]
      exact this
    rw [a1, b1, d1, a2, b2, d2, e1, e1, e1, q _ p3 (by omega), show 60 * k + (i + 3 * (j : Int)) + 1 = 60 * k + (i + 3 * (j : Int) + 1) by omega, show 60 * k + (i + 3 * (j : Int)) + 2 = 60 * k + (i + 3 * (j : Int) + 2) by omega, q _ (by omega) (by omega), q _ (by omega) p4]
    exact ⟨rfl, rfl, rfl⟩
  · obtain ⟨a1, b1, d1⟩ := (g1 j).2 z
    obtain ⟨a2, b2, d2⟩ := (g2 j).2 z
    rw [a1, b1, d1, a2, b2, d2, e4, e5, e6]
    exact x.2.2.2 j hj
/-! what waiting is worth -/
def sv (o c p v : Int) : Int := (c * (if 1000000 * o ≤ v - 1000000 * p then v - 1000000 * p else 1000000 * o) + (100 - c) * (v - 1000000 * p)) / 100
def wv (h : JH) (a b d : Nat) (m c : Int) : Nat → Int
  | 0 => 1000000 * c
  | j + 1 => sv (h.2.2 a (m - 1 - (j : Int)).toNat) (h.2.2 b (m - 1 - (j : Int)).toNat) (h.2.2 d (m - 1 - (j : Int)).toNat) (wv h a b d m c j)
theorem wv_step {W : List (Nat × Nat)} {h h1 : JH} {a b d : Nat} {m c x k k' o cc p v1 v2 r bt c2 w2 : Int} (H : x = wv h a b d m c (m - 1 - k).toNat) (k0 : 0 ≤ k) (km : k ≤ m - 1) (hk : k' = k - 1) (kp : Kp W h h1) (ca : ∀ j, inW W a j = false) (cb : ∀ j, inW W b j = false) (cd : ∀ j, inW W d j = false) (eo : h1.2.2 a k.toNat = o) (ec : h1.2.2 b k.toNat = cc) (ep : h1.2.2 d k.toNat = p) (hb : bt = if 1000000 * o ≤ x - 1000000 * p then x - 1000000 * p else 1000000 * o) (e1 : cc * bt = v1) (e2 : c2 * w2 = v2) (h2 : c2 = 100 - cc) (hw : w2 = x - 1000000 * p) (er : r = (v1 + v2) / 100) : r = wv h a b d m c (m - 1 - k').toNat := by
  subst h2
  subst hw
  rw [hk, show (m - 1 - (k - 1)).toNat = (m - 1 - k).toNat + 1 by omega]
  show r = sv _ _ _ _
  rw [show m - 1 - (((m - 1 - k).toNat : Nat) : Int) = k by omega, ← H, ← kp.v (ca _), ← kp.v (cb _), ← kp.v (cd _), eo, ec, ep]
  unfold sv
  rw [← hb, e1, e2]
  exact er
theorem wv_eq {h : JH} (y : Dy h) {m c : Int} (m1 : 1 ≤ m) (m2 : m ≤ 20) (j : Nat) : wv h 34 35 36 m c j = wv h 74 75 76 m c j := by
  induction j with
  | zero => rfl
  | succ j ih =>
    show sv _ _ _ _ = sv _ _ _ _
    obtain ⟨e1, e2, e3⟩ := y (m - 1 - (j : Int)).toNat (by omega)
    rw [e1, e2, e3, ih]
theorem mul_bd {c b K B : Int} (c0 : 0 ≤ c) (c1 : c ≤ K) (b0 : -B ≤ b) (b1 : b ≤ B) : -(K * B) ≤ c * b ∧ c * b ≤ K * B := by
  have h1 : c * b ≤ c * B := Int.mul_le_mul_of_nonneg_left b1 c0
  have h2 : c * -B ≤ c * b := Int.mul_le_mul_of_nonneg_left b0 c0
  have h3 : c * B ≤ K * B := Int.mul_le_mul_of_nonneg_right c1 (by omega)
  rw [Int.mul_neg] at h2
  omega
theorem sv_bd {c w bt v1 v2 B c2 w2 : Int} (c0 : 0 ≤ c) (c1 : c ≤ 100) (hb : w ≤ bt) (bB : bt ≤ B) (e1 : c * bt = v1) (e2 : c2 * w2 = v2) (h2 : c2 = 100 - c) (hw : w2 = w) : 100 * w ≤ v1 + v2 ∧ v1 + v2 ≤ 100 * B := by
  subst h2
  subst hw
  have h1 : c * w2 ≤ c * bt := Int.mul_le_mul_of_nonneg_left hb c0
  have h2 : c * bt ≤ c * B := Int.mul_le_mul_of_nonneg_left bB c0
  have h3 : (100 - c) * w2 ≤ (100 - c) * B := Int.mul_le_mul_of_nonneg_left (by omega) (by omega)
  rw [Int.sub_mul] at h3 e2
  rw [Int.sub_mul] at h3
  omega
def brF (w : Int) : Int := if -((-w) / 1000000) < 0 then 0 else if 1000 < -((-w) / 1000000) then 1000 else -((-w) / 1000000)
def WV (d c w : Int) : Prop := 0 ≤ d ∧ 1 ≤ d % 100 ∧ d % 100 ≤ 20 ∧ d / 100 < d % 100 ∧ -999 ≤ c ∧ c ≤ 999 ∧ 0 ≤ w ∧ w ≤ 1
def Wai (h : JH) (a b e : Nat) (d c w r : Int) : Prop := (¬ WV d c w ∧ r = -9223372036854775808) ∨ (WV d c w ∧ w = 0 ∧ r = brF (wv h a b e (d % 100) c (d % 100 - 1 - d / 100).toNat - 1000000 * h.2.2 e (d / 100).toNat)) ∨ (WV d c w ∧ w = 1 ∧ r = wv h a b e (d % 100) c (d % 100 - d / 100).toNat)
theorem Wai.eq {h : JH} {d c w r1 r2 : Int} (x : Rl h) (f1 : Wai h 34 35 36 d c w r1) (f2 : Wai h 74 75 76 d c w r2) : r1 = r2 := by
  rcases f1 with ⟨n1, q1⟩ | ⟨t1, w1, q1⟩ | ⟨t1, w1, q1⟩
  · rcases f2 with ⟨_, q2⟩ | ⟨t2, _⟩ | ⟨t2, _⟩
    · rw [q1, q2]
    · exact absurd t2 n1
    · exact absurd t2 n1
  · rcases f2 with ⟨n2, _⟩ | ⟨_, _, q2⟩ | ⟨_, w2, _⟩
    · exact absurd t1 n2
    · unfold WV at t1
      obtain ⟨_, _, e3⟩ := x.2.2.2 (d / 100).toNat (by omega)
      rw [q1, q2, wv_eq x.2.2.2 (by omega) (by omega), e3]
    · omega
  · rcases f2 with ⟨n2, _⟩ | ⟨_, w2, _⟩ | ⟨_, _, q2⟩
    · exact absurd t1 n2
    · omega
    · unfold WV at t1
      rw [q1, q2, wv_eq x.2.2.2 (by omega) (by omega)]
theorem t378 {G : GH} {h : JH} (g : Gd G h) {a0 : Int} (la0 : (-9223372036854775808) ≤ a0) (ua0 : a0 ≤ 9223372036854775807) {a1 : Int} (la1 : 1 ≤ a1) (ua1 : a1 ≤ 9223372036854775807) : jOk 1 0 0 378 [(1, a0), (1, a1)] h (fun v h' => ∃ r : Int, v = some (1, r) ∧ Gd G h' ∧ Kp [] h h' ∧ (-9223372036854775808) ≤ r ∧ r ≤ 9223372036854775807 ∧ r = a0 / a1) := by
  refine ⟨by decide, by rw [ml378]; exact Nat.le_of_ble_eq_true rfl, ?_⟩
  rw [ml378, pp378]
  show jEv _ none _ c378_0 0 0 _ (c378_0, [(1, a0), (9, 0), (1, a1), (9, 0), (9, 0), (9, 0)], [], h, 0, 0)
  have b := jidiv_b (x := a0) (y := a1) (by omega)
  have td : a0.tdiv a1 = a0 / a1 + if 0 ≤ a0 ∨ a1 ∣ a0 then 0 else 1 := by
    rw [Int.tdiv_eq_ediv, Int.sign_eq_one_of_pos (show 0 < a1 by omega)]
  have rq : -9223372036854775808 ≤ a0.tdiv a1 ∧ a0.tdiv a1 ≤ 9223372036854775807 := by
    rcases Int.le_total 0 a0 with z | z
    · have := b.1 z; omega
    · have := b.2 z; omega
  refine ev_lload_n rfl ?_
  refine ev_lload_n rfl ?_
  refine ev_ldiv (r := a0.tdiv a1) (by omega) (jw64_id (by omega) (by omega)) ?_
  refine ev_lstore (L' := [(1, a0), (9, 0), (1, a1), (9, 0), (1, a0.tdiv a1), (9, 0)]) (Nat.le_of_ble_eq_true rfl) rfl ?_
  refine ev_lload_n rfl ?_
  refine ev_lload_n rfl ?_
  refine ev_lxor (r := jxorL a0 a1) rfl ?_
  refine ev_lconst ?_
  refine ev_lcmp ?_
  have xs := jxorL_neg la0 ua0 (show -9223372036854775808 ≤ a1 by omega) ua1
  refine ev_ifge f378_27 (fun c => ?_) (fun c => ?_)
  · have cb : 0 ≤ jxorL a0 a1 := jcmpL_ge c
    have sg : a0 < 0 ↔ a1 < 0 := Decidable.not_not.mp (fun z => absurd (xs.mpr z) (by omega))
    refine ev_lload rfl ?_
    refine ev_ret rfl (by decide) (by decide) ⟨_, rfl, g, Kp.rf _ _, rq.1, rq.2, ?_⟩
    rw [td, if_pos (Or.inl (by omega))]
    omega
  · have cb : jxorL a0 a1 < 0 := jcmpL_geN c
    have sg := xs.mp cb
    have an : a0 < 0 := by omega
    have mb : -9223372036854775808 ≤ a0.tdiv a1 * a1 ∧ a0.tdiv a1 * a1 ≤ 9223372036854775807 := by
      have e := Int.tdiv_mul_add_tmod a0 a1
      have t := jtmod_abs a0 a1 (by omega)
      omega
    refine ev_lload rfl ?_
    refine ev_lload_n rfl ?_
    refine ev_lmul (r := a0.tdiv a1 * a1) (jw64_id (by omega) (by omega)) ?_
    refine ev_lload_n rfl ?_
    refine ev_lcmp ?_
    refine ev_ifeq f378_27 (fun c2 => ?_) (fun c2 => ?_)
    · have e2 : a0.tdiv a1 * a1 = a0 := jcmpL_eq c2
      refine ev_lload rfl ?_
      refine ev_ret rfl (by decide) (by decide) ⟨_, rfl, g, Kp.rf _ _, rq.1, rq.2, ?_⟩
      rw [td, if_pos (Or.inr ⟨a0.tdiv a1, by rw [Int.mul_comm]; exact e2.symm⟩)]
      omega
    · have e2 : a0.tdiv a1 * a1 ≠ a0 := jcmpL_eqN c2
      have nd : ¬ (0 ≤ a0 ∨ a1 ∣ a0) := fun z => by
        rcases z with z | z
        · omega
        · exact e2 (Int.tdiv_mul_cancel z)
      have q1 : -9223372036854775808 ≤ a0.tdiv a1 - 1 := by
        rw [td, if_neg nd]
        have : -9223372036854775808 ≤ a0 / a1 := by
          have e := Int.mul_ediv_add_emod a0 a1
          have m := Int.emod_nonneg a0 (show a1 ≠ 0 by omega)
          have n : a0 / a1 < 0 := Int.ediv_neg_of_neg_of_pos an (by omega)
          have p : a1 * (a0 / a1) ≤ 1 * (a0 / a1) := Int.mul_le_mul_of_nonpos_right (by omega) (by omega)
          have w := Int.emod_lt_of_pos a0 (show 0 < a1 by omega)
          rcases Int.le_total a1 1 with y | y
          · have : a1 = 1 := by omega
            subst this
            omega
          · have p2 : a1 * (a0 / a1) ≤ 2 * (a0 / a1) ∨ a1 = 1 := by
              rcases Decidable.em (a1 = 1) with r | r
              · exact Or.inr r
              · exact Or.inl (Int.mul_le_mul_of_nonpos_right (by omega) (by omega))
            rcases p2 with p2 | p2
            · have b2 := b.2 (by omega)
              rw [td, if_neg nd] at b2
              omega
            · subst p2
              omega
        omega
      refine ev_lload rfl ?_
      refine ev_lconst ?_
      refine ev_lsub (r := a0.tdiv a1 - 1) (jw64_id (by omega) (by omega)) ?_
      refine ev_ret rfl (by decide) (by decide) ⟨_, rfl, g, Kp.rf _ _, q1, by omega, ?_⟩
      rw [td, if_neg nd]
      omega
set_option maxHeartbeats 4000000 in
theorem t238_l {G : GH} {h : JH} {a1 : Int} (la1 : 0 ≤ a1) (ua1 : a1 ≤ 5) {a2 : Int} (la2 : (-2147483648) ≤ a2) (ua2 : a2 ≤ 2147483647) {a3 : Int} (la3 : 1 ≤ a3) (ua3 : a3 ≤ 20) : ∀ N : Nat, (∀ (h1 : JH) (x4 x5 : Int) (j6 j7 j8 j9 : AV), Gd G h1 → Kp [(34, 0), (35, 0), (36, 0)] h h1 → 0 ≤ a1 → a1 ≤ 5 → (-2147483648) ≤ a2 → a2 ≤ 2147483647 → 1 ≤ a3 → a3 ≤ 20 → 0 ≤ x4 → x4 ≤ 20 → (-2147483648) ≤ x5 → x5 ≤ 2147483647 → ((-a2) + (-3) * x4 + x5) ≤ 0 → (a2 + 3 * x4 + (-x5)) ≤ 0 → ((-a3) + x4) ≤ 0 → (∀ t : Int, 0 ≤ t → t < x4 → Good h 39 a1 a2 (h.2.2 38 (a1).toNat) t) → DE h h1 39 34 35 36 a1 a2 x4 → ((-x4) + 20) < N → jEv (jOk 1) none (fun _ => 0) c238_0 0 0 (fun v h' => ∃ r : Int, v = some (0, r) ∧ Gd G h' ∧ Kp [(34, 0), (35, 0), (36, 0)] h h' ∧ (DA h 39 a1 a2 (h.2.2 38 (a1).toNat) a3 r) ∧ DE h h' 39 34 35 36 a1 a2 r) (c238_6, [(2, 0), (0, a1), (0, a2), (0, a3), (0, x4), (0, x5), j6, j7, j8, j9], [], h1, 0, 0)) := by
  intro N
  induction N with
  | zero => exact fun h1 x4 x5 j6 j7 j8 j9 g1 k1 b0 b1 b2 b3 b4 b5 b6 b7 b8 b9 b10 b11 b12 b13 b14 hm => absurd hm (by omega)
  | succ N ih =>
    show _
    intro h1 x4 x5 j6 j7 j8 j9 g1 k1 b0 b1 b2 b3 b4 b5 b6 b7 b8 b9 b10 b11 b12 H0 H1 hm
    refine ev_iload rfl ?_
    refine ev_iload_n rfl ?_
    refine ev_icmpge f238_112 (fun c79351 => ?_) (fun c79351 => ?_)
    · refine ev_iload rfl ?_
      exact ev_ret rfl (by decide) (by decide) ⟨_, rfl, g1, k1, ⟨⟨by omega, by omega, fun t t0 t1 => H0 t t0 (by omega), fun hr => fun z => by have z1 := z.1; have z2 := z.2.1; omega⟩, H1.to (by omega)⟩⟩
    · refine ev_iload rfl ?_
      refine ev_iflt f238_112 (fun c79352 => ?_) (fun c79352 => ?_)
      · refine ev_iload rfl ?_
        exact ev_ret rfl (by decide) (by decide) ⟨_, rfl, g1, k1, ⟨⟨by omega, by omega, fun t t0 t1 => H0 t t0 (by omega), fun hr => fun z => by have z1 := z.1; have z2 := z.2.1; omega⟩, H1.to (by omega)⟩⟩
      · refine ev_iload rfl ?_
        refine ev_aload_n rfl ?_
        refine g_getp (r := 0) (c := 38) g1 ad0 (by decide) (by decide) rf0_13 ft11_13 ?_
        refine ev_iload_n rfl ?_
        refine g_iald g1 ad38 rt38 (by omega) (by omega) (fun v79353 ev79353 lv79353 uv79353 => ?_)
        refine ev_iconst ?_
        refine ev_isub (r := (v79353 - 3)) (by unfold w32; omega) ?_
        refine ev_icmpgt f238_112 (fun c79354 => ?_) (fun c79354 => ?_)
        · refine ev_iload rfl ?_
          exact ev_ret rfl (by decide) (by decide) ⟨_, rfl, g1, k1, ⟨⟨by omega, by omega, fun t t0 t1 => H0 t t0 (by omega), fun hr => fun z => by have z1 := z.1; have z2 := z.2.1; rw [((k1.v (a := 38) (i := (a1).toNat) rfl).symm.trans (ev79353))] at z2; omega⟩, H1.to (by omega)⟩⟩
        · refine ev_bipush ?_
          refine ev_iload_n rfl ?_
          refine ev_imul (r := (60 * a1)) (by unfold w32; omega) ?_
          refine ev_iload rfl ?_
          refine ev_iadd (r := (60 * a1 + x5)) (by unfold w32; omega) ?_
          refine ev_istore (L' := [(2, 0), (0, a1), (0, a2), (0, a3), (0, x4), (0, x5), (0, (60 * a1 + x5)), j7, j8, j9]) (Nat.le_of_ble_eq_true rfl) rfl ?_
          refine ev_aload_n rfl ?_
          refine g_getp (r := 0) (c := 39) g1 ad0 (by decide) (by decide) rf0_14 ft11_14 ?_
          refine ev_iload rfl ?_
          refine g_lald g1 ad39 rt39 (by omega) (by omega) (fun v79355 ev79355 lv79355 uv79355 => ?_)
          refine g_l2iG (fun v79356 ev79356 lv79356 uv79356 => ?_)
          refine ev_istore (L' := [(2, 0), (0, a1), (0, a2), (0, a3), (0, x4), (0, x5), (0, (60 * a1 + x5)), (0, v79356), j8, j9]) (Nat.le_of_ble_eq_true rfl) rfl ?_
          refine ev_aload_n rfl ?_
          refine g_getp (r := 0) (c := 39) g1 ad0 (by decide) (by decide) rf0_14 ft11_14 ?_
          refine ev_iload rfl ?_
          refine ev_iconst ?_
          refine ev_iadd (r := (60 * a1 + x5 + 1)) (by unfold w32; omega) ?_
          refine g_lald g1 ad39 rt39 (by omega) (by omega) (fun v79357 ev79357 lv79357 uv79357 => ?_)
          refine g_l2iG (fun v79358 ev79358 lv79358 uv79358 => ?_)
          refine ev_istore (L' := [(2, 0), (0, a1), (0, a2), (0, a3), (0, x4), (0, x5), (0, (60 * a1 + x5)), (0, v79356), (0, v79358), j9]) (Nat.le_of_ble_eq_true rfl) rfl ?_
          refine ev_aload_n rfl ?_
          refine g_getp (r := 0) (c := 39) g1 ad0 (by decide) (by decide) rf0_14 ft11_14 ?_
          refine ev_iload rfl ?_
          refine ev_iconst ?_
          refine ev_iadd (r := (60 * a1 + x5 + 2)) (by unfold w32; omega) ?_
          refine g_lald g1 ad39 rt39 (by omega) (by omega) (fun v79359 ev79359 lv79359 uv79359 => ?_)
          refine g_l2iG (fun v79360 ev79360 lv79360 uv79360 => ?_)
          refine ev_istore (L' := [(2, 0), (0, a1), (0, a2), (0, a3), (0, x4), (0, x5), (0, (60 * a1 + x5)), (0, v79356), (0, v79358), (0, v79360)]) (Nat.le_of_ble_eq_true rfl) rfl ?_
          refine ev_iload rfl ?_
          refine ev_iload rfl ?_
          refine ev_iload rfl ?_
          refine ev_in (d := 0) (a := 0) (b := 0) (cd' := c134_0) (m := 3) (L0 := [(0, v79356), (0, v79358), (0, v79360)]) (jcall_s (A := [(0, v79360), (0, v79358), (0, v79356)]) (S' := []) (by decide) rfl (Nat.le_of_ble_eq_true rfl)) (by decide) ml134 pp134 (Nat.le_of_ble_eq_true rfl) rfl (by decide) (by decide) ?_
          refine ev_iload_n rfl ?_
          refine ev_iflt f134_35 (fun c79361 => ?_) (fun c79361 => ?_)
          · refine ev_iconst ?_
            refine ev_ret rfl (by decide) (by decide) ?_
            show jEv _ _ _ _ _ _ _ (_, [(2, 0), (0, a1), (0, a2), (0, a3), (0, x4), (0, x5), (0, (60 * a1 + x5)), (0, v79356), (0, v79358), (0, v79360)], [(0, 0)], _, _, _)
            refine ev_ifne f238_88 (fun c79362 => absurd c79362 (by omega)) (fun c79362 => ?_)
            refine ev_iload rfl ?_
            exact ev_ret rfl (by decide) (by decide) ⟨_, rfl, g1, k1, ⟨⟨by omega, by omega, fun t t0 t1 => H0 t t0 (by omega), fun hr => fun z => by have z1 := z.1; have z2 := z.2.1; rw [((k1.v (a := 38) (i := (a1).toNat) rfl).symm.trans (ev79353))] at z2; first | omega | (have z3 := Good.v z k1 (fun _ => rfl) ev79355 ev79356 ev79357 ev79358 ev79359 ev79360 (i1 := (60 * a1 + x5)) (i2 := (60 * a1 + x5 + 1)) (i3 := (60 * a1 + x5 + 2)) (by omega) (by omega) (by omega); unfold dOk3 at z3; omega)⟩, H1.to (by omega)⟩⟩
          · refine ev_iload_n rfl ?_
            refine ev_sipush ?_
            refine ev_icmpgt f134_35 (fun c79363 => ?_) (fun c79363 => ?_)
            · refine ev_iconst ?_
              refine ev_ret rfl (by decide) (by decide) ?_
              show jEv _ _ _ _ _ _ _ (_, [(2, 0), (0, a1), (0, a2), (0, a3), (0, x4), (0, x5), (0, (60 * a1 + x5)), (0, v79356), (0, v79358), (0, v79360)], [(0, 0)], _, _, _)
              refine ev_ifne f238_88 (fun c79364 => absurd c79364 (by omega)) (fun c79364 => ?_)
              refine ev_iload rfl ?_
              exact ev_ret rfl (by decide) (by decide) ⟨_, rfl, g1, k1, ⟨⟨by omega, by omega, fun t t0 t1 => H0 t t0 (by omega), fun hr => fun z => by have z1 := z.1; have z2 := z.2.1; rw [((k1.v (a := 38) (i := (a1).toNat) rfl).symm.trans (ev79353))] at z2; first | omega | (have z3 := Good.v z k1 (fun _ => rfl) ev79355 ev79356 ev79357 ev79358 ev79359 ev79360 (i1 := (60 * a1 + x5)) (i2 := (60 * a1 + x5 + 1)) (i3 := (60 * a1 + x5 + 2)) (by omega) (by omega) (by omega); unfold dOk3 at z3; omega)⟩, H1.to (by omega)⟩⟩
            · refine ev_iload_n rfl ?_
              refine ev_iflt f134_35 (fun c79365 => ?_) (fun c79365 => ?_)
              · refine ev_iconst ?_
                refine ev_ret rfl (by decide) (by decide) ?_
                show jEv _ _ _ _ _ _ _ (_, [(2, 0), (0, a1), (0, a2), (0, a3), (0, x4), (0, x5), (0, (60 * a1 + x5)), (0, v79356), (0, v79358), (0, v79360)], [(0, 0)], _, _, _)
                refine ev_ifne f238_88 (fun c79366 => absurd c79366 (by omega)) (fun c79366 => ?_)
                refine ev_iload rfl ?_
                exact ev_ret rfl (by decide) (by decide) ⟨_, rfl, g1, k1, ⟨⟨by omega, by omega, fun t t0 t1 => H0 t t0 (by omega), fun hr => fun z => by have z1 := z.1; have z2 := z.2.1; rw [((k1.v (a := 38) (i := (a1).toNat) rfl).symm.trans (ev79353))] at z2; first | omega | (have z3 := Good.v z k1 (fun _ => rfl) ev79355 ev79356 ev79357 ev79358 ev79359 ev79360 (i1 := (60 * a1 + x5)) (i2 := (60 * a1 + x5 + 1)) (i3 := (60 * a1 + x5 + 2)) (by omega) (by omega) (by omega); unfold dOk3 at z3; omega)⟩, H1.to (by omega)⟩⟩
              · refine ev_iload_n rfl ?_
                refine ev_bipush ?_
                refine ev_icmpgt f134_35 (fun c79367 => ?_) (fun c79367 => ?_)
                · refine ev_iconst ?_
                  refine ev_ret rfl (by decide) (by decide) ?_
                  show jEv _ _ _ _ _ _ _ (_, [(2, 0), (0, a1), (0, a2), (0, a3), (0, x4), (0, x5), (0, (60 * a1 + x5)), (0, v79356), (0, v79358), (0, v79360)], [(0, 0)], _, _, _)
                  refine ev_ifne f238_88 (fun c79368 => absurd c79368 (by omega)) (fun c79368 => ?_)
                  refine ev_iload rfl ?_
                  exact ev_ret rfl (by decide) (by decide) ⟨_, rfl, g1, k1, ⟨⟨by omega, by omega, fun t t0 t1 => H0 t t0 (by omega), fun hr => fun z => by have z1 := z.1; have z2 := z.2.1; rw [((k1.v (a := 38) (i := (a1).toNat) rfl).symm.trans (ev79353))] at z2; first | omega | (have z3 := Good.v z k1 (fun _ => rfl) ev79355 ev79356 ev79357 ev79358 ev79359 ev79360 (i1 := (60 * a1 + x5)) (i2 := (60 * a1 + x5 + 1)) (i3 := (60 * a1 + x5 + 2)) (by omega) (by omega) (by omega); unfold dOk3 at z3; omega)⟩, H1.to (by omega)⟩⟩
                · refine ev_iload_n rfl ?_
                  refine ev_iflt f134_35 (fun c79369 => ?_) (fun c79369 => ?_)
                  · refine ev_iconst ?_
                    refine ev_ret rfl (by decide) (by decide) ?_
                    show jEv _ _ _ _ _ _ _ (_, [(2, 0), (0, a1), (0, a2), (0, a3), (0, x4), (0, x5), (0, (60 * a1 + x5)), (0, v79356), (0, v79358), (0, v79360)], [(0, 0)], _, _, _)
                    refine ev_ifne f238_88 (fun c79370 => absurd c79370 (by omega)) (fun c79370 => ?_)
                    refine ev_iload rfl ?_
                    exact ev_ret rfl (by decide) (by decide) ⟨_, rfl, g1, k1, ⟨⟨by omega, by omega, fun t t0 t1 => H0 t t0 (by omega), fun hr => fun z => by have z1 := z.1; have z2 := z.2.1; rw [((k1.v (a := 38) (i := (a1).toNat) rfl).symm.trans (ev79353))] at z2; first | omega | (have z3 := Good.v z k1 (fun _ => rfl) ev79355 ev79356 ev79357 ev79358 ev79359 ev79360 (i1 := (60 * a1 + x5)) (i2 := (60 * a1 + x5 + 1)) (i3 := (60 * a1 + x5 + 2)) (by omega) (by omega) (by omega); unfold dOk3 at z3; omega)⟩, H1.to (by omega)⟩⟩
                  · refine ev_iload_n rfl ?_
                    refine ev_bipush ?_
                    refine ev_icmpgt f134_35 (fun c79371 => ?_) (fun c79371 => ?_)
                    · refine ev_iconst ?_
                      refine ev_ret rfl (by decide) (by decide) ?_
                      show jEv _ _ _ _ _ _ _ (_, [(2, 0), (0, a1), (0, a2), (0, a3), (0, x4), (0, x5), (0, (60 * a1 + x5)), (0, v79356), (0, v79358), (0, v79360)], [(0, 0)], _, _, _)
                      refine ev_ifne f238_88 (fun c79372 => absurd c79372 (by omega)) (fun c79372 => ?_)
                      refine ev_iload rfl ?_
                      exact ev_ret rfl (by decide) (by decide) ⟨_, rfl, g1, k1, ⟨⟨by omega, by omega, fun t t0 t1 => H0 t t0 (by omega), fun hr => fun z => by have z1 := z.1; have z2 := z.2.1; rw [((k1.v (a := 38) (i := (a1).toNat) rfl).symm.trans (ev79353))] at z2; first | omega | (have z3 := Good.v z k1 (fun _ => rfl) ev79355 ev79356 ev79357 ev79358 ev79359 ev79360 (i1 := (60 * a1 + x5)) (i2 := (60 * a1 + x5 + 1)) (i3 := (60 * a1 + x5 + 2)) (by omega) (by omega) (by omega); unfold dOk3 at z3; omega)⟩, H1.to (by omega)⟩⟩
                    · refine ev_iconst ?_
                      refine ev_goto f134_36 ?_
                      refine ev_ret rfl (by decide) (by decide) ?_
                      show jEv _ _ _ _ _ _ _ (_, [(2, 0), (0, a1), (0, a2), (0, a3), (0, x4), (0, x5), (0, (60 * a1 + x5)), (0, v79356), (0, v79358), (0, v79360)], [(0, 1)], _, _, _)
                      refine ev_ifne f238_88 (fun c79373 => ?_) (fun c79373 => absurd c79373 (by omega))
                      refine ev_aload_n rfl ?_
                      refine g_getp (r := 0) (c := 26) g1 ad0 (by decide) (by decide) rf0_11 ft11_11 ?_
                      refine ev_iload rfl ?_
                      refine ev_iload rfl ?_
                      refine ev_iload rfl ?_
                      refine ev_iload rfl ?_
                      refine ev_in (d := 0) (a := 0) (b := 0) (cd' := c135_0) (m := 5) (L0 := [(2, 26), (0, x4), (0, v79356), (0, v79358), (0, v79360)]) (jcall_v (A := [(0, v79360), (0, v79358), (0, v79356), (0, x4)]) (S' := []) (r := 26) rfl (g1.lt ad26) (g1.tg ad26) (Nat.le_of_ble_eq_true rfl)) (by decide) ml135 pp135 (Nat.le_of_ble_eq_true rfl) rfl (by decide) (by decide) ?_
                      refine ev_iload_n rfl ?_
                      refine ev_iflt f135_32 (fun c79374 => absurd c79374 (by omega)) (fun c79374 => ?_)
                      refine ev_iload_n rfl ?_
                      refine ev_bipush ?_
                      refine ev_icmpge f135_32 (fun c79375 => absurd c79375 (by omega)) (fun c79375 => ?_)
                      refine ev_aload_n rfl ?_
                      refine g_getp (r := 26) (c := 34) g1 ad26 (by decide) (by decide) rf26_12 ft9_12 ?_
                      refine ev_iload_n rfl ?_
                      refine ev_iload_n rfl ?_
                      refine g_iast g1 ad34 rt34 (fun _ => rfl) (by omega) (by omega) (by omega) (by omega) (fun h79376 e79376 g79376 => ?_)
                      have k79376 := k1.wr e79376 rfl
                      refine ev_aload_n rfl ?_
                      refine g_getp (r := 26) (c := 35) g79376 ad26 (by decide) (by decide) rf26_13 ft9_13 ?_
                      refine ev_iload_n rfl ?_
                      refine ev_iload_n rfl ?_
                      refine g_iast g79376 ad35 rt35 (fun _ => rfl) (by omega) (by omega) (by omega) (by omega) (fun h79377 e79377 g79377 => ?_)
                      have k79377 := k79376.wr e79377 rfl
                      refine ev_aload_n rfl ?_
                      refine g_getp (r := 26) (c := 36) g79377 ad26 (by decide) (by decide) rf26_14 ft9_14 ?_
                      refine ev_iload_n rfl ?_
                      refine ev_iload rfl ?_
                      refine g_iast g79377 ad36 rt36 (fun _ => rfl) (by omega) (by omega) (by omega) (by omega) (fun h79378 e79378 g79378 => ?_)
                      have k79378 := k79377.wr e79378 rfl
                      refine ev_ret rfl (by decide) (by decide) ?_
                      show jEv _ _ _ _ _ _ _ (_, [(2, 0), (0, a1), (0, a2), (0, a3), (0, x4), (0, x5), (0, (60 * a1 + x5)), (0, v79356), (0, v79358), (0, v79360)], [], _, _, _)
                      refine ev_iinc (w := (x4 + 1)) (L' := [(2, 0), (0, a1), (0, a2), (0, a3), (0, (x4 + 1)), (0, x5), (0, (60 * a1 + x5)), (0, v79356), (0, v79358), (0, v79360)]) rfl (by unfold w32; omega) rfl ?_
                      refine ev_iinc (w := (x5 + 3)) (L' := [(2, 0), (0, a1), (0, a2), (0, a3), (0, (x4 + 1)), (0, (x5 + 3)), (0, (60 * a1 + x5)), (0, v79356), (0, v79358), (0, v79360)]) rfl (by unfold w32; omega) rfl ?_
                      refine ev_goto f238_6 ?_
                      exact ih _ _ _ _ _ _ _ g79378 k79378 (by omega) (by omega) (by omega) (by omega) (by omega) (by omega) (by omega) (by omega) (by omega) (by omega) (by omega) (by omega) (by omega) (al_succ (P := Good h 39 a1 a2 (h.2.2 38 (a1).toNat)) (x := x4) (by omega) H0 (Good.mk k1 (fun _ => rfl) ev79355 ev79356 ev79357 ev79358 ev79359 ev79360 (i1 := (60 * a1 + x5)) (i2 := (60 * a1 + x5 + 1)) (i3 := (60 * a1 + x5 + 2)) (by omega) (by omega) (by omega) (by omega) (by rw [((k1.v (a := 38) (i := (a1).toNat) rfl).symm.trans (ev79353))]; omega) (by unfold dOk3; omega))) (DE.step H1 (by omega) (by decide) (by decide) (by decide) k1 (fun _ => rfl) ev79355 ev79356 ev79357 ev79358 ev79359 ev79360 (i1 := (60 * a1 + x5)) (i2 := (60 * a1 + x5 + 1)) (i3 := (60 * a1 + x5 + 2)) (by omega) (by omega) (by omega) e79376 e79377 e79378) (by omega)
set_option maxHeartbeats 4000000 in
theorem t238 {G : GH} {h : JH} (g : Gd G h) {a1 : Int} (la1 : 0 ≤ a1) (ua1 : a1 ≤ 5) {a2 : Int} (la2 : (-2147483648) ≤ a2) (ua2 : a2 ≤ 2147483647) {a3 : Int} (la3 : 1 ≤ a3) (ua3 : a3 ≤ 20) : jOk 2 0 0 238 [(2, 0), (0, a1), (0, a2), (0, a3)] h (fun v h' => ∃ r : Int, v = some (0, r) ∧ Gd G h' ∧ Kp [(34, 0), (35, 0), (36, 0)] h h' ∧ (DA h 39 a1 a2 (h.2.2 38 (a1).toNat) a3 r) ∧ DE h h' 39 34 35 36 a1 a2 r) := by
  refine ⟨by decide, by rw [ml238]; exact Nat.le_of_ble_eq_true rfl, ?_⟩
  rw [ml238, pp238]
  show jEv _ none _ c238_0 0 0 _ (c238_0, [(2, 0), (0, a1), (0, a2), (0, a3), (9, 0), (9, 0), (9, 0), (9, 0), (9, 0), (9, 0)], [], h, 0, 0)
  have k0 := Kp.rf [(34, 0), (35, 0), (36, 0)] h
  refine ev_iconst ?_
  refine ev_istore (L' := [(2, 0), (0, a1), (0, a2), (0, a3), (0, 0), (9, 0), (9, 0), (9, 0), (9, 0), (9, 0)]) (Nat.le_of_ble_eq_true rfl) rfl ?_
  refine ev_iload_n rfl ?_
  refine ev_istore (L' := [(2, 0), (0, a1), (0, a2), (0, a3), (0, 0), (0, a2), (9, 0), (9, 0), (9, 0), (9, 0)]) (Nat.le_of_ble_eq_true rfl) rfl ?_
  exact (t238_l la1 ua1 la2 ua2 la3 ua3 42) _ _ _ _ _ _ _ g k0 (by omega) (by omega) (by omega) (by omega) (by omega) (by omega) (by omega) (by omega) (by omega) (by omega) (by omega) (by omega) (by omega) (fun t t0 t1 => by omega) (DE.start (by omega)) (by omega)
set_option maxHeartbeats 4000000 in
theorem t207 {G : GH} {h : JH} (g : Gd G h) {a1 : Int} (la1 : (-2147483648) ≤ a1) (ua1 : a1 ≤ 2147483647) {a2 : Int} (la2 : (-2147483648) ≤ a2) (ua2 : a2 ≤ 2147483647) {a3 : Int} (la3 : (-2147483648) ≤ a3) (ua3 : a3 ≤ 2147483647) : jOk 3 0 0 207 [(2, 0), (0, a1), (0, a2), (0, a3)] h (fun v h' => ∃ r : Int, v = some (0, r) ∧ Gd G h' ∧ Kp [(34, 0), (35, 0), (36, 0)] h h' ∧ (DaC h a1 a2 a3 r) ∧ DE h h' 39 34 35 36 a1 a2 r) := by
  refine ⟨by decide, by rw [ml207]; exact Nat.le_of_ble_eq_true rfl, ?_⟩
  rw [ml207, pp207]
  show jEv _ none _ c207_0 0 0 _ (c207_0, [(2, 0), (0, a1), (0, a2), (0, a3)], [], h, 0, 0)
  have k0 := Kp.rf [(34, 0), (35, 0), (36, 0)] h
  refine ev_iload_n rfl ?_
  refine ev_in (d := 1) (a := 0) (b := 0) (cd' := c222_0) (m := 1) (L0 := [(0, a1)]) (jcall_s (A := [(0, a1)]) (S' := []) (by decide) rfl (Nat.le_of_ble_eq_true rfl)) (by decide) ml222 pp222 (Nat.le_of_ble_eq_true rfl) rfl (by decide) (by decide) ?_
  refine ev_iload_n rfl ?_
  refine ev_iflt f222_14 (fun c79403 => ?_) (fun c79403 => ?_)
  · refine ev_iconst ?_
    refine ev_ret rfl (by decide) (by decide) ?_
    show jEv _ _ _ _ _ _ _ (_, [(2, 0), (0, a1), (0, a2), (0, a3)], [(0, 0)], _, _, _)
    refine ev_ifeq f207_18 (fun c79404 => ?_) (fun c79404 => absurd c79404 (by omega))
    refine ev_iconst ?_
    exact ev_ret rfl (by decide) (by decide) ⟨_, rfl, g, k0, ⟨Or.inl ⟨by omega, rfl⟩, DE.start (by omega)⟩⟩
  · refine ev_iload_n rfl ?_
    refine ev_bipush ?_
    refine ev_icmpge f222_14 (fun c79405 => ?_) (fun c79405 => ?_)
    · refine ev_iconst ?_
      refine ev_ret rfl (by decide) (by decide) ?_
      show jEv _ _ _ _ _ _ _ (_, [(2, 0), (0, a1), (0, a2), (0, a3)], [(0, 0)], _, _, _)
      refine ev_ifeq f207_18 (fun c79406 => ?_) (fun c79406 => absurd c79406 (by omega))
      refine ev_iconst ?_
      exact ev_ret rfl (by decide) (by decide) ⟨_, rfl, g, k0, ⟨Or.inl ⟨by omega, rfl⟩, DE.start (by omega)⟩⟩
    · refine ev_iconst ?_
      refine ev_goto f222_15 ?_
      refine ev_ret rfl (by decide) (by decide) ?_
      show jEv _ _ _ _ _ _ _ (_, [(2, 0), (0, a1), (0, a2), (0, a3)], [(0, 1)], _, _, _)
      refine ev_ifeq f207_18 (fun c79407 => absurd c79407 (by omega)) (fun c79407 => ?_)
      refine ev_iload_n rfl ?_
      refine ev_iconst ?_
      refine ev_icmplt f207_18 (fun c79408 => ?_) (fun c79408 => ?_)
      · refine ev_iconst ?_
        exact ev_ret rfl (by decide) (by decide) ⟨_, rfl, g, k0, ⟨Or.inl ⟨by omega, rfl⟩, DE.start (by omega)⟩⟩
      · refine ev_iload_n rfl ?_
        refine ev_bipush ?_
        refine ev_icmple f207_20 (fun c79409 => ?_) (fun c79409 => ?_)
        · refine ev_aload_n rfl ?_
          refine g_getp (r := 0) (c := 37) g ad0 (by decide) (by decide) rf0_12 ft11_12 ?_
          refine ev_iload_n rfl ?_
          refine g_iald g ad37 rt37 (by omega) (by omega) (fun v79410 ev79410 lv79410 uv79410 => ?_)
          refine ev_iconst ?_
          refine ev_icmpne f207_32 (fun c79411 => ?_) (fun c79411 => ?_)
          · refine ev_aload_n rfl ?_
            refine g_getp (r := 0) (c := 37) g ad0 (by decide) (by decide) rf0_12 ft11_12 ?_
            refine ev_iload_n rfl ?_
            refine g_ialdv (v := v79410) g ad37 (by omega) (by omega) (ev79410) ?_
            refine ev_iconst ?_
            refine ev_icmpne f207_52 (fun c79412 => ?_) (fun c79412 => ?_)
            · refine ev_bipush ?_
              exact ev_ret rfl (by decide) (by decide) ⟨_, rfl, g, k0, ⟨Or.inr ⟨by omega, Or.inr (Or.inr ⟨by rw [ev79410]; omega, by rw [ev79410]; omega, rfl⟩)⟩, DE.start (by omega)⟩⟩
            · refine ev_aload_n rfl ?_
              refine ev_iload_n rfl ?_
              refine ev_iload_n rfl ?_
              refine ev_iload_n rfl ?_
              refine ev_call (jcall_v (A := [(0, a3), (0, a2), (0, a1)]) (S' := []) (r := 0) rfl (g.lt ad0) (g.tg ad0) (Nat.le_of_ble_eq_true rfl)) (jOk_le (by decide) (t238 g (by omega) (by omega) (by omega) (by omega) (by omega) (by omega))) (by decide) (by decide) (fun w79413 h79413 q79413 => ?_)
              obtain ⟨v79414, rfl, g79413, kk79413, X79413⟩ := q79413
              have k79413 := k0.tr kk79413 (by decide)
              show jEv _ _ _ _ _ _ _ (_, [(2, 0), (0, a1), (0, a2), (0, a3)], [(0, v79414)], _, _, _)
              refine ev_goto f207_54 ?_
              exact ev_ret rfl (by decide) (by decide) ⟨_, rfl, g79413, k79413, ⟨Or.inr ⟨by omega, Or.inr (Or.inl ⟨by rw [ev79410]; omega, X79413.1⟩)⟩, X79413.2⟩⟩
          · refine ev_iconst ?_
            exact ev_ret rfl (by decide) (by decide) ⟨_, rfl, g, k0, ⟨Or.inr ⟨by omega, Or.inl ⟨by rw [ev79410]; omega, rfl⟩⟩, DE.start (by omega)⟩⟩
        · refine ev_iconst ?_
          exact ev_ret rfl (by decide) (by decide) ⟨_, rfl, g, k0, ⟨Or.inl ⟨by omega, rfl⟩, DE.start (by omega)⟩⟩
set_option maxHeartbeats 4000000 in
theorem t352_l {G : GH} {h : JH} {a1 : Int} (la1 : (-2147483648) ≤ a1) (ua1 : a1 ≤ 2147483647) {a2 : Int} (la2 : (-2147483648) ≤ a2) (ua2 : a2 ≤ 2147483647) {a3 : Int} (la3 : (-2147483648) ≤ a3) (ua3 : a3 ≤ 2147483647) : ∀ N : Nat, (∀ (h1 : JH) (x4 : Int) (j5 j7 : AV), Gd G h1 → Kp [(74, 0), (75, 0), (76, 0)] h h1 → 0 ≤ a1 → a1 ≤ 5 → (-2147483648) ≤ a2 → a2 ≤ 2147483647 → 1 ≤ a3 → a3 ≤ 20 → 0 ≤ x4 → x4 ≤ 20 → ((-a3) + x4) ≤ 0 → (∀ t : Int, 0 ≤ t → t < x4 → Good h 81 a1 a2 (h.2.2 80 (a1).toNat) t) → h.2.2 79 (a1).toNat = -3 → DE h h1 81 74 75 76 a1 a2 x4 → ((-x4) + 20) < N → jEv (jOk 2) none (fun _ => 0) c352_0 0 0 (fun v h' => ∃ r : Int, v = some (0, r) ∧ Gd G h' ∧ Kp [(74, 0), (75, 0), (76, 0)] h h' ∧ (DaR h a1 a2 a3 r) ∧ DE h h' 81 74 75 76 a1 a2 r) (c352_58, [(2, 42), (0, a1), (0, a2), (0, a3), (0, x4), j5, (9, 0), j7], [], h1, 0, 0)) := by
  intro N
  induction N with
  | zero => exact fun h1 x4 j5 j7 g1 k1 b0 b1 b2 b3 b4 b5 b6 b7 b8 b9 b10 b11 hm => absurd hm (by omega)
  | succ N ih =>
    show _
    intro h1 x4 j5 j7 g1 k1 b0 b1 b2 b3 b4 b5 b6 b7 b8 H0 H1 H2 hm
    refine ev_iload rfl ?_
    refine ev_iload_n rfl ?_
    refine ev_icmpge f352_203 (fun c80129 => ?_) (fun c80129 => ?_)
    · refine ev_iload_n rfl ?_
      exact ev_ret rfl (by decide) (by decide) ⟨_, rfl, g1, k1, ⟨Or.inr ⟨by omega, Or.inr (Or.inl ⟨H1, ⟨by omega, by omega, fun t t0 t1 => H0 t t0 (by omega), fun hr => fun z => by have z1 := z.1; have z2 := z.2.1; omega⟩⟩)⟩, H2.to (by omega)⟩⟩
    · refine ev_iload_n rfl ?_
      refine ev_i2l ?_
      refine ev_iconst ?_
      refine ev_iload rfl ?_
      refine ev_imul (r := (3 * x4)) (by unfold w32; omega) ?_
      refine ev_i2l ?_
      refine ev_ladd (r := (a2 + 3 * x4)) (by unfold w64; omega) ?_
      refine ev_lstore (L' := [(2, 42), (0, a1), (0, a2), (0, a3), (0, x4), (1, (a2 + 3 * x4)), (9, 0), j7]) (Nat.le_of_ble_eq_true rfl) rfl ?_
      refine ev_lload rfl ?_
      refine ev_lconst ?_
      refine ev_lcmp ?_
      refine ev_iflt f352_98 (fun c80130 => ?_) (fun c80130 => ?_)
      · have c80130b := jcmpL_lt c80130
        refine ev_iload rfl ?_
        exact ev_ret rfl (by decide) (by decide) ⟨_, rfl, g1, k1, ⟨Or.inr ⟨by omega, Or.inr (Or.inl ⟨H1, ⟨by omega, by omega, fun t t0 t1 => H0 t t0 (by omega), fun hr => fun z => by have z1 := z.1; have z2 := z.2.1; omega⟩⟩)⟩, H2.to (by omega)⟩⟩
      · have c80130b := jcmpL_ltN c80130
        refine ev_lload rfl ?_
        refine ev_ldc2_w ?_
        refine ev_ladd (r := (a2 + 3 * x4 + 2)) (by unfold w64; omega) ?_
        refine ev_aload_n rfl ?_
        refine g_getp (r := 42) (c := 80) g1 ad42 (by decide) (by decide) rf42_63 ft12_63 ?_
        refine ev_iload_n rfl ?_
        refine g_iald g1 ad80 rt80 (by omega) (by omega) (fun v80131 ev80131 lv80131 uv80131 => ?_)
        refine ev_i2l ?_
        refine ev_lcmp ?_
        refine ev_iflt f352_101 (fun c80132 => ?_) (fun c80132 => ?_)
        · have c80132b := jcmpL_lt c80132
          refine ev_bipush ?_
          refine ev_iload_n rfl ?_
          refine ev_imul (r := (60 * a1)) (by unfold w32; omega) ?_
          refine ev_lload rfl ?_
          refine ev_l2i (r := (a2 + 3 * x4)) (by unfold w32; omega) ?_
          refine ev_iadd (r := (60 * a1 + a2 + 3 * x4)) (by unfold w32; omega) ?_
          refine ev_istore (L' := [(2, 42), (0, a1), (0, a2), (0, a3), (0, x4), (1, (a2 + 3 * x4)), (9, 0), (0, (60 * a1 + a2 + 3 * x4))]) (Nat.le_of_ble_eq_true rfl) rfl ?_
          refine ev_aload_n rfl ?_
          refine g_getp (r := 42) (c := 81) g1 ad42 (by decide) (by decide) rf42_64 ft12_64 ?_
          refine ev_iload rfl ?_
          refine g_lald g1 ad81 rt81 (by omega) (by omega) (fun v80133 ev80133 lv80133 uv80133 => ?_)
          refine g_l2iG (fun v80134 ev80134 lv80134 uv80134 => ?_)
          refine ev_aload_n rfl ?_
          refine g_getp (r := 42) (c := 81) g1 ad42 (by decide) (by decide) rf42_64 ft12_64 ?_
          refine ev_iload rfl ?_
          refine ev_iconst ?_
          refine ev_iadd (r := (60 * a1 + a2 + 3 * x4 + 1)) (by unfold w32; omega) ?_
          refine g_lald g1 ad81 rt81 (by omega) (by omega) (fun v80135 ev80135 lv80135 uv80135 => ?_)
          refine g_l2iG (fun v80136 ev80136 lv80136 uv80136 => ?_)
          refine ev_aload_n rfl ?_
          refine g_getp (r := 42) (c := 81) g1 ad42 (by decide) (by decide) rf42_64 ft12_64 ?_
          refine ev_iload rfl ?_
          refine ev_iconst ?_
          refine ev_iadd (r := (60 * a1 + a2 + 3 * x4 + 2)) (by unfold w32; omega) ?_
          refine g_lald g1 ad81 rt81 (by omega) (by omega) (fun v80137 ev80137 lv80137 uv80137 => ?_)
          refine g_l2iG (fun v80138 ev80138 lv80138 uv80138 => ?_)
          refine ev_in (d := 1) (a := 0) (b := 0) (cd' := c350_0) (m := 3) (L0 := [(0, v80134), (0, v80136), (0, v80138)]) (jcall_s (A := [(0, v80138), (0, v80136), (0, v80134)]) (S' := []) (by decide) rfl (Nat.le_of_ble_eq_true rfl)) (by decide) ml350 pp350 (Nat.le_of_ble_eq_true rfl) rfl (by decide) (by decide) ?_
          refine ev_iload_n rfl ?_
          refine ev_iconst ?_
          refine ev_sipush ?_
          refine ev_in (d := 0) (a := 0) (b := 0) (cd' := c242_0) (m := 3) (L0 := [(0, v80134), (0, 0), (0, 999)]) (jcall_s (A := [(0, 999), (0, 0), (0, v80134)]) (S' := []) (by decide) rfl (Nat.le_of_ble_eq_true rfl)) (by decide) ml242 pp242 (Nat.le_of_ble_eq_true rfl) rfl (by decide) (by decide) ?_
          refine ev_iload_n rfl ?_
          refine ev_iload_n rfl ?_
          refine ev_icmplt f242_14 (fun c80139 => ?_) (fun c80139 => ?_)
          · refine ev_iconst ?_
            refine ev_ret rfl (by decide) (by decide) ?_
            show jEv _ _ _ _ _ _ _ (_, [(0, v80134), (0, v80136), (0, v80138)], [(0, 0)], _, _, _)
            refine ev_ifeq f350_35 (fun c80140 => ?_) (fun c80140 => absurd c80140 (by omega))
            refine ev_iconst ?_
            refine ev_ret rfl (by decide) (by decide) ?_
            show jEv _ _ _ _ _ _ _ (_, [(2, 42), (0, a1), (0, a2), (0, a3), (0, x4), (1, (a2 + 3 * x4)), (9, 0), (0, (60 * a1 + a2 + 3 * x4))], [(0, 0)], _, _, _)
            refine ev_ifne f352_148 (fun c80141 => absurd c80141 (by omega)) (fun c80141 => ?_)
            refine ev_iload rfl ?_
            exact ev_ret rfl (by decide) (by decide) ⟨_, rfl, g1, k1, ⟨Or.inr ⟨by omega, Or.inr (Or.inl ⟨H1, ⟨by omega, by omega, fun t t0 t1 => H0 t t0 (by omega), fun hr => fun z => by have z1 := z.1; have z2 := z.2.1; rw [((k1.v (a := 80) (i := (a1).toNat) rfl).symm.trans (ev80131))] at z2; first | omega | (have z3 := Good.v z k1 (fun _ => rfl) ev80133 ev80134 ev80135 ev80136 ev80137 ev80138 (i1 := (60 * a1 + a2 + 3 * x4)) (i2 := (60 * a1 + a2 + 3 * x4 + 1)) (i3 := (60 * a1 + a2 + 3 * x4 + 2)) (by omega) (by omega) (by omega); unfold dOk3 at z3; omega)⟩⟩)⟩, H2.to (by omega)⟩⟩
          · refine ev_iload_n rfl ?_
            refine ev_iload_n rfl ?_
            refine ev_icmpgt f242_14 (fun c80142 => ?_) (fun c80142 => ?_)
            · refine ev_iconst ?_
              refine ev_ret rfl (by decide) (by decide) ?_
              show jEv _ _ _ _ _ _ _ (_, [(0, v80134), (0, v80136), (0, v80138)], [(0, 0)], _, _, _)
              refine ev_ifeq f350_35 (fun c80143 => ?_) (fun c80143 => absurd c80143 (by omega))
              refine ev_iconst ?_
              refine ev_ret rfl (by decide) (by decide) ?_
              show jEv _ _ _ _ _ _ _ (_, [(2, 42), (0, a1), (0, a2), (0, a3), (0, x4), (1, (a2 + 3 * x4)), (9, 0), (0, (60 * a1 + a2 + 3 * x4))], [(0, 0)], _, _, _)
              refine ev_ifne f352_148 (fun c80144 => absurd c80144 (by omega)) (fun c80144 => ?_)
              refine ev_iload rfl ?_
              exact ev_ret rfl (by decide) (by decide) ⟨_, rfl, g1, k1, ⟨Or.inr ⟨by omega, Or.inr (Or.inl ⟨H1, ⟨by omega, by omega, fun t t0 t1 => H0 t t0 (by omega), fun hr => fun z => by have z1 := z.1; have z2 := z.2.1; rw [((k1.v (a := 80) (i := (a1).toNat) rfl).symm.trans (ev80131))] at z2; first | omega | (have z3 := Good.v z k1 (fun _ => rfl) ev80133 ev80134 ev80135 ev80136 ev80137 ev80138 (i1 := (60 * a1 + a2 + 3 * x4)) (i2 := (60 * a1 + a2 + 3 * x4 + 1)) (i3 := (60 * a1 + a2 + 3 * x4 + 2)) (by omega) (by omega) (by omega); unfold dOk3 at z3; omega)⟩⟩)⟩, H2.to (by omega)⟩⟩
            · refine ev_iconst ?_
              refine ev_goto f242_15 ?_
              refine ev_ret rfl (by decide) (by decide) ?_
              show jEv _ _ _ _ _ _ _ (_, [(0, v80134), (0, v80136), (0, v80138)], [(0, 1)], _, _, _)
              refine ev_ifeq f350_35 (fun c80145 => absurd c80145 (by omega)) (fun c80145 => ?_)
              refine ev_iload_n rfl ?_
              refine ev_iconst ?_
              refine ev_bipush ?_
              refine ev_in (d := 0) (a := 0) (b := 0) (cd' := c242_0) (m := 3) (L0 := [(0, v80136), (0, 0), (0, 100)]) (jcall_s (A := [(0, 100), (0, 0), (0, v80136)]) (S' := []) (by decide) rfl (Nat.le_of_ble_eq_true rfl)) (by decide) ml242 pp242 (Nat.le_of_ble_eq_true rfl) rfl (by decide) (by decide) ?_
              refine ev_iload_n rfl ?_
              refine ev_iload_n rfl ?_
              refine ev_icmplt f242_14 (fun c80146 => ?_) (fun c80146 => ?_)
              · refine ev_iconst ?_
                refine ev_ret rfl (by decide) (by decide) ?_
                show jEv _ _ _ _ _ _ _ (_, [(0, v80134), (0, v80136), (0, v80138)], [(0, 0)], _, _, _)
                refine ev_ifeq f350_35 (fun c80147 => ?_) (fun c80147 => absurd c80147 (by omega))
                refine ev_iconst ?_
                refine ev_ret rfl (by decide) (by decide) ?_
                show jEv _ _ _ _ _ _ _ (_, [(2, 42), (0, a1), (0, a2), (0, a3), (0, x4), (1, (a2 + 3 * x4)), (9, 0), (0, (60 * a1 + a2 + 3 * x4))], [(0, 0)], _, _, _)
                refine ev_ifne f352_148 (fun c80148 => absurd c80148 (by omega)) (fun c80148 => ?_)
                refine ev_iload rfl ?_
                exact ev_ret rfl (by decide) (by decide) ⟨_, rfl, g1, k1, ⟨Or.inr ⟨by omega, Or.inr (Or.inl ⟨H1, ⟨by omega, by omega, fun t t0 t1 => H0 t t0 (by omega), fun hr => fun z => by have z1 := z.1; have z2 := z.2.1; rw [((k1.v (a := 80) (i := (a1).toNat) rfl).symm.trans (ev80131))] at z2; first | omega | (have z3 := Good.v z k1 (fun _ => rfl) ev80133 ev80134 ev80135 ev80136 ev80137 ev80138 (i1 := (60 * a1 + a2 + 3 * x4)) (i2 := (60 * a1 + a2 + 3 * x4 + 1)) (i3 := (60 * a1 + a2 + 3 * x4 + 2)) (by omega) (by omega) (by omega); unfold dOk3 at z3; omega)⟩⟩)⟩, H2.to (by omega)⟩⟩
              · refine ev_iload_n rfl ?_
                refine ev_iload_n rfl ?_
                refine ev_icmpgt f242_14 (fun c80149 => ?_) (fun c80149 => ?_)
                · refine ev_iconst ?_
                  refine ev_ret rfl (by decide) (by decide) ?_
                  show jEv _ _ _ _ _ _ _ (_, [(0, v80134), (0, v80136), (0, v80138)], [(0, 0)], _, _, _)
                  refine ev_ifeq f350_35 (fun c80150 => ?_) (fun c80150 => absurd c80150 (by omega))
                  refine ev_iconst ?_
                  refine ev_ret rfl (by decide) (by decide) ?_
                  show jEv _ _ _ _ _ _ _ (_, [(2, 42), (0, a1), (0, a2), (0, a3), (0, x4), (1, (a2 + 3 * x4)), (9, 0), (0, (60 * a1 + a2 + 3 * x4))], [(0, 0)], _, _, _)
                  refine ev_ifne f352_148 (fun c80151 => absurd c80151 (by omega)) (fun c80151 => ?_)
                  refine ev_iload rfl ?_
                  exact ev_ret rfl (by decide) (by decide) ⟨_, rfl, g1, k1, ⟨Or.inr ⟨by omega, Or.inr (Or.inl ⟨H1, ⟨by omega, by omega, fun t t0 t1 => H0 t t0 (by omega), fun hr => fun z => by have z1 := z.1; have z2 := z.2.1; rw [((k1.v (a := 80) (i := (a1).toNat) rfl).symm.trans (ev80131))] at z2; first | omega | (have z3 := Good.v z k1 (fun _ => rfl) ev80133 ev80134 ev80135 ev80136 ev80137 ev80138 (i1 := (60 * a1 + a2 + 3 * x4)) (i2 := (60 * a1 + a2 + 3 * x4 + 1)) (i3 := (60 * a1 + a2 + 3 * x4 + 2)) (by omega) (by omega) (by omega); unfold dOk3 at z3; omega)⟩⟩)⟩, H2.to (by omega)⟩⟩
                · refine ev_iconst ?_
                  refine ev_goto f242_15 ?_
                  refine ev_ret rfl (by decide) (by decide) ?_
                  show jEv _ _ _ _ _ _ _ (_, [(0, v80134), (0, v80136), (0, v80138)], [(0, 1)], _, _, _)
                  refine ev_ifeq f350_35 (fun c80152 => absurd c80152 (by omega)) (fun c80152 => ?_)
                  refine ev_iload_n rfl ?_
                  refine ev_iconst ?_
                  refine ev_bipush ?_
                  refine ev_in (d := 0) (a := 0) (b := 0) (cd' := c242_0) (m := 3) (L0 := [(0, v80138), (0, 0), (0, 99)]) (jcall_s (A := [(0, 99), (0, 0), (0, v80138)]) (S' := []) (by decide) rfl (Nat.le_of_ble_eq_true rfl)) (by decide) ml242 pp242 (Nat.le_of_ble_eq_true rfl) rfl (by decide) (by decide) ?_
                  refine ev_iload_n rfl ?_
                  refine ev_iload_n rfl ?_
                  refine ev_icmplt f242_14 (fun c80153 => ?_) (fun c80153 => ?_)
                  · refine ev_iconst ?_
                    refine ev_ret rfl (by decide) (by decide) ?_
                    show jEv _ _ _ _ _ _ _ (_, [(0, v80134), (0, v80136), (0, v80138)], [(0, 0)], _, _, _)
                    refine ev_ifeq f350_35 (fun c80154 => ?_) (fun c80154 => absurd c80154 (by omega))
                    refine ev_iconst ?_
                    refine ev_ret rfl (by decide) (by decide) ?_
                    show jEv _ _ _ _ _ _ _ (_, [(2, 42), (0, a1), (0, a2), (0, a3), (0, x4), (1, (a2 + 3 * x4)), (9, 0), (0, (60 * a1 + a2 + 3 * x4))], [(0, 0)], _, _, _)
                    refine ev_ifne f352_148 (fun c80155 => absurd c80155 (by omega)) (fun c80155 => ?_)
                    refine ev_iload rfl ?_
                    exact ev_ret rfl (by decide) (by decide) ⟨_, rfl, g1, k1, ⟨Or.inr ⟨by omega, Or.inr (Or.inl ⟨H1, ⟨by omega, by omega, fun t t0 t1 => H0 t t0 (by omega), fun hr => fun z => by have z1 := z.1; have z2 := z.2.1; rw [((k1.v (a := 80) (i := (a1).toNat) rfl).symm.trans (ev80131))] at z2; first | omega | (have z3 := Good.v z k1 (fun _ => rfl) ev80133 ev80134 ev80135 ev80136 ev80137 ev80138 (i1 := (60 * a1 + a2 + 3 * x4)) (i2 := (60 * a1 + a2 + 3 * x4 + 1)) (i3 := (60 * a1 + a2 + 3 * x4 + 2)) (by omega) (by omega) (by omega); unfold dOk3 at z3; omega)⟩⟩)⟩, H2.to (by omega)⟩⟩
                  · refine ev_iload_n rfl ?_
                    refine ev_iload_n rfl ?_
                    refine ev_icmpgt f242_14 (fun c80156 => ?_) (fun c80156 => ?_)
                    · refine ev_iconst ?_
                      refine ev_ret rfl (by decide) (by decide) ?_
                      show jEv _ _ _ _ _ _ _ (_, [(0, v80134), (0, v80136), (0, v80138)], [(0, 0)], _, _, _)
                      refine ev_ifeq f350_35 (fun c80157 => ?_) (fun c80157 => absurd c80157 (by omega))
                      refine ev_iconst ?_
                      refine ev_ret rfl (by decide) (by decide) ?_
                      show jEv _ _ _ _ _ _ _ (_, [(2, 42), (0, a1), (0, a2), (0, a3), (0, x4), (1, (a2 + 3 * x4)), (9, 0), (0, (60 * a1 + a2 + 3 * x4))], [(0, 0)], _, _, _)
                      refine ev_ifne f352_148 (fun c80158 => absurd c80158 (by omega)) (fun c80158 => ?_)
                      refine ev_iload rfl ?_
                      exact ev_ret rfl (by decide) (by decide) ⟨_, rfl, g1, k1, ⟨Or.inr ⟨by omega, Or.inr (Or.inl ⟨H1, ⟨by omega, by omega, fun t t0 t1 => H0 t t0 (by omega), fun hr => fun z => by have z1 := z.1; have z2 := z.2.1; rw [((k1.v (a := 80) (i := (a1).toNat) rfl).symm.trans (ev80131))] at z2; first | omega | (have z3 := Good.v z k1 (fun _ => rfl) ev80133 ev80134 ev80135 ev80136 ev80137 ev80138 (i1 := (60 * a1 + a2 + 3 * x4)) (i2 := (60 * a1 + a2 + 3 * x4 + 1)) (i3 := (60 * a1 + a2 + 3 * x4 + 2)) (by omega) (by omega) (by omega); unfold dOk3 at z3; omega)⟩⟩)⟩, H2.to (by omega)⟩⟩
                    · refine ev_iconst ?_
                      refine ev_goto f242_15 ?_
                      refine ev_ret rfl (by decide) (by decide) ?_
                      show jEv _ _ _ _ _ _ _ (_, [(0, v80134), (0, v80136), (0, v80138)], [(0, 1)], _, _, _)
                      refine ev_ifeq f350_35 (fun c80159 => absurd c80159 (by omega)) (fun c80159 => ?_)
                      refine ev_iconst ?_
                      refine ev_goto f350_36 ?_
                      refine ev_ret rfl (by decide) (by decide) ?_
                      show jEv _ _ _ _ _ _ _ (_, [(2, 42), (0, a1), (0, a2), (0, a3), (0, x4), (1, (a2 + 3 * x4)), (9, 0), (0, (60 * a1 + a2 + 3 * x4))], [(0, 1)], _, _, _)
                      refine ev_ifne f352_148 (fun c80160 => ?_) (fun c80160 => absurd c80160 (by omega))
                      refine ev_aload_n rfl ?_
                      refine g_getp (r := 42) (c := 74) g1 ad42 (by decide) (by decide) rf42_56 ft12_56 ?_
                      refine ev_iload rfl ?_
                      refine ev_aload_n rfl ?_
                      refine g_getp (r := 42) (c := 81) g1 ad42 (by decide) (by decide) rf42_64 ft12_64 ?_
                      refine ev_iload rfl ?_
                      refine g_laldv (v := v80133) g1 ad81 (by omega) (by omega) (ev80133) ?_
                      refine g_l2iG (fun v80161 ev80161 lv80161 uv80161 => ?_)
                      obtain rfl : v80134 = v80161 := by omega
                      refine g_iast g1 ad74 rt74 (fun _ => rfl) (by omega) (by omega) (by omega) (by omega) (fun h80162 e80162 g80162 => ?_)
                      have k80162 := k1.wr e80162 rfl
                      refine ev_aload_n rfl ?_
                      refine g_getp (r := 42) (c := 75) g80162 ad42 (by decide) (by decide) rf42_57 ft12_57 ?_
                      refine ev_iload rfl ?_
                      refine ev_aload_n rfl ?_
                      refine g_getp (r := 42) (c := 81) g80162 ad42 (by decide) (by decide) rf42_64 ft12_64 ?_
                      refine ev_iload rfl ?_
                      refine ev_iconst ?_
                      refine ev_iadd (r := (60 * a1 + a2 + 3 * x4 + 1)) (by unfold w32; omega) ?_
                      refine g_laldv (v := v80135) g80162 ad81 (by omega) (by omega) (((jw_ne e80162 (Or.inl (by decide))).trans ev80135)) ?_
                      refine g_l2iG (fun v80163 ev80163 lv80163 uv80163 => ?_)
                      obtain rfl : v80136 = v80163 := by omega
                      refine g_iast g80162 ad75 rt75 (fun _ => rfl) (by omega) (by omega) (by omega) (by omega) (fun h80164 e80164 g80164 => ?_)
                      have k80164 := k80162.wr e80164 rfl
                      refine ev_aload_n rfl ?_
                      refine g_getp (r := 42) (c := 76) g80164 ad42 (by decide) (by decide) rf42_58 ft12_58 ?_
                      refine ev_iload rfl ?_
                      refine ev_aload_n rfl ?_
                      refine g_getp (r := 42) (c := 81) g80164 ad42 (by decide) (by decide) rf42_64 ft12_64 ?_
                      refine ev_iload rfl ?_
                      refine ev_iconst ?_
                      refine ev_iadd (r := (60 * a1 + a2 + 3 * x4 + 2)) (by unfold w32; omega) ?_
                      refine g_laldv (v := v80137) g80164 ad81 (by omega) (by omega) (((jw_ne e80164 (Or.inl (by decide))).trans ((jw_ne e80162 (Or.inl (by decide))).trans ev80137))) ?_
                      refine g_l2iG (fun v80165 ev80165 lv80165 uv80165 => ?_)
                      obtain rfl : v80138 = v80165 := by omega
                      refine g_iast g80164 ad76 rt76 (fun _ => rfl) (by omega) (by omega) (by omega) (by omega) (fun h80166 e80166 g80166 => ?_)
                      have k80166 := k80164.wr e80166 rfl
                      refine ev_iinc (w := (x4 + 1)) (L' := [(2, 42), (0, a1), (0, a2), (0, a3), (0, (x4 + 1)), (1, (a2 + 3 * x4)), (9, 0), (0, (60 * a1 + a2 + 3 * x4))]) rfl (by unfold w32; omega) rfl ?_
                      refine ev_goto f352_58 ?_
                      exact ih _ _ _ _ g80166 k80166 (by omega) (by omega) (by omega) (by omega) (by omega) (by omega) (by omega) (by omega) (by omega) (al_succ (P := Good h 81 a1 a2 (h.2.2 80 (a1).toNat)) (x := x4) (by omega) H0 (Good.mk k1 (fun _ => rfl) ev80133 ev80134 ev80135 ev80136 ev80137 ev80138 (i1 := (60 * a1 + a2 + 3 * x4)) (i2 := (60 * a1 + a2 + 3 * x4 + 1)) (i3 := (60 * a1 + a2 + 3 * x4 + 2)) (by omega) (by omega) (by omega) (by omega) (by rw [((k1.v (a := 80) (i := (a1).toNat) rfl).symm.trans (ev80131))]; omega) (by unfold dOk3; omega))) H1 (DE.step H2 (by omega) (by decide) (by decide) (by decide) k1 (fun _ => rfl) ev80133 ev80134 ev80135 ev80136 ev80137 ev80138 (i1 := (60 * a1 + a2 + 3 * x4)) (i2 := (60 * a1 + a2 + 3 * x4 + 1)) (i3 := (60 * a1 + a2 + 3 * x4 + 2)) (by omega) (by omega) (by omega) e80162 e80164 e80166) (by omega)
        · have c80132b := jcmpL_ltN c80132
          refine ev_iload rfl ?_
          exact ev_ret rfl (by decide) (by decide) ⟨_, rfl, g1, k1, ⟨Or.inr ⟨by omega, Or.inr (Or.inl ⟨H1, ⟨by omega, by omega, fun t t0 t1 => H0 t t0 (by omega), fun hr => fun z => by have z1 := z.1; have z2 := z.2.1; rw [((k1.v (a := 80) (i := (a1).toNat) rfl).symm.trans (ev80131))] at z2; omega⟩⟩)⟩, H2.to (by omega)⟩⟩
set_option maxHeartbeats 4000000 in
theorem t352 {G : GH} {h : JH} (g : Gd G h) {a1 : Int} (la1 : (-2147483648) ≤ a1) (ua1 : a1 ≤ 2147483647) {a2 : Int} (la2 : (-2147483648) ≤ a2) (ua2 : a2 ≤ 2147483647) {a3 : Int} (la3 : (-2147483648) ≤ a3) (ua3 : a3 ≤ 2147483647) : jOk 3 0 0 352 [(2, 42), (0, a1), (0, a2), (0, a3)] h (fun v h' => ∃ r : Int, v = some (0, r) ∧ Gd G h' ∧ Kp [(74, 0), (75, 0), (76, 0)] h h' ∧ (DaR h a1 a2 a3 r) ∧ DE h h' 81 74 75 76 a1 a2 r) := by
  refine ⟨by decide, by rw [ml352]; exact Nat.le_of_ble_eq_true rfl, ?_⟩
  rw [ml352, pp352]
  show jEv _ none _ c352_0 0 0 _ (c352_0, [(2, 42), (0, a1), (0, a2), (0, a3), (9, 0), (9, 0), (9, 0), (9, 0)], [], h, 0, 0)
  have k0 := Kp.rf [(74, 0), (75, 0), (76, 0)] h
  refine ev_iload_n rfl ?_
  refine ev_in (d := 1) (a := 0) (b := 0) (cd' := c370_0) (m := 1) (L0 := [(0, a1)]) (jcall_s (A := [(0, a1)]) (S' := []) (by decide) rfl (Nat.le_of_ble_eq_true rfl)) (by decide) ml370 pp370 (Nat.le_of_ble_eq_true rfl) rfl (by decide) (by decide) ?_
  refine ev_iload_n rfl ?_
  refine ev_iconst ?_
  refine ev_iconst ?_
  refine ev_in (d := 0) (a := 0) (b := 0) (cd' := c242_0) (m := 3) (L0 := [(0, a1), (0, 0), (0, 5)]) (jcall_s (A := [(0, 5), (0, 0), (0, a1)]) (S' := []) (by decide) rfl (Nat.le_of_ble_eq_true rfl)) (by decide) ml242 pp242 (Nat.le_of_ble_eq_true rfl) rfl (by decide) (by decide) ?_
  refine ev_iload_n rfl ?_
  refine ev_iload_n rfl ?_
  refine ev_icmplt f242_14 (fun c80167 => ?_) (fun c80167 => ?_)
  · refine ev_iconst ?_
    refine ev_ret rfl (by decide) (by decide) ?_
    show jEv _ _ _ _ _ _ _ (_, [(0, a1)], [(0, 0)], _, _, _)
    refine ev_ret rfl (by decide) (by decide) ?_
    show jEv _ _ _ _ _ _ _ (_, [(2, 42), (0, a1), (0, a2), (0, a3), (9, 0), (9, 0), (9, 0), (9, 0)], [(0, 0)], _, _, _)
    refine ev_ifeq f352_17 (fun c80168 => ?_) (fun c80168 => absurd c80168 (by omega))
    refine ev_iconst ?_
    exact ev_ret rfl (by decide) (by decide) ⟨_, rfl, g, k0, ⟨Or.inl ⟨by omega, rfl⟩, DE.start (by omega)⟩⟩
  · refine ev_iload_n rfl ?_
    refine ev_iload_n rfl ?_
    refine ev_icmpgt f242_14 (fun c80169 => ?_) (fun c80169 => ?_)
    · refine ev_iconst ?_
      refine ev_ret rfl (by decide) (by decide) ?_
      show jEv _ _ _ _ _ _ _ (_, [(0, a1)], [(0, 0)], _, _, _)
      refine ev_ret rfl (by decide) (by decide) ?_
      show jEv _ _ _ _ _ _ _ (_, [(2, 42), (0, a1), (0, a2), (0, a3), (9, 0), (9, 0), (9, 0), (9, 0)], [(0, 0)], _, _, _)
      refine ev_ifeq f352_17 (fun c80170 => ?_) (fun c80170 => absurd c80170 (by omega))
      refine ev_iconst ?_
      exact ev_ret rfl (by decide) (by decide) ⟨_, rfl, g, k0, ⟨Or.inl ⟨by omega, rfl⟩, DE.start (by omega)⟩⟩
    · refine ev_iconst ?_
      refine ev_goto f242_15 ?_
      refine ev_ret rfl (by decide) (by decide) ?_
      show jEv _ _ _ _ _ _ _ (_, [(0, a1)], [(0, 1)], _, _, _)
      refine ev_ret rfl (by decide) (by decide) ?_
      show jEv _ _ _ _ _ _ _ (_, [(2, 42), (0, a1), (0, a2), (0, a3), (9, 0), (9, 0), (9, 0), (9, 0)], [(0, 1)], _, _, _)
      refine ev_ifeq f352_17 (fun c80171 => absurd c80171 (by omega)) (fun c80171 => ?_)
      refine ev_iload_n rfl ?_
      refine ev_iconst ?_
      refine ev_bipush ?_
      refine ev_in (d := 1) (a := 0) (b := 0) (cd' := c242_0) (m := 3) (L0 := [(0, a3), (0, 1), (0, 20)]) (jcall_s (A := [(0, 20), (0, 1), (0, a3)]) (S' := []) (by decide) rfl (Nat.le_of_ble_eq_true rfl)) (by decide) ml242 pp242 (Nat.le_of_ble_eq_true rfl) rfl (by decide) (by decide) ?_
      refine ev_iload_n rfl ?_
      refine ev_iload_n rfl ?_
      refine ev_icmplt f242_14 (fun c80172 => ?_) (fun c80172 => ?_)
      · refine ev_iconst ?_
        refine ev_ret rfl (by decide) (by decide) ?_
        show jEv _ _ _ _ _ _ _ (_, [(2, 42), (0, a1), (0, a2), (0, a3), (9, 0), (9, 0), (9, 0), (9, 0)], [(0, 0)], _, _, _)
        refine ev_ifne f352_19 (fun c80173 => absurd c80173 (by omega)) (fun c80173 => ?_)
        refine ev_iconst ?_
        exact ev_ret rfl (by decide) (by decide) ⟨_, rfl, g, k0, ⟨Or.inl ⟨by omega, rfl⟩, DE.start (by omega)⟩⟩
      · refine ev_iload_n rfl ?_
        refine ev_iload_n rfl ?_
        refine ev_icmpgt f242_14 (fun c80174 => ?_) (fun c80174 => ?_)
        · refine ev_iconst ?_
          refine ev_ret rfl (by decide) (by decide) ?_
          show jEv _ _ _ _ _ _ _ (_, [(2, 42), (0, a1), (0, a2), (0, a3), (9, 0), (9, 0), (9, 0), (9, 0)], [(0, 0)], _, _, _)
          refine ev_ifne f352_19 (fun c80175 => absurd c80175 (by omega)) (fun c80175 => ?_)
          refine ev_iconst ?_
          exact ev_ret rfl (by decide) (by decide) ⟨_, rfl, g, k0, ⟨Or.inl ⟨by omega, rfl⟩, DE.start (by omega)⟩⟩
        · refine ev_iconst ?_
          refine ev_goto f242_15 ?_
          refine ev_ret rfl (by decide) (by decide) ?_
          show jEv _ _ _ _ _ _ _ (_, [(2, 42), (0, a1), (0, a2), (0, a3), (9, 0), (9, 0), (9, 0), (9, 0)], [(0, 1)], _, _, _)
          refine ev_ifne f352_19 (fun c80176 => ?_) (fun c80176 => absurd c80176 (by omega))
          refine ev_aload_n rfl ?_
          refine g_getp (r := 42) (c := 79) g ad42 (by decide) (by decide) rf42_62 ft12_62 ?_
          refine ev_iload_n rfl ?_
          refine g_iald g ad79 rt79 (by omega) (by omega) (fun v80177 ev80177 lv80177 uv80177 => ?_)
          refine ev_iconst ?_
          refine ev_icmpeq f352_43 (fun c80178 => ?_) (fun c80178 => ?_)
          · refine ev_aload_n rfl ?_
            refine g_getp (r := 42) (c := 79) g ad42 (by decide) (by decide) rf42_62 ft12_62 ?_
            refine ev_iload_n rfl ?_
            refine g_ialdv (v := v80177) g ad79 (by omega) (by omega) (ev80177) ?_
            refine ev_iconst ?_
            refine ev_icmpne f352_55 (fun c80179 => absurd c80179 (by omega)) (fun c80179 => ?_)
            refine ev_iconst ?_
            exact ev_ret rfl (by decide) (by decide) ⟨_, rfl, g, k0, ⟨Or.inr ⟨by omega, Or.inl ⟨by rw [ev80177]; omega, rfl⟩⟩, DE.start (by omega)⟩⟩
          · refine ev_aload_n rfl ?_
            refine g_getp (r := 42) (c := 79) g ad42 (by decide) (by decide) rf42_62 ft12_62 ?_
            refine ev_iload_n rfl ?_
            refine g_ialdv (v := v80177) g ad79 (by omega) (by omega) (ev80177) ?_
            refine ev_bipush ?_
            refine ev_icmpeq f352_43 (fun c80180 => ?_) (fun c80180 => ?_)
            · refine ev_aload_n rfl ?_
              refine g_getp (r := 42) (c := 79) g ad42 (by decide) (by decide) rf42_62 ft12_62 ?_
              refine ev_iload_n rfl ?_
              refine g_ialdv (v := v80177) g ad79 (by omega) (by omega) (ev80177) ?_
              refine ev_iconst ?_
              refine ev_icmpne f352_55 (fun c80181 => ?_) (fun c80181 => absurd c80181 (by omega))
              refine ev_iconst ?_
              refine ev_istore (L' := [(2, 42), (0, a1), (0, a2), (0, a3), (0, 0), (9, 0), (9, 0), (9, 0)]) (Nat.le_of_ble_eq_true rfl) rfl ?_
              exact (t352_l la1 ua1 la2 ua2 la3 ua3 42) _ _ _ _ g k0 (by omega) (by omega) (by omega) (by omega) (by omega) (by omega) (by omega) (by omega) (by omega) (fun t t0 t1 => by omega) (by rw [(ev80177)]; omega) (DE.start (by omega)) (by omega)
            · refine ev_bipush ?_
              exact ev_ret rfl (by decide) (by decide) ⟨_, rfl, g, k0, ⟨Or.inr ⟨by omega, Or.inr (Or.inr ⟨by rw [ev80177]; omega, by rw [ev80177]; omega, rfl⟩)⟩, DE.start (by omega)⟩⟩
set_option maxHeartbeats 4000000 in
theorem t206 {G : GH} {h : JH} (g : Gd G h) {a1 : Int} (la1 : (-2147483648) ≤ a1) (ua1 : a1 ≤ 2147483647) {a2 : Int} (la2 : (-2147483648) ≤ a2) (ua2 : a2 ≤ 2147483647) {a3 : Int} (la3 : (-2147483648) ≤ a3) (ua3 : a3 ≤ 2147483647) {a4 : Int} (la4 : (-2147483648) ≤ a4) (ua4 : a4 ≤ 2147483647) : jOk 2 0 0 206 [(2, 0), (0, a1), (0, a2), (0, a3), (0, a4)] h (fun v h' => ∃ r : Int, v = some (0, r) ∧ Gd G h' ∧ Kp [(34, 0), (35, 0), (36, 0)] h h' ∧ DyE h h' 34 35 36 a1 a2 a3 a4) := by
  refine ⟨by decide, by rw [ml206]; exact Nat.le_of_ble_eq_true rfl, ?_⟩
  rw [ml206, pp206]
  show jEv _ none _ c206_0 0 0 _ (c206_0, [(2, 0), (0, a1), (0, a2), (0, a3), (0, a4)], [], h, 0, 0)
  have k0 := Kp.rf [(34, 0), (35, 0), (36, 0)] h
  refine ev_iload_n rfl ?_
  refine ev_iflt f206_20 (fun c80222 => ?_) (fun c80222 => ?_)
  · refine ev_iconst ?_
    exact ev_ret rfl (by decide) (by decide) ⟨_, rfl, g, k0, Or.inl ⟨by unfold DV; omega, fun _ => rfl, fun _ => rfl, fun _ => rfl⟩⟩
  · refine ev_iload_n rfl ?_
    refine ev_bipush ?_
    refine ev_icmpge f206_20 (fun c80223 => ?_) (fun c80223 => ?_)
    · refine ev_iconst ?_
      exact ev_ret rfl (by decide) (by decide) ⟨_, rfl, g, k0, Or.inl ⟨by unfold DV; omega, fun _ => rfl, fun _ => rfl, fun _ => rfl⟩⟩
    · refine ev_iload_n rfl ?_
      refine ev_iload_n rfl ?_
      refine ev_iload rfl ?_
      refine ev_in (d := 0) (a := 0) (b := 0) (cd' := c134_0) (m := 3) (L0 := [(0, a2), (0, a3), (0, a4)]) (jcall_s (A := [(0, a4), (0, a3), (0, a2)]) (S' := []) (by decide) rfl (Nat.le_of_ble_eq_true rfl)) (by decide) ml134 pp134 (Nat.le_of_ble_eq_true rfl) rfl (by decide) (by decide) ?_
      refine ev_iload_n rfl ?_
      refine ev_iflt f134_35 (fun c80224 => ?_) (fun c80224 => ?_)
      · refine ev_iconst ?_
        refine ev_ret rfl (by decide) (by decide) ?_
        show jEv _ _ _ _ _ _ _ (_, [(2, 0), (0, a1), (0, a2), (0, a3), (0, a4)], [(0, 0)], _, _, _)
        refine ev_ifne f206_22 (fun c80225 => absurd c80225 (by omega)) (fun c80225 => ?_)
        refine ev_iconst ?_
        exact ev_ret rfl (by decide) (by decide) ⟨_, rfl, g, k0, Or.inl ⟨by unfold DV; omega, fun _ => rfl, fun _ => rfl, fun _ => rfl⟩⟩
      · refine ev_iload_n rfl ?_
        refine ev_sipush ?_
        refine ev_icmpgt f134_35 (fun c80226 => ?_) (fun c80226 => ?_)
        · refine ev_iconst ?_
          refine ev_ret rfl (by decide) (by decide) ?_
          show jEv _ _ _ _ _ _ _ (_, [(2, 0), (0, a1), (0, a2), (0, a3), (0, a4)], [(0, 0)], _, _, _)
          refine ev_ifne f206_22 (fun c80227 => absurd c80227 (by omega)) (fun c80227 => ?_)
          refine ev_iconst ?_
          exact ev_ret rfl (by decide) (by decide) ⟨_, rfl, g, k0, Or.inl ⟨by unfold DV; omega, fun _ => rfl, fun _ => rfl, fun _ => rfl⟩⟩
        · refine ev_iload_n rfl ?_
          refine ev_iflt f134_35 (fun c80228 => ?_) (fun c80228 => ?_)
          · refine ev_iconst ?_
            refine ev_ret rfl (by decide) (by decide) ?_
            show jEv _ _ _ _ _ _ _ (_, [(2, 0), (0, a1), (0, a2), (0, a3), (0, a4)], [(0, 0)], _, _, _)
            refine ev_ifne f206_22 (fun c80229 => absurd c80229 (by omega)) (fun c80229 => ?_)
            refine ev_iconst ?_
            exact ev_ret rfl (by decide) (by decide) ⟨_, rfl, g, k0, Or.inl ⟨by unfold DV; omega, fun _ => rfl, fun _ => rfl, fun _ => rfl⟩⟩
          · refine ev_iload_n rfl ?_
            refine ev_bipush ?_
            refine ev_icmpgt f134_35 (fun c80230 => ?_) (fun c80230 => ?_)
            · refine ev_iconst ?_
              refine ev_ret rfl (by decide) (by decide) ?_
              show jEv _ _ _ _ _ _ _ (_, [(2, 0), (0, a1), (0, a2), (0, a3), (0, a4)], [(0, 0)], _, _, _)
              refine ev_ifne f206_22 (fun c80231 => absurd c80231 (by omega)) (fun c80231 => ?_)
              refine ev_iconst ?_
              exact ev_ret rfl (by decide) (by decide) ⟨_, rfl, g, k0, Or.inl ⟨by unfold DV; omega, fun _ => rfl, fun _ => rfl, fun _ => rfl⟩⟩
            · refine ev_iload_n rfl ?_
              refine ev_iflt f134_35 (fun c80232 => ?_) (fun c80232 => ?_)
              · refine ev_iconst ?_
                refine ev_ret rfl (by decide) (by decide) ?_
                show jEv _ _ _ _ _ _ _ (_, [(2, 0), (0, a1), (0, a2), (0, a3), (0, a4)], [(0, 0)], _, _, _)
                refine ev_ifne f206_22 (fun c80233 => absurd c80233 (by omega)) (fun c80233 => ?_)
                refine ev_iconst ?_
                exact ev_ret rfl (by decide) (by decide) ⟨_, rfl, g, k0, Or.inl ⟨by unfold DV; omega, fun _ => rfl, fun _ => rfl, fun _ => rfl⟩⟩
              · refine ev_iload_n rfl ?_
                refine ev_bipush ?_
                refine ev_icmpgt f134_35 (fun c80234 => ?_) (fun c80234 => ?_)
                · refine ev_iconst ?_
                  refine ev_ret rfl (by decide) (by decide) ?_
                  show jEv _ _ _ _ _ _ _ (_, [(2, 0), (0, a1), (0, a2), (0, a3), (0, a4)], [(0, 0)], _, _, _)
                  refine ev_ifne f206_22 (fun c80235 => absurd c80235 (by omega)) (fun c80235 => ?_)
                  refine ev_iconst ?_
                  exact ev_ret rfl (by decide) (by decide) ⟨_, rfl, g, k0, Or.inl ⟨by unfold DV; omega, fun _ => rfl, fun _ => rfl, fun _ => rfl⟩⟩
                · refine ev_iconst ?_
                  refine ev_goto f134_36 ?_
                  refine ev_ret rfl (by decide) (by decide) ?_
                  show jEv _ _ _ _ _ _ _ (_, [(2, 0), (0, a1), (0, a2), (0, a3), (0, a4)], [(0, 1)], _, _, _)
                  refine ev_ifne f206_22 (fun c80236 => ?_) (fun c80236 => absurd c80236 (by omega))
                  refine ev_aload_n rfl ?_
                  refine g_getp (r := 0) (c := 26) g ad0 (by decide) (by decide) rf0_11 ft11_11 ?_
                  refine ev_iload_n rfl ?_
                  refine ev_iload_n rfl ?_
                  refine ev_iload_n rfl ?_
                  refine ev_iload rfl ?_
                  refine ev_in (d := 0) (a := 0) (b := 0) (cd' := c135_0) (m := 5) (L0 := [(2, 26), (0, a1), (0, a2), (0, a3), (0, a4)]) (jcall_v (A := [(0, a4), (0, a3), (0, a2), (0, a1)]) (S' := []) (r := 26) rfl (g.lt ad26) (g.tg ad26) (Nat.le_of_ble_eq_true rfl)) (by decide) ml135 pp135 (Nat.le_of_ble_eq_true rfl) rfl (by decide) (by decide) ?_
                  refine ev_iload_n rfl ?_
                  refine ev_iflt f135_32 (fun c80237 => absurd c80237 (by omega)) (fun c80237 => ?_)
                  refine ev_iload_n rfl ?_
                  refine ev_bipush ?_
                  refine ev_icmpge f135_32 (fun c80238 => absurd c80238 (by omega)) (fun c80238 => ?_)
                  refine ev_aload_n rfl ?_
                  refine g_getp (r := 26) (c := 34) g ad26 (by decide) (by decide) rf26_12 ft9_12 ?_
                  refine ev_iload_n rfl ?_
                  refine ev_iload_n rfl ?_
                  refine g_iast g ad34 rt34 (fun _ => rfl) (by omega) (by omega) (by omega) (by omega) (fun h80239 e80239 g80239 => ?_)
                  have k80239 := k0.wr e80239 rfl
                  refine ev_aload_n rfl ?_
                  refine g_getp (r := 26) (c := 35) g80239 ad26 (by decide) (by decide) rf26_13 ft9_13 ?_
                  refine ev_iload_n rfl ?_
                  refine ev_iload_n rfl ?_
                  refine g_iast g80239 ad35 rt35 (fun _ => rfl) (by omega) (by omega) (by omega) (by omega) (fun h80240 e80240 g80240 => ?_)
                  have k80240 := k80239.wr e80240 rfl
                  refine ev_aload_n rfl ?_
                  refine g_getp (r := 26) (c := 36) g80240 ad26 (by decide) (by decide) rf26_14 ft9_14 ?_
                  refine ev_iload_n rfl ?_
                  refine ev_iload rfl ?_
                  refine g_iast g80240 ad36 rt36 (fun _ => rfl) (by omega) (by omega) (by omega) (by omega) (fun h80241 e80241 g80241 => ?_)
                  have k80241 := k80240.wr e80241 rfl
                  refine ev_ret rfl (by decide) (by decide) ?_
                  show jEv _ _ _ _ _ _ _ (_, [(2, 0), (0, a1), (0, a2), (0, a3), (0, a4)], [], _, _, _)
                  refine ev_iconst ?_
                  exact ev_ret rfl (by decide) (by decide) ⟨_, rfl, g80241, k80241, Or.inr ⟨by unfold DV; omega, (Up.kp (Up.kp (Up.mk2 (i := a1) (i' := a1) (v' := a2) e80239 (by omega) (by omega)) ((Kp.rf [(35, 0)] _).wr e80240 rfl) (fun _ => rfl)) ((Kp.rf [(36, 0)] _).wr e80241 rfl) (fun _ => rfl)), (Up.kp (Up.pk ((Kp.rf [(34, 0)] _).wr e80239 rfl) (fun _ => rfl) (Up.mk2 (i := a1) (i' := a1) (v' := a3) e80240 (by omega) (by omega))) ((Kp.rf [(36, 0)] _).wr e80241 rfl) (fun _ => rfl)), (Up.pk ((Kp.rf [(34, 0)] _).wr e80239 rfl) (fun _ => rfl) (Up.pk ((Kp.rf [(35, 0)] _).wr e80240 rfl) (fun _ => rfl) (Up.mk2 (i := a1) (i' := a1) (v' := a4) e80241 (by omega) (by omega))))⟩⟩
set_option maxHeartbeats 4000000 in
theorem t351 {G : GH} {h : JH} (g : Gd G h) {a1 : Int} (la1 : (-2147483648) ≤ a1) (ua1 : a1 ≤ 2147483647) {a2 : Int} (la2 : (-2147483648) ≤ a2) (ua2 : a2 ≤ 2147483647) {a3 : Int} (la3 : (-2147483648) ≤ a3) (ua3 : a3 ≤ 2147483647) {a4 : Int} (la4 : (-2147483648) ≤ a4) (ua4 : a4 ≤ 2147483647) : jOk 3 0 0 351 [(2, 42), (0, a1), (0, a2), (0, a3), (0, a4)] h (fun v h' => ∃ r : Int, v = some (0, r) ∧ Gd G h' ∧ Kp [(74, 0), (75, 0), (76, 0)] h h' ∧ DyE h h' 74 75 76 a1 a2 a3 a4) := by
  refine ⟨by decide, by rw [ml351]; exact Nat.le_of_ble_eq_true rfl, ?_⟩
  rw [ml351, pp351]
  show jEv _ none _ c351_0 0 0 _ (c351_0, [(2, 42), (0, a1), (0, a2), (0, a3), (0, a4)], [], h, 0, 0)
  have k0 := Kp.rf [(74, 0), (75, 0), (76, 0)] h
  refine ev_iload_n rfl ?_
  refine ev_iconst ?_
  refine ev_bipush ?_
  refine ev_in (d := 1) (a := 0) (b := 0) (cd' := c242_0) (m := 3) (L0 := [(0, a1), (0, 0), (0, 19)]) (jcall_s (A := [(0, 19), (0, 0), (0, a1)]) (S' := []) (by decide) rfl (Nat.le_of_ble_eq_true rfl)) (by decide) ml242 pp242 (Nat.le_of_ble_eq_true rfl) rfl (by decide) (by decide) ?_
  refine ev_iload_n rfl ?_
  refine ev_iload_n rfl ?_
  refine ev_icmplt f242_14 (fun c80302 => ?_) (fun c80302 => ?_)
  · refine ev_iconst ?_
    refine ev_ret rfl (by decide) (by decide) ?_
    show jEv _ _ _ _ _ _ _ (_, [(2, 42), (0, a1), (0, a2), (0, a3), (0, a4)], [(0, 0)], _, _, _)
    refine ev_ifeq f351_20 (fun c80303 => ?_) (fun c80303 => absurd c80303 (by omega))
    refine ev_iconst ?_
    exact ev_ret rfl (by decide) (by decide) ⟨_, rfl, g, k0, Or.inl ⟨by unfold DV; omega, fun _ => rfl, fun _ => rfl, fun _ => rfl⟩⟩
  · refine ev_iload_n rfl ?_
    refine ev_iload_n rfl ?_
    refine ev_icmpgt f242_14 (fun c80304 => ?_) (fun c80304 => ?_)
    · refine ev_iconst ?_
      refine ev_ret rfl (by decide) (by decide) ?_
      show jEv _ _ _ _ _ _ _ (_, [(2, 42), (0, a1), (0, a2), (0, a3), (0, a4)], [(0, 0)], _, _, _)
      refine ev_ifeq f351_20 (fun c80305 => ?_) (fun c80305 => absurd c80305 (by omega))
      refine ev_iconst ?_
      exact ev_ret rfl (by decide) (by decide) ⟨_, rfl, g, k0, Or.inl ⟨by unfold DV; omega, fun _ => rfl, fun _ => rfl, fun _ => rfl⟩⟩
    · refine ev_iconst ?_
      refine ev_goto f242_15 ?_
      refine ev_ret rfl (by decide) (by decide) ?_
      show jEv _ _ _ _ _ _ _ (_, [(2, 42), (0, a1), (0, a2), (0, a3), (0, a4)], [(0, 1)], _, _, _)
      refine ev_ifeq f351_20 (fun c80306 => absurd c80306 (by omega)) (fun c80306 => ?_)
      refine ev_iload_n rfl ?_
      refine ev_iload_n rfl ?_
      refine ev_iload rfl ?_
      refine ev_in (d := 1) (a := 0) (b := 0) (cd' := c350_0) (m := 3) (L0 := [(0, a2), (0, a3), (0, a4)]) (jcall_s (A := [(0, a4), (0, a3), (0, a2)]) (S' := []) (by decide) rfl (Nat.le_of_ble_eq_true rfl)) (by decide) ml350 pp350 (Nat.le_of_ble_eq_true rfl) rfl (by decide) (by decide) ?_
      refine ev_iload_n rfl ?_
      refine ev_iconst ?_
      refine ev_sipush ?_
      refine ev_in (d := 0) (a := 0) (b := 0) (cd' := c242_0) (m := 3) (L0 := [(0, a2), (0, 0), (0, 999)]) (jcall_s (A := [(0, 999), (0, 0), (0, a2)]) (S' := []) (by decide) rfl (Nat.le_of_ble_eq_true rfl)) (by decide) ml242 pp242 (Nat.le_of_ble_eq_true rfl) rfl (by decide) (by decide) ?_
      refine ev_iload_n rfl ?_
      refine ev_iload_n rfl ?_
      refine ev_icmplt f242_14 (fun c80307 => ?_) (fun c80307 => ?_)
      · refine ev_iconst ?_
        refine ev_ret rfl (by decide) (by decide) ?_
        show jEv _ _ _ _ _ _ _ (_, [(0, a2), (0, a3), (0, a4)], [(0, 0)], _, _, _)
        refine ev_ifeq f350_35 (fun c80308 => ?_) (fun c80308 => absurd c80308 (by omega))
        refine ev_iconst ?_
        refine ev_ret rfl (by decide) (by decide) ?_
        show jEv _ _ _ _ _ _ _ (_, [(2, 42), (0, a1), (0, a2), (0, a3), (0, a4)], [(0, 0)], _, _, _)
        refine ev_ifne f351_22 (fun c80309 => absurd c80309 (by omega)) (fun c80309 => ?_)
        refine ev_iconst ?_
        exact ev_ret rfl (by decide) (by decide) ⟨_, rfl, g, k0, Or.inl ⟨by unfold DV; omega, fun _ => rfl, fun _ => rfl, fun _ => rfl⟩⟩
      · refine ev_iload_n rfl ?_
        refine ev_iload_n rfl ?_
        refine ev_icmpgt f242_14 (fun c80310 => ?_) (fun c80310 => ?_)
        · refine ev_iconst ?_
          refine ev_ret rfl (by decide) (by decide) ?_
          show jEv _ _ _ _ _ _ _ (_, [(0, a2), (0, a3), (0, a4)], [(0, 0)], _, _, _)
          refine ev_ifeq f350_35 (fun c80311 => ?_) (fun c80311 => absurd c80311 (by omega))
          refine ev_iconst ?_
          refine ev_ret rfl (by decide) (by decide) ?_
          show jEv _ _ _ _ _ _ _ (_, [(2, 42), (0, a1), (0, a2), (0, a3), (0, a4)], [(0, 0)], _, _, _)
          refine ev_ifne f351_22 (fun c80312 => absurd c80312 (by omega)) (fun c80312 => ?_)
          refine ev_iconst ?_
          exact ev_ret rfl (by decide) (by decide) ⟨_, rfl, g, k0, Or.inl ⟨by unfold DV; omega, fun _ => rfl, fun _ => rfl, fun _ => rfl⟩⟩
        · refine ev_iconst ?_
          refine ev_goto f242_15 ?_
          refine ev_ret rfl (by decide) (by decide) ?_
          show jEv _ _ _ _ _ _ _ (_, [(0, a2), (0, a3), (0, a4)], [(0, 1)], _, _, _)
          refine ev_ifeq f350_35 (fun c80313 => absurd c80313 (by omega)) (fun c80313 => ?_)
          refine ev_iload_n rfl ?_
          refine ev_iconst ?_
          refine ev_bipush ?_
          refine ev_in (d := 0) (a := 0) (b := 0) (cd' := c242_0) (m := 3) (L0 := [(0, a3), (0, 0), (0, 100)]) (jcall_s (A := [(0, 100), (0, 0), (0, a3)]) (S' := []) (by decide) rfl (Nat.le_of_ble_eq_true rfl)) (by decide) ml242 pp242 (Nat.le_of_ble_eq_true rfl) rfl (by decide) (by decide) ?_
          refine ev_iload_n rfl ?_
          refine ev_iload_n rfl ?_
          refine ev_icmplt f242_14 (fun c80314 => ?_) (fun c80314 => ?_)
          · refine ev_iconst ?_
            refine ev_ret rfl (by decide) (by decide) ?_
            show jEv _ _ _ _ _ _ _ (_, [(0, a2), (0, a3), (0, a4)], [(0, 0)], _, _, _)
            refine ev_ifeq f350_35 (fun c80315 => ?_) (fun c80315 => absurd c80315 (by omega))
            refine ev_iconst ?_
            refine ev_ret rfl (by decide) (by decide) ?_
            show jEv _ _ _ _ _ _ _ (_, [(2, 42), (0, a1), (0, a2), (0, a3), (0, a4)], [(0, 0)], _, _, _)
            refine ev_ifne f351_22 (fun c80316 => absurd c80316 (by omega)) (fun c80316 => ?_)
            refine ev_iconst ?_
            exact ev_ret rfl (by decide) (by decide) ⟨_, rfl, g, k0, Or.inl ⟨by unfold DV; omega, fun _ => rfl, fun _ => rfl, fun _ => rfl⟩⟩
          · refine ev_iload_n rfl ?_
            refine ev_iload_n rfl ?_
            refine ev_icmpgt f242_14 (fun c80317 => ?_) (fun c80317 => ?_)
            · refine ev_iconst ?_
              refine ev_ret rfl (by decide) (by decide) ?_
              show jEv _ _ _ _ _ _ _ (_, [(0, a2), (0, a3), (0, a4)], [(0, 0)], _, _, _)
              refine ev_ifeq f350_35 (fun c80318 => ?_) (fun c80318 => absurd c80318 (by omega))
              refine ev_iconst ?_
              refine ev_ret rfl (by decide) (by decide) ?_
              show jEv _ _ _ _ _ _ _ (_, [(2, 42), (0, a1), (0, a2), (0, a3), (0, a4)], [(0, 0)], _, _, _)
              refine ev_ifne f351_22 (fun c80319 => absurd c80319 (by omega)) (fun c80319 => ?_)
              refine ev_iconst ?_
              exact ev_ret rfl (by decide) (by decide) ⟨_, rfl, g, k0, Or.inl ⟨by unfold DV; omega, fun _ => rfl, fun _ => rfl, fun _ => rfl⟩⟩
            · refine ev_iconst ?_
              refine ev_goto f242_15 ?_
              refine ev_ret rfl (by decide) (by decide) ?_
              show jEv _ _ _ _ _ _ _ (_, [(0, a2), (0, a3), (0, a4)], [(0, 1)], _, _, _)
              refine ev_ifeq f350_35 (fun c80320 => absurd c80320 (by omega)) (fun c80320 => ?_)
              refine ev_iload_n rfl ?_
              refine ev_iconst ?_
              refine ev_bipush ?_
              refine ev_in (d := 0) (a := 0) (b := 0) (cd' := c242_0) (m := 3) (L0 := [(0, a4), (0, 0), (0, 99)]) (jcall_s (A := [(0, 99), (0, 0), (0, a4)]) (S' := []) (by decide) rfl (Nat.le_of_ble_eq_true rfl)) (by decide) ml242 pp242 (Nat.le_of_ble_eq_true rfl) rfl (by decide) (by decide) ?_
              refine ev_iload_n rfl ?_
              refine ev_iload_n rfl ?_
              refine ev_icmplt f242_14 (fun c80321 => ?_) (fun c80321 => ?_)
              · refine ev_iconst ?_
                refine ev_ret rfl (by decide) (by decide) ?_
                show jEv _ _ _ _ _ _ _ (_, [(0, a2), (0, a3), (0, a4)], [(0, 0)], _, _, _)
                refine ev_ifeq f350_35 (fun c80322 => ?_) (fun c80322 => absurd c80322 (by omega))
                refine ev_iconst ?_
                refine ev_ret rfl (by decide) (by decide) ?_
                show jEv _ _ _ _ _ _ _ (_, [(2, 42), (0, a1), (0, a2), (0, a3), (0, a4)], [(0, 0)], _, _, _)
                refine ev_ifne f351_22 (fun c80323 => absurd c80323 (by omega)) (fun c80323 => ?_)
                refine ev_iconst ?_
                exact ev_ret rfl (by decide) (by decide) ⟨_, rfl, g, k0, Or.inl ⟨by unfold DV; omega, fun _ => rfl, fun _ => rfl, fun _ => rfl⟩⟩
              · refine ev_iload_n rfl ?_
                refine ev_iload_n rfl ?_
                refine ev_icmpgt f242_14 (fun c80324 => ?_) (fun c80324 => ?_)
                · refine ev_iconst ?_
                  refine ev_ret rfl (by decide) (by decide) ?_
                  show jEv _ _ _ _ _ _ _ (_, [(0, a2), (0, a3), (0, a4)], [(0, 0)], _, _, _)
                  refine ev_ifeq f350_35 (fun c80325 => ?_) (fun c80325 => absurd c80325 (by omega))
                  refine ev_iconst ?_
                  refine ev_ret rfl (by decide) (by decide) ?_
                  show jEv _ _ _ _ _ _ _ (_, [(2, 42), (0, a1), (0, a2), (0, a3), (0, a4)], [(0, 0)], _, _, _)
                  refine ev_ifne f351_22 (fun c80326 => absurd c80326 (by omega)) (fun c80326 => ?_)
                  refine ev_iconst ?_
                  exact ev_ret rfl (by decide) (by decide) ⟨_, rfl, g, k0, Or.inl ⟨by unfold DV; omega, fun _ => rfl, fun _ => rfl, fun _ => rfl⟩⟩
                · refine ev_iconst ?_
                  refine ev_goto f242_15 ?_
                  refine ev_ret rfl (by decide) (by decide) ?_
                  show jEv _ _ _ _ _ _ _ (_, [(0, a2), (0, a3), (0, a4)], [(0, 1)], _, _, _)
                  refine ev_ifeq f350_35 (fun c80327 => absurd c80327 (by omega)) (fun c80327 => ?_)
                  refine ev_iconst ?_
                  refine ev_goto f350_36 ?_
                  refine ev_ret rfl (by decide) (by decide) ?_
                  show jEv _ _ _ _ _ _ _ (_, [(2, 42), (0, a1), (0, a2), (0, a3), (0, a4)], [(0, 1)], _, _, _)
                  refine ev_ifne f351_22 (fun c80328 => ?_) (fun c80328 => absurd c80328 (by omega))
                  refine ev_aload_n rfl ?_
                  refine g_getp (r := 42) (c := 74) g ad42 (by decide) (by decide) rf42_56 ft12_56 ?_
                  refine ev_iload_n rfl ?_
                  refine ev_iload_n rfl ?_
                  refine g_iast g ad74 rt74 (fun _ => rfl) (by omega) (by omega) (by omega) (by omega) (fun h80329 e80329 g80329 => ?_)
                  have k80329 := k0.wr e80329 rfl
                  refine ev_aload_n rfl ?_
                  refine g_getp (r := 42) (c := 75) g80329 ad42 (by decide) (by decide) rf42_57 ft12_57 ?_
                  refine ev_iload_n rfl ?_
                  refine ev_iload_n rfl ?_
                  refine g_iast g80329 ad75 rt75 (fun _ => rfl) (by omega) (by omega) (by omega) (by omega) (fun h80330 e80330 g80330 => ?_)
                  have k80330 := k80329.wr e80330 rfl
                  refine ev_aload_n rfl ?_
                  refine g_getp (r := 42) (c := 76) g80330 ad42 (by decide) (by decide) rf42_58 ft12_58 ?_
                  refine ev_iload_n rfl ?_
                  refine ev_iload rfl ?_
                  refine g_iast g80330 ad76 rt76 (fun _ => rfl) (by omega) (by omega) (by omega) (by omega) (fun h80331 e80331 g80331 => ?_)
                  have k80331 := k80330.wr e80331 rfl
                  refine ev_iconst ?_
                  exact ev_ret rfl (by decide) (by decide) ⟨_, rfl, g80331, k80331, Or.inr ⟨by unfold DV; omega, (Up.kp (Up.kp (Up.mk2 (i := a1) (i' := a1) (v' := a2) e80329 (by omega) (by omega)) ((Kp.rf [(75, 0)] _).wr e80330 rfl) (fun _ => rfl)) ((Kp.rf [(76, 0)] _).wr e80331 rfl) (fun _ => rfl)), (Up.kp (Up.pk ((Kp.rf [(74, 0)] _).wr e80329 rfl) (fun _ => rfl) (Up.mk2 (i := a1) (i' := a1) (v' := a3) e80330 (by omega) (by omega))) ((Kp.rf [(76, 0)] _).wr e80331 rfl) (fun _ => rfl)), (Up.pk ((Kp.rf [(74, 0)] _).wr e80329 rfl) (fun _ => rfl) (Up.pk ((Kp.rf [(75, 0)] _).wr e80330 rfl) (fun _ => rfl) (Up.mk2 (i := a1) (i' := a1) (v' := a4) e80331 (by omega) (by omega))))⟩⟩
set_option maxHeartbeats 4000000 in
theorem t136_l {G : GH} {h : JH} {a1 : Int} (la1 : 0 ≤ a1) (ua1 : a1 ≤ 20) {a2 : Int} (la2 : 1 ≤ a2) (ua2 : a2 ≤ 20) {a3 : Int} (la3 : (-999) ≤ a3) (ua3 : a3 ≤ 999) (F0 : (a1 + (-a2)) ≤ 0) : ∀ N : Nat, (∀ (h1 : JH) (x4 x6 : Int) (j7 j9 : AV), Gd G h1 → Kp [] h h1 → 0 ≤ a1 → a1 ≤ 20 → 1 ≤ a2 → a2 ≤ 20 → (-999) ≤ a3 → a3 ≤ 999 → (-9223372036854775808) ≤ x4 → x4 ≤ 999000000 → (-1) ≤ x6 → x6 ≤ 19 → ((-99000000) * a2 + (-x4) + 99000000 * x6) ≤ 900000000 → x4 ≤ 999000000 → ((-a2) + x6) ≤ (-1) → (a1 + (-x6)) ≤ 1 → x4 = wv h 34 35 36 a2 a3 (a2 - 1 - x6).toNat → (x6 + 1) < N → jEv (jOk 1) none (fun _ => 0) c136_0 0 0 (fun v h' => ∃ r : Int, v = some (1, r) ∧ Gd G h' ∧ Kp [] h h' ∧ (-2979000000) ≤ r ∧ r ≤ 999000000 ∧ r = wv h 34 35 36 a2 a3 (a2 - a1).toNat) (c136_18, [(2, 26), (0, a1), (0, a2), (0, a3), (1, x4), (9, 0), (0, x6), j7, (9, 0), j9, (9, 0)], [], h1, 0, 0)) := by
  intro N
  induction N with
  | zero => exact fun h1 x4 x6 j7 j9 g1 k1 b0 b1 b2 b3 b4 b5 b6 b7 b8 b9 b10 b11 b12 b13 b14 hm => absurd hm (by omega)
  | succ N ih =>
    show _
    intro h1 x4 x6 j7 j9 g1 k1 b0 b1 b2 b3 b4 b5 b6 b7 b8 b9 b10 b11 b12 b13 H0 hm
    refine ev_iload rfl ?_
    refine ev_iflt f136_105 (fun c80409 => ?_) (fun c80409 => ?_)
    · refine ev_lload rfl ?_
      exact ev_ret rfl (by decide) (by decide) ⟨_, rfl, g1, k1, by omega, by omega, H0.trans (by rw [show (a2 - 1 - x6).toNat = (a2 - a1).toNat by omega])⟩
    · refine ev_iload rfl ?_
      refine ev_iload_n rfl ?_
      refine ev_icmplt f136_105 (fun c80410 => ?_) (fun c80410 => ?_)
      · refine ev_lload rfl ?_
        exact ev_ret rfl (by decide) (by decide) ⟨_, rfl, g1, k1, by omega, by omega, H0.trans (by rw [show (a2 - 1 - x6).toNat = (a2 - a1).toNat by omega])⟩
      · refine ev_lload rfl ?_
        refine ev_ldc2_w ?_
        refine ev_aload_n rfl ?_
        refine g_getp (r := 26) (c := 36) g1 ad26 (by decide) (by decide) rf26_14 ft9_14 ?_
        refine ev_iload rfl ?_
        refine g_iald g1 ad36 rt36 (by omega) (by omega) (fun v80411 ev80411 lv80411 uv80411 => ?_)
        refine ev_i2l ?_
        refine ev_lmul (r := (1000000 * v80411)) (by unfold w64; omega) ?_
        refine ev_lsub (r := ((-1000000) * v80411 + x4)) (by unfold w64; omega) ?_
        refine ev_lstore (L' := [(2, 26), (0, a1), (0, a2), (0, a3), (1, x4), (9, 0), (0, x6), (1, ((-1000000) * v80411 + x4)), (9, 0), j9, (9, 0)]) (Nat.le_of_ble_eq_true rfl) rfl ?_
        refine ev_ldc2_w ?_
        refine ev_aload_n rfl ?_
        refine g_getp (r := 26) (c := 34) g1 ad26 (by decide) (by decide) rf26_12 ft9_12 ?_
        refine ev_iload rfl ?_
        refine g_iald g1 ad34 rt34 (by omega) (by omega) (fun v80412 ev80412 lv80412 uv80412 => ?_)
        refine ev_i2l ?_
        refine ev_lmul (r := (1000000 * v80412)) (by unfold w64; omega) ?_
        refine ev_lload rfl ?_
        refine ev_in (d := 0) (a := 0) (b := 0) (cd' := c380_0) (m := 4) (L0 := [(1, (1000000 * v80412)), (9, 0), (1, ((-1000000) * v80411 + x4)), (9, 0)]) (jcall_s (A := [(1, ((-1000000) * v80411 + x4)), (1, (1000000 * v80412))]) (S' := []) (by decide) rfl (Nat.le_of_ble_eq_true rfl)) (by decide) ml380 pp380 (Nat.le_of_ble_eq_true rfl) rfl (by decide) (by decide) ?_
        refine ev_lload_n rfl ?_
        refine ev_lload_n rfl ?_
        refine ev_lcmp ?_
        refine ev_iflt f380_10 (fun c80413 => ?_) (fun c80413 => ?_)
        · have c80413b := jcmpL_lt c80413
          refine ev_lload_n rfl ?_
          refine ev_ret rfl (by decide) (by decide) ?_
          show jEv _ _ _ _ _ _ _ (_, [(2, 26), (0, a1), (0, a2), (0, a3), (1, x4), (9, 0), (0, x6), (1, ((-1000000) * v80411 + x4)), (9, 0), j9, (9, 0)], [(1, ((-1000000) * v80411 + x4))], _, _, _)
          refine ev_lstore (L' := [(2, 26), (0, a1), (0, a2), (0, a3), (1, x4), (9, 0), (0, x6), (1, ((-1000000) * v80411 + x4)), (9, 0), (1, ((-1000000) * v80411 + x4)), (9, 0)]) (Nat.le_of_ble_eq_true rfl) rfl ?_
          refine ev_aload_n rfl ?_
          refine g_getp (r := 26) (c := 35) g1 ad26 (by decide) (by decide) rf26_13 ft9_13 ?_
          refine ev_iload rfl ?_
          refine g_iald g1 ad35 rt35 (by omega) (by omega) (fun v80414 ev80414 lv80414 uv80414 => ?_)
          refine ev_i2l ?_
          refine ev_lload rfl ?_
          obtain ⟨v80415, ev80415, lv80415, uv80415⟩ : ∃ v : Int, v80414 * ((-1000000) * v80411 + x4) = v ∧ -500000000000 ≤ v ∧ v ≤ 500000000000 := ⟨_, rfl, by have := mul_bd (c := v80414) (b := ((-1000000) * v80411 + x4)) (K := 100) (B := 5000000000) (by omega) (by omega) (by omega) (by omega); omega, by have := mul_bd (c := v80414) (b := ((-1000000) * v80411 + x4)) (K := 100) (B := 5000000000) (by omega) (by omega) (by omega) (by omega); omega⟩
          refine ev_lmul (r := v80415) (by rw [ev80415]; unfold w64; omega) ?_
          refine ev_bipush ?_
          refine ev_aload_n rfl ?_
          refine g_getp (r := 26) (c := 35) g1 ad26 (by decide) (by decide) rf26_13 ft9_13 ?_
          refine ev_iload rfl ?_
          refine g_ialdv (v := v80414) g1 ad35 (by omega) (by omega) (ev80414) ?_
          refine ev_isub (r := ((-v80414) + 100)) (by unfold w32; omega) ?_
          refine ev_i2l ?_
          refine ev_lload rfl ?_
          obtain ⟨v80416, ev80416, lv80416, uv80416⟩ : ∃ v : Int, ((-v80414) + 100) * ((-1000000) * v80411 + x4) = v ∧ -500000000000 ≤ v ∧ v ≤ 500000000000 := ⟨_, rfl, by have := mul_bd (c := ((-v80414) + 100)) (b := ((-1000000) * v80411 + x4)) (K := 100) (B := 5000000000) (by omega) (by omega) (by omega) (by omega); omega, by have := mul_bd (c := ((-v80414) + 100)) (b := ((-1000000) * v80411 + x4)) (K := 100) (B := 5000000000) (by omega) (by omega) (by omega) (by omega); omega⟩
          refine ev_lmul (r := v80416) (by rw [ev80416]; unfold w64; omega) ?_
          have zv80416 := sv_bd (c := v80414) (w := ((-1000000) * v80411 + x4)) (bt := ((-1000000) * v80411 + x4)) (B := 999000000) (by omega) (by omega) (by omega) (by omega) ev80415 ev80416 (by omega) (by omega)
          refine ev_ladd (r := (v80415 + v80416)) (by unfold w64; omega) ?_
          refine ev_ldc2_w ?_
          refine ev_call (jcall_s (A := [(1, 100), (1, (v80415 + v80416))]) (S' := []) (by decide) rfl (Nat.le_of_ble_eq_true rfl)) (jOk_le (by decide) (t378 g1 (by omega) (by omega) (by omega) (by omega))) (by decide) (by decide) (fun w80417 h80417 q80417 => ?_)
          obtain ⟨v80418, rfl, g80417, kk80417, lv80418, uv80418, X80417⟩ := q80417
          have k80417 := k1.tr kk80417 (by decide)
          show jEv _ _ _ _ _ _ _ (_, [(2, 26), (0, a1), (0, a2), (0, a3), (1, x4), (9, 0), (0, x6), (1, ((-1000000) * v80411 + x4)), (9, 0), (1, ((-1000000) * v80411 + x4)), (9, 0)], [(1, v80418)], _, _, _)
          refine ev_lstore (L' := [(2, 26), (0, a1), (0, a2), (0, a3), (1, v80418), (9, 0), (0, x6), (1, ((-1000000) * v80411 + x4)), (9, 0), (1, ((-1000000) * v80411 + x4)), (9, 0)]) (Nat.le_of_ble_eq_true rfl) rfl ?_
          refine ev_iinc (w := (x6 - 1)) (L' := [(2, 26), (0, a1), (0, a2), (0, a3), (1, v80418), (9, 0), (0, (x6 - 1)), (1, ((-1000000) * v80411 + x4)), (9, 0), (1, ((-1000000) * v80411 + x4)), (9, 0)]) rfl (by unfold w32; omega) rfl ?_
          refine ev_goto f136_18 ?_
          exact ih _ _ _ _ _ g80417 k80417 (by omega) (by omega) (by omega) (by omega) (by omega) (by omega) (by omega) (by omega) (by omega) (by omega) (by omega) (by omega) (by omega) (by omega) (wv_step (x := x4) (k := x6) (bt := ((-1000000) * v80411 + x4)) H0 (by omega) (by omega) (by omega) k1 (fun _ => rfl) (fun _ => rfl) (fun _ => rfl) ev80412 ev80414 ev80411 (by split <;> omega) ev80415 ev80416 (by omega) (by omega) X80417) (by omega)
        · have c80413b := jcmpL_ltN c80413
          refine ev_lload_n rfl ?_
          refine ev_goto f380_11 ?_
          refine ev_ret rfl (by decide) (by decide) ?_
          show jEv _ _ _ _ _ _ _ (_, [(2, 26), (0, a1), (0, a2), (0, a3), (1, x4), (9, 0), (0, x6), (1, ((-1000000) * v80411 + x4)), (9, 0), j9, (9, 0)], [(1, (1000000 * v80412))], _, _, _)
          refine ev_lstore (L' := [(2, 26), (0, a1), (0, a2), (0, a3), (1, x4), (9, 0), (0, x6), (1, ((-1000000) * v80411 + x4)), (9, 0), (1, (1000000 * v80412)), (9, 0)]) (Nat.le_of_ble_eq_true rfl) rfl ?_
          refine ev_aload_n rfl ?_
          refine g_getp (r := 26) (c := 35) g1 ad26 (by decide) (by decide) rf26_13 ft9_13 ?_
          refine ev_iload rfl ?_
          refine g_iald g1 ad35 rt35 (by omega) (by omega) (fun v80419 ev80419 lv80419 uv80419 => ?_)
          refine ev_i2l ?_
          refine ev_lload rfl ?_
          obtain ⟨v80420, ev80420, lv80420, uv80420⟩ : ∃ v : Int, v80419 * (1000000 * v80412) = v ∧ -500000000000 ≤ v ∧ v ≤ 500000000000 := ⟨_, rfl, by have := mul_bd (c := v80419) (b := (1000000 * v80412)) (K := 100) (B := 5000000000) (by omega) (by omega) (by omega) (by omega); omega, by have := mul_bd (c := v80419) (b := (1000000 * v80412)) (K := 100) (B := 5000000000) (by omega) (by omega) (by omega) (by omega); omega⟩
          refine ev_lmul (r := v80420) (by rw [ev80420]; unfold w64; omega) ?_
          refine ev_bipush ?_
          refine ev_aload_n rfl ?_
          refine g_getp (r := 26) (c := 35) g1 ad26 (by decide) (by decide) rf26_13 ft9_13 ?_
          refine ev_iload rfl ?_
          refine g_ialdv (v := v80419) g1 ad35 (by omega) (by omega) (ev80419) ?_
          refine ev_isub (r := ((-v80419) + 100)) (by unfold w32; omega) ?_
          refine ev_i2l ?_
          refine ev_lload rfl ?_
          obtain ⟨v80421, ev80421, lv80421, uv80421⟩ : ∃ v : Int, ((-v80419) + 100) * ((-1000000) * v80411 + x4) = v ∧ -500000000000 ≤ v ∧ v ≤ 500000000000 := ⟨_, rfl, by have := mul_bd (c := ((-v80419) + 100)) (b := ((-1000000) * v80411 + x4)) (K := 100) (B := 5000000000) (by omega) (by omega) (by omega) (by omega); omega, by have := mul_bd (c := ((-v80419) + 100)) (b := ((-1000000) * v80411 + x4)) (K := 100) (B := 5000000000) (by omega) (by omega) (by omega) (by omega); omega⟩
          refine ev_lmul (r := v80421) (by rw [ev80421]; unfold w64; omega) ?_
          have zv80421 := sv_bd (c := v80419) (w := ((-1000000) * v80411 + x4)) (bt := (1000000 * v80412)) (B := 999000000) (by omega) (by omega) (by omega) (by omega) ev80420 ev80421 (by omega) (by omega)
          refine ev_ladd (r := (v80420 + v80421)) (by unfold w64; omega) ?_
          refine ev_ldc2_w ?_
          refine ev_call (jcall_s (A := [(1, 100), (1, (v80420 + v80421))]) (S' := []) (by decide) rfl (Nat.le_of_ble_eq_true rfl)) (jOk_le (by decide) (t378 g1 (by omega) (by omega) (by omega) (by omega))) (by decide) (by decide) (fun w80422 h80422 q80422 => ?_)
          obtain ⟨v80423, rfl, g80422, kk80422, lv80423, uv80423, X80422⟩ := q80422
          have k80422 := k1.tr kk80422 (by decide)
          show jEv _ _ _ _ _ _ _ (_, [(2, 26), (0, a1), (0, a2), (0, a3), (1, x4), (9, 0), (0, x6), (1, ((-1000000) * v80411 + x4)), (9, 0), (1, (1000000 * v80412)), (9, 0)], [(1, v80423)], _, _, _)
          refine ev_lstore (L' := [(2, 26), (0, a1), (0, a2), (0, a3), (1, v80423), (9, 0), (0, x6), (1, ((-1000000) * v80411 + x4)), (9, 0), (1, (1000000 * v80412)), (9, 0)]) (Nat.le_of_ble_eq_true rfl) rfl ?_
          refine ev_iinc (w := (x6 - 1)) (L' := [(2, 26), (0, a1), (0, a2), (0, a3), (1, v80423), (9, 0), (0, (x6 - 1)), (1, ((-1000000) * v80411 + x4)), (9, 0), (1, (1000000 * v80412)), (9, 0)]) rfl (by unfold w32; omega) rfl ?_
          refine ev_goto f136_18 ?_
          exact ih _ _ _ _ _ g80422 k80422 (by omega) (by omega) (by omega) (by omega) (by omega) (by omega) (by omega) (by omega) (by omega) (by omega) (by omega) (by omega) (by omega) (by omega) (wv_step (x := x4) (k := x6) (bt := (1000000 * v80412)) H0 (by omega) (by omega) (by omega) k1 (fun _ => rfl) (fun _ => rfl) (fun _ => rfl) ev80412 ev80419 ev80411 (by split <;> omega) ev80420 ev80421 (by omega) (by omega) X80422) (by omega)
set_option maxHeartbeats 4000000 in
theorem t136 {G : GH} {h : JH} (g : Gd G h) {a1 : Int} (la1 : 0 ≤ a1) (ua1 : a1 ≤ 20) {a2 : Int} (la2 : 1 ≤ a2) (ua2 : a2 ≤ 20) {a3 : Int} (la3 : (-999) ≤ a3) (ua3 : a3 ≤ 999) (F0 : (a1 + (-a2)) ≤ 0) : jOk 2 0 0 136 [(2, 26), (0, a1), (0, a2), (0, a3)] h (fun v h' => ∃ r : Int, v = some (1, r) ∧ Gd G h' ∧ Kp [] h h' ∧ (-2979000000) ≤ r ∧ r ≤ 999000000 ∧ r = wv h 34 35 36 a2 a3 (a2 - a1).toNat) := by
  refine ⟨by decide, by rw [ml136]; exact Nat.le_of_ble_eq_true rfl, ?_⟩
  rw [ml136, pp136]
  show jEv _ none _ c136_0 0 0 _ (c136_0, [(2, 26), (0, a1), (0, a2), (0, a3), (9, 0), (9, 0), (9, 0), (9, 0), (9, 0), (9, 0), (9, 0)], [], h, 0, 0)
  have k0 := Kp.rf [] h
  refine ev_ldc2_w ?_
  refine ev_iload_n rfl ?_
  refine ev_i2l ?_
  refine ev_lmul (r := (1000000 * a3)) (by unfold w64; omega) ?_
  refine ev_lstore (L' := [(2, 26), (0, a1), (0, a2), (0, a3), (1, (1000000 * a3)), (9, 0), (9, 0), (9, 0), (9, 0), (9, 0), (9, 0)]) (Nat.le_of_ble_eq_true rfl) rfl ?_
  refine ev_iload_n rfl ?_
  refine ev_bipush ?_
  refine ev_in (d := 0) (a := 0) (b := 0) (cd' := c381_0) (m := 2) (L0 := [(0, a2), (0, 20)]) (jcall_s (A := [(0, 20), (0, a2)]) (S' := []) (by decide) rfl (Nat.le_of_ble_eq_true rfl)) (by decide) ml381 pp381 (Nat.le_of_ble_eq_true rfl) rfl (by decide) (by decide) ?_
  refine ev_iload_n rfl ?_
  refine ev_iload_n rfl ?_
  refine ev_icmpgt f381_9 (fun c80424 => absurd c80424 (by omega)) (fun c80424 => ?_)
  refine ev_iload_n rfl ?_
  refine ev_goto f381_10 ?_
  refine ev_ret rfl (by decide) (by decide) ?_
  show jEv _ _ _ _ _ _ _ (_, [(2, 26), (0, a1), (0, a2), (0, a3), (1, (1000000 * a3)), (9, 0), (9, 0), (9, 0), (9, 0), (9, 0), (9, 0)], [(0, a2)], _, _, _)
  refine ev_iconst ?_
  refine ev_isub (r := (a2 - 1)) (by unfold w32; omega) ?_
  refine ev_istore (L' := [(2, 26), (0, a1), (0, a2), (0, a3), (1, (1000000 * a3)), (9, 0), (0, (a2 - 1)), (9, 0), (9, 0), (9, 0), (9, 0)]) (Nat.le_of_ble_eq_true rfl) rfl ?_
  exact (t136_l la1 ua1 la2 ua2 la3 ua3 F0 42) _ _ _ _ _ g k0 (by omega) (by omega) (by omega) (by omega) (by omega) (by omega) (by omega) (by omega) (by omega) (by omega) (by omega) (by omega) (by omega) (by omega) (by rw [show (a2 - 1 - (a2 - 1)).toNat = 0 by omega]; rfl) (by omega)
set_option maxHeartbeats 4000000 in
theorem t137 {G : GH} {h : JH} (g : Gd G h) {a1 : Int} (la1 : 0 ≤ a1) (ua1 : a1 ≤ 19) {a2 : Int} (la2 : 1 ≤ a2) (ua2 : a2 ≤ 20) {a3 : Int} (la3 : (-999) ≤ a3) (ua3 : a3 ≤ 999) (F0 : (a1 + (-a2)) ≤ (-1)) : jOk 3 0 0 137 [(2, 26), (0, a1), (0, a2), (0, a3)] h (fun v h' => ∃ r : Int, v = some (1, r) ∧ Gd G h' ∧ Kp [] h h' ∧ 0 ≤ r ∧ r ≤ 1000 ∧ r = brF (wv h 34 35 36 a2 a3 (a2 - 1 - a1).toNat - 1000000 * h.2.2 36 (a1).toNat)) := by
  refine ⟨by decide, by rw [ml137]; exact Nat.le_of_ble_eq_true rfl, ?_⟩
  rw [ml137, pp137]
  show jEv _ none _ c137_0 0 0 _ (c137_0, [(2, 26), (0, a1), (0, a2), (0, a3), (9, 0), (9, 0)], [], h, 0, 0)
  have k0 := Kp.rf [] h
  refine ev_iload_n rfl ?_
  refine ev_iflt f137_10 (fun c80443 => absurd c80443 (by omega)) (fun c80443 => ?_)
  refine ev_iload_n rfl ?_
  refine ev_bipush ?_
  refine ev_icmplt f137_14 (fun c80444 => ?_) (fun c80444 => absurd c80444 (by omega))
  refine ev_aload_n rfl ?_
  refine ev_iload_n rfl ?_
  refine ev_iconst ?_
  refine ev_iadd (r := (a1 + 1)) (by unfold w32; omega) ?_
  refine ev_iload_n rfl ?_
  refine ev_iload_n rfl ?_
  refine ev_call (jcall_v (A := [(0, a3), (0, a2), (0, (a1 + 1))]) (S' := []) (r := 26) rfl (g.lt ad26) (g.tg ad26) (Nat.le_of_ble_eq_true rfl)) (jOk_le (by decide) (t136 g (by omega) (by omega) (by omega) (by omega) (by omega) (by omega) (by omega))) (by decide) (by decide) (fun w80445 h80445 q80445 => ?_)
  obtain ⟨v80446, rfl, g80445, kk80445, lv80446, uv80446, X80445⟩ := q80445
  have k80445 := k0.tr kk80445 (by decide)
  show jEv _ _ _ _ _ _ _ (_, [(2, 26), (0, a1), (0, a2), (0, a3), (9, 0), (9, 0)], [(1, v80446)], _, _, _)
  refine ev_ldc2_w ?_
  refine ev_aload_n rfl ?_
  refine g_getp (r := 26) (c := 36) g80445 ad26 (by decide) (by decide) rf26_14 ft9_14 ?_
  refine ev_iload_n rfl ?_
  refine g_iald g80445 ad36 rt36 (by omega) (by omega) (fun v80447 ev80447 lv80447 uv80447 => ?_)
  refine ev_i2l ?_
  refine ev_lmul (r := (1000000 * v80447)) (by unfold w64; omega) ?_
  refine ev_lsub (r := (v80446 + (-1000000) * v80447)) (by unfold w64; omega) ?_
  refine ev_lstore (L' := [(2, 26), (0, a1), (0, a2), (0, a3), (1, (v80446 + (-1000000) * v80447)), (9, 0)]) (Nat.le_of_ble_eq_true rfl) rfl ?_
  refine ev_lconst ?_
  refine ev_ldc2_w ?_
  refine ev_lload rfl ?_
  refine ev_lneg (r := ((-v80446) + 1000000 * v80447)) (by unfold w64; omega) ?_
  refine ev_ldc2_w ?_
  refine ev_call (jcall_s (A := [(1, 1000000), (1, ((-v80446) + 1000000 * v80447))]) (S' := [(1, 1000), (1, 0)]) (by decide) rfl (Nat.le_of_ble_eq_true rfl)) (jOk_le (by decide) (t378 g80445 (by omega) (by omega) (by omega) (by omega))) (by decide) (by decide) (fun w80448 h80448 q80448 => ?_)
  obtain ⟨v80449, rfl, g80448, kk80448, lv80449, uv80449, X80448⟩ := q80448
  have k80448 := k80445.tr kk80448 (by decide)
  show jEv _ _ _ _ _ _ _ (_, [(2, 26), (0, a1), (0, a2), (0, a3), (1, (v80446 + (-1000000) * v80447)), (9, 0)], [(1, v80449), (1, 1000), (1, 0)], _, _, _)
  refine ev_lneg (r := ((-v80449))) (by unfold w64; omega) ?_
  refine ev_in (d := 1) (a := 0) (b := 0) (cd' := c382_0) (m := 4) (L0 := [(1, 1000), (9, 0), (1, ((-v80449))), (9, 0)]) (jcall_s (A := [(1, ((-v80449))), (1, 1000)]) (S' := [(1, 0)]) (by decide) rfl (Nat.le_of_ble_eq_true rfl)) (by decide) ml382 pp382 (Nat.le_of_ble_eq_true rfl) rfl (by decide) (by decide) ?_
  refine ev_lload_n rfl ?_
  refine ev_lload_n rfl ?_
  refine ev_lcmp ?_
  refine ev_ifgt f382_10 (fun c80450 => ?_) (fun c80450 => absurd (jcmpL_gtN c80450) (by omega))
  refine ev_lload_n rfl ?_
  refine ev_ret rfl (by decide) (by decide) ?_
  show jEv _ _ _ _ _ _ _ (_, [(2, 26), (0, a1), (0, a2), (0, a3), (1, (v80446 + (-1000000) * v80447)), (9, 0)], [(1, ((-v80449))), (1, 0)], _, _, _)
  refine ev_in (d := 1) (a := 0) (b := 0) (cd' := c380_0) (m := 4) (L0 := [(1, 0), (9, 0), (1, ((-v80449))), (9, 0)]) (jcall_s (A := [(1, ((-v80449))), (1, 0)]) (S' := []) (by decide) rfl (Nat.le_of_ble_eq_true rfl)) (by decide) ml380 pp380 (Nat.le_of_ble_eq_true rfl) rfl (by decide) (by decide) ?_
  refine ev_lload_n rfl ?_
  refine ev_lload_n rfl ?_
  refine ev_lcmp ?_
  refine ev_iflt f380_10 (fun c80451 => ?_) (fun c80451 => ?_)
  · have c80451b := jcmpL_lt c80451
    refine ev_lload_n rfl ?_
    refine ev_ret rfl (by decide) (by decide) ?_
    show jEv _ _ _ _ _ _ _ (_, [(2, 26), (0, a1), (0, a2), (0, a3), (1, (v80446 + (-1000000) * v80447)), (9, 0)], [(1, ((-v80449)))], _, _, _)
    exact ev_ret rfl (by decide) (by decide) ⟨_, rfl, g80448, k80448, by omega, by omega, by rw [show (a2 - 1 - a1).toNat = (a2 - (a1 + 1)).toNat by omega, ← X80445, show h.2.2 36 (a1).toNat = v80447 from (k80445.v rfl).symm.trans ev80447]; unfold brF; (repeat' split) <;> omega⟩
  · have c80451b := jcmpL_ltN c80451
    refine ev_lload_n rfl ?_
    refine ev_goto f380_11 ?_
    refine ev_ret rfl (by decide) (by decide) ?_
    show jEv _ _ _ _ _ _ _ (_, [(2, 26), (0, a1), (0, a2), (0, a3), (1, (v80446 + (-1000000) * v80447)), (9, 0)], [(1, 0)], _, _, _)
    exact ev_ret rfl (by decide) (by decide) ⟨_, rfl, g80448, k80448, by omega, by omega, by rw [show (a2 - 1 - a1).toNat = (a2 - (a1 + 1)).toNat by omega, ← X80445, show h.2.2 36 (a1).toNat = v80447 from (k80445.v rfl).symm.trans ev80447]; unfold brF; (repeat' split) <;> omega⟩
set_option maxHeartbeats 4000000 in
theorem t208 {G : GH} {h : JH} (g : Gd G h) {a1 : Int} (la1 : (-2147483648) ≤ a1) (ua1 : a1 ≤ 2147483647) {a2 : Int} (la2 : (-2147483648) ≤ a2) (ua2 : a2 ≤ 2147483647) {a3 : Int} (la3 : (-2147483648) ≤ a3) (ua3 : a3 ≤ 2147483647) : jOk 4 0 0 208 [(2, 0), (0, a1), (0, a2), (0, a3)] h (fun v h' => ∃ r : Int, v = some (1, r) ∧ Gd G h' ∧ Kp [] h h' ∧ (-9223372036854775808) ≤ r ∧ r ≤ 9223372036854775807 ∧ Wai h 34 35 36 a1 a2 a3 r) := by
  refine ⟨by decide, by rw [ml208]; exact Nat.le_of_ble_eq_true rfl, ?_⟩
  rw [ml208, pp208]
  show jEv _ none _ c208_0 0 0 _ (c208_0, [(2, 0), (0, a1), (0, a2), (0, a3), (9, 0)], [], h, 0, 0)
  have k0 := Kp.rf [] h
  refine ev_iload_n rfl ?_
  refine ev_bipush ?_
  rcases Int.lt_or_le (a1) 0 with c80500 | c80500
  · refine g_iremC (c := 100) rfl (by decide) (fun v80501 ev80501 lv80501 uv80501 => ?_)
    refine ev_istore (L' := [(2, 0), (0, a1), (0, a2), (0, a3), (0, v80501)]) (Nat.le_of_ble_eq_true rfl) rfl ?_
    refine ev_iload_n rfl ?_
    refine ev_iflt f208_53 (fun c80502 => ?_) (fun c80502 => absurd c80502 (by omega))
    refine ev_ldc2_w ?_
    exact ev_ret rfl (by decide) (by decide) ⟨_, rfl, g, k0, by omega, by omega, Or.inl ⟨by unfold WV; omega, rfl⟩⟩
  · refine g_iremP (c := 100) rfl (by decide) (by omega) (fun v80503 ev80503 lv80503 uv80503 wv80503 => ?_)
    refine ev_istore (L' := [(2, 0), (0, a1), (0, a2), (0, a3), (0, v80503)]) (Nat.le_of_ble_eq_true rfl) rfl ?_
    refine ev_iload_n rfl ?_
    refine ev_iflt f208_53 (fun c80504 => absurd c80504 (by omega)) (fun c80504 => ?_)
    refine ev_iload rfl ?_
    refine ev_iconst ?_
    refine ev_icmplt f208_53 (fun c80505 => ?_) (fun c80505 => ?_)
    · refine ev_ldc2_w ?_
      exact ev_ret rfl (by decide) (by decide) ⟨_, rfl, g, k0, by omega, by omega, Or.inl ⟨by unfold WV; omega, rfl⟩⟩
    · refine ev_iload rfl ?_
      refine ev_bipush ?_
      refine ev_icmpgt f208_53 (fun c80506 => ?_) (fun c80506 => ?_)
      · refine ev_ldc2_w ?_
        exact ev_ret rfl (by decide) (by decide) ⟨_, rfl, g, k0, by omega, by omega, Or.inl ⟨by unfold WV; omega, rfl⟩⟩
      · refine ev_iload_n rfl ?_
        refine ev_bipush ?_
        refine g_idivP (c := 100) rfl (by decide) (by omega) (by omega) (fun v80507 ev80507 lv80507 uv80507 => ?_)
        refine ev_iload rfl ?_
        refine ev_icmpge f208_53 (fun c80508 => ?_) (fun c80508 => ?_)
        · refine ev_ldc2_w ?_
          exact ev_ret rfl (by decide) (by decide) ⟨_, rfl, g, k0, by omega, by omega, Or.inl ⟨by unfold WV; omega, rfl⟩⟩
        · refine ev_iload_n rfl ?_
          refine ev_sipush ?_
          refine ev_icmplt f208_53 (fun c80509 => ?_) (fun c80509 => ?_)
          · refine ev_ldc2_w ?_
            exact ev_ret rfl (by decide) (by decide) ⟨_, rfl, g, k0, by omega, by omega, Or.inl ⟨by unfold WV; omega, rfl⟩⟩
          · refine ev_iload_n rfl ?_
            refine ev_sipush ?_
            refine ev_icmpgt f208_53 (fun c80510 => ?_) (fun c80510 => ?_)
            · refine ev_ldc2_w ?_
              exact ev_ret rfl (by decide) (by decide) ⟨_, rfl, g, k0, by omega, by omega, Or.inl ⟨by unfold WV; omega, rfl⟩⟩
            · refine ev_iload_n rfl ?_
              refine ev_in (d := 2) (a := 0) (b := 0) (cd' := c221_0) (m := 1) (L0 := [(0, a3)]) (jcall_s (A := [(0, a3)]) (S' := []) (by decide) rfl (Nat.le_of_ble_eq_true rfl)) (by decide) ml221 pp221 (Nat.le_of_ble_eq_true rfl) rfl (by decide) (by decide) ?_
              refine ev_iload_n rfl ?_
              refine ev_ifeq f221_9 (fun c80511 => ?_) (fun c80511 => ?_)
              · refine ev_iconst ?_
                refine ev_goto f221_14 ?_
                refine ev_ret rfl (by decide) (by decide) ?_
                show jEv _ _ _ _ _ _ _ (_, [(2, 0), (0, a1), (0, a2), (0, a3), (0, v80503)], [(0, 1)], _, _, _)
                refine ev_ifne f208_57 (fun c80512 => ?_) (fun c80512 => absurd c80512 (by omega))
                refine ev_iload_n rfl ?_
                refine ev_ifne f208_78 (fun c80513 => absurd c80513 (by omega)) (fun c80513 => ?_)
                refine ev_aload_n rfl ?_
                refine g_getp (r := 0) (c := 26) g ad0 (by decide) (by decide) rf0_11 ft11_11 ?_
                refine ev_iload_n rfl ?_
                refine ev_bipush ?_
                refine g_idivP (c := 100) rfl (by decide) (by omega) (by omega) (fun v80514 ev80514 lv80514 uv80514 => ?_)
                obtain rfl : v80507 = v80514 := by omega
                refine ev_iload rfl ?_
                refine ev_iload_n rfl ?_
                refine ev_call (jcall_v (A := [(0, a2), (0, v80503), (0, v80507)]) (S' := []) (r := 26) rfl (g.lt ad26) (g.tg ad26) (Nat.le_of_ble_eq_true rfl)) (jOk_le (by decide) (t137 g (by omega) (by omega) (by omega) (by omega) (by omega) (by omega) (by omega))) (by decide) (by decide) (fun w80515 h80515 q80515 => ?_)
                obtain ⟨v80516, rfl, g80515, kk80515, lv80516, uv80516, X80515⟩ := q80515
                have k80515 := k0.tr kk80515 (by decide)
                show jEv _ _ _ _ _ _ _ (_, [(2, 0), (0, a1), (0, a2), (0, a3), (0, v80503)], [(1, v80516)], _, _, _)
                refine ev_goto f208_92 ?_
                exact ev_ret rfl (by decide) (by decide) ⟨_, rfl, g80515, k80515, by omega, by omega, Or.inr (Or.inl ⟨by unfold WV; omega, by omega, by rw [show a1 % 100 = v80503 by omega, show a1 / 100 = v80507 by omega]; exact X80515⟩)⟩
              · refine ev_iload_n rfl ?_
                refine ev_iconst ?_
                refine ev_icmpne f221_13 (fun c80517 => ?_) (fun c80517 => ?_)
                · refine ev_iconst ?_
                  refine ev_ret rfl (by decide) (by decide) ?_
                  show jEv _ _ _ _ _ _ _ (_, [(2, 0), (0, a1), (0, a2), (0, a3), (0, v80503)], [(0, 0)], _, _, _)
                  refine ev_ifne f208_57 (fun c80518 => absurd c80518 (by omega)) (fun c80518 => ?_)
                  refine ev_ldc2_w ?_
                  exact ev_ret rfl (by decide) (by decide) ⟨_, rfl, g, k0, by omega, by omega, Or.inl ⟨by unfold WV; omega, rfl⟩⟩
                · refine ev_iconst ?_
                  refine ev_goto f221_14 ?_
                  refine ev_ret rfl (by decide) (by decide) ?_
                  show jEv _ _ _ _ _ _ _ (_, [(2, 0), (0, a1), (0, a2), (0, a3), (0, v80503)], [(0, 1)], _, _, _)
                  refine ev_ifne f208_57 (fun c80519 => ?_) (fun c80519 => absurd c80519 (by omega))
                  refine ev_iload_n rfl ?_
                  refine ev_ifne f208_78 (fun c80520 => ?_) (fun c80520 => absurd c80520 (by omega))
                  refine ev_aload_n rfl ?_
                  refine g_getp (r := 0) (c := 26) g ad0 (by decide) (by decide) rf0_11 ft11_11 ?_
                  refine ev_iload_n rfl ?_
                  refine ev_bipush ?_
                  refine g_idivP (c := 100) rfl (by decide) (by omega) (by omega) (fun v80521 ev80521 lv80521 uv80521 => ?_)
                  obtain rfl : v80507 = v80521 := by omega
                  refine ev_iload rfl ?_
                  refine ev_iload_n rfl ?_
                  refine ev_call (jcall_v (A := [(0, a2), (0, v80503), (0, v80507)]) (S' := []) (r := 26) rfl (g.lt ad26) (g.tg ad26) (Nat.le_of_ble_eq_true rfl)) (jOk_le (by decide) (t136 g (by omega) (by omega) (by omega) (by omega) (by omega) (by omega) (by omega))) (by decide) (by decide) (fun w80522 h80522 q80522 => ?_)
                  obtain ⟨v80523, rfl, g80522, kk80522, lv80523, uv80523, X80522⟩ := q80522
                  have k80522 := k0.tr kk80522 (by decide)
                  show jEv _ _ _ _ _ _ _ (_, [(2, 0), (0, a1), (0, a2), (0, a3), (0, v80503)], [(1, v80523)], _, _, _)
                  exact ev_ret rfl (by decide) (by decide) ⟨_, rfl, g80522, k80522, by omega, by omega, Or.inr (Or.inr ⟨by unfold WV; omega, by omega, by rw [show a1 % 100 = v80503 by omega, show a1 / 100 = v80507 by omega]; exact X80522⟩)⟩
set_option maxHeartbeats 4000000 in
theorem t353_l {G : GH} {h : JH} {a1 : Int} (la1 : (-2147483648) ≤ a1) (ua1 : a1 ≤ 2147483647) {a2 : Int} (la2 : (-2147483648) ≤ a2) (ua2 : a2 ≤ 2147483647) {a3 : Int} (la3 : (-2147483648) ≤ a3) (ua3 : a3 ≤ 2147483647) : ∀ N : Nat, (∀ (h1 : JH) (x4 x5 x6 x8 x10 : Int) (j11 j13 : AV), Gd G h1 → Kp [] h h1 → 0 ≤ a1 → a1 ≤ 1999 → (-999) ≤ a2 → a2 ≤ 999 → 0 ≤ a3 → a3 ≤ 1 → 0 ≤ x4 → x4 ≤ 19 → 1 ≤ x5 → x5 ≤ 20 → (-9223372036854775808) ≤ x6 → x6 ≤ 999000000 → (-9223372036854775808) ≤ x8 → x8 ≤ 999000000 → (-1) ≤ x10 → x10 ≤ 19 → (99000000 * x10 + (-99000000) * x5 + (-x6)) ≤ 900000000 → x6 ≤ 999000000 → x8 ≤ 999000000 → ((-x8)) ≤ 2979000000 → (x10 + (-x5)) ≤ (-1) → ((-x10) + x4) ≤ 1 → (x4 + (-x5)) ≤ (-1) → x6 = wv h 74 75 76 x5 a2 (x5 - 1 - x10).toNat → (x10 < x5 - 1 → x8 = wv h 74 75 76 x5 a2 (x5 - 1 - (x10 + 1)).toNat - 1000000 * h.2.2 76 (x10 + 1).toNat) → WV a1 a2 a3 ∧ x5 = a1 % 100 ∧ x4 = a1 / 100 → (x10 + 1) < N → jEv (jOk 1) none (fun _ => 0) c353_0 0 0 (fun v h' => ∃ r : Int, v = some (1, r) ∧ Gd G h' ∧ Kp [] h h' ∧ (-9223372036854775808) ≤ r ∧ r ≤ 9223372036854775807 ∧ Wai h 74 75 76 a1 a2 a3 r) (c353_77, [(2, 42), (0, a1), (0, a2), (0, a3), (0, x4), (0, x5), (1, x6), (9, 0), (1, x8), (9, 0), (0, x10), j11, (9, 0), j13, (9, 0)], [], h1, 0, 0)) := by
  intro N
  induction N with
  | zero => exact fun h1 x4 x5 x6 x8 x10 j11 j13 g1 k1 b0 b1 b2 b3 b4 b5 b6 b7 b8 b9 b10 b11 b12 b13 b14 b15 b16 b17 b18 b19 b20 b21 b22 b23 b24 b25 hm => absurd hm (by omega)
  | succ N ih =>
    show _
    intro h1 x4 x5 x6 x8 x10 j11 j13 g1 k1 b0 b1 b2 b3 b4 b5 b6 b7 b8 b9 b10 b11 b12 b13 b14 b15 b16 b17 b18 b19 b20 b21 b22 H0 H1 H2 hm
    refine ev_iload rfl ?_
    refine ev_iload rfl ?_
    refine ev_icmplt f353_172 (fun c80665 => ?_) (fun c80665 => ?_)
    · refine ev_iload_n rfl ?_
      refine ev_iconst ?_
      refine ev_icmpne f353_180 (fun c80666 => ?_) (fun c80666 => ?_)
      · refine ev_lload rfl ?_
        refine ev_lneg (r := ((-x8))) (by unfold w64; omega) ?_
        refine ev_ldc2_w ?_
        refine ev_call (jcall_s (A := [(1, 1000000), (1, ((-x8)))]) (S' := []) (by decide) rfl (Nat.le_of_ble_eq_true rfl)) (jOk_le (by decide) (t378 g1 (by omega) (by omega) (by omega) (by omega))) (by decide) (by decide) (fun w80667 h80667 q80667 => ?_)
        obtain ⟨v80668, rfl, g80667, kk80667, lv80668, uv80668, X80667⟩ := q80667
        have k80667 := k1.tr kk80667 (by decide)
        show jEv _ _ _ _ _ _ _ (_, [(2, 42), (0, a1), (0, a2), (0, a3), (0, x4), (0, x5), (1, x6), (9, 0), (1, x8), (9, 0), (0, x10), j11, (9, 0), j13, (9, 0)], [(1, v80668)], _, _, _)
        refine ev_lneg (r := ((-v80668))) (by unfold w64; omega) ?_
        refine ev_lstore (L' := [(2, 42), (0, a1), (0, a2), (0, a3), (0, x4), (0, x5), (1, x6), (9, 0), (1, x8), (9, 0), (1, ((-v80668))), (9, 0), (9, 0), j13, (9, 0)]) (Nat.le_of_ble_eq_true rfl) rfl ?_
        refine ev_lload rfl ?_
        refine ev_lconst ?_
        refine ev_lcmp ?_
        refine ev_ifge f353_203 (fun c80669 => ?_) (fun c80669 => ?_)
        · have c80669b := jcmpL_ge c80669
          refine ev_lload rfl ?_
          refine ev_ldc2_w ?_
          refine ev_lcmp ?_
          refine ev_ifle f353_218 (fun c80670 => ?_) (fun c80670 => absurd (jcmpL_leN c80670) (by omega))
          refine ev_lload rfl ?_
          exact ev_ret rfl (by decide) (by decide) ⟨_, rfl, g80667, k80667, by omega, by omega, Or.inr (Or.inl ⟨H2.1, by omega, by rw [← H2.2.1, ← H2.2.2, show x5 - 1 - x4 = x5 - 1 - (x10 + 1) by omega, show x4 = x10 + 1 by omega, ← H1 (by omega)]; unfold brF; (repeat' split) <;> omega⟩)⟩
        · have c80669b := jcmpL_geN c80669
          refine ev_lconst ?_
          refine ev_goto f353_220 ?_
          exact ev_ret rfl (by decide) (by decide) ⟨_, rfl, g80667, k80667, by omega, by omega, Or.inr (Or.inl ⟨H2.1, by omega, by rw [← H2.2.1, ← H2.2.2, show x5 - 1 - x4 = x5 - 1 - (x10 + 1) by omega, show x4 = x10 + 1 by omega, ← H1 (by omega)]; unfold brF; (repeat' split) <;> omega⟩)⟩
      · refine ev_lload rfl ?_
        exact ev_ret rfl (by decide) (by decide) ⟨_, rfl, g1, k1, by omega, by omega, Or.inr (Or.inr ⟨H2.1, by omega, by rw [← H2.2.1, ← H2.2.2, show (x5 - x4).toNat = (x5 - 1 - x10).toNat by omega]; exact H0⟩)⟩
    · refine ev_lload rfl ?_
      refine ev_ldc2_w ?_
      refine ev_aload_n rfl ?_
      refine g_getp (r := 42) (c := 76) g1 ad42 (by decide) (by decide) rf42_58 ft12_58 ?_
      refine ev_iload rfl ?_
      refine g_iald g1 ad76 rt76 (by omega) (by omega) (fun v80671 ev80671 lv80671 uv80671 => ?_)
      refine ev_i2l ?_
      refine ev_lmul (r := (1000000 * v80671)) (by unfold w64; omega) ?_
      refine ev_lsub (r := ((-1000000) * v80671 + x6)) (by unfold w64; omega) ?_
      refine ev_lstore (L' := [(2, 42), (0, a1), (0, a2), (0, a3), (0, x4), (0, x5), (1, x6), (9, 0), (1, ((-1000000) * v80671 + x6)), (9, 0), (0, x10), j11, (9, 0), j13, (9, 0)]) (Nat.le_of_ble_eq_true rfl) rfl ?_
      refine ev_ldc2_w ?_
      refine ev_aload_n rfl ?_
      refine g_getp (r := 42) (c := 74) g1 ad42 (by decide) (by decide) rf42_56 ft12_56 ?_
      refine ev_iload rfl ?_
      refine g_iald g1 ad74 rt74 (by omega) (by omega) (fun v80672 ev80672 lv80672 uv80672 => ?_)
      refine ev_i2l ?_
      refine ev_lmul (r := (1000000 * v80672)) (by unfold w64; omega) ?_
      refine ev_lstore (L' := [(2, 42), (0, a1), (0, a2), (0, a3), (0, x4), (0, x5), (1, x6), (9, 0), (1, ((-1000000) * v80671 + x6)), (9, 0), (0, x10), (1, (1000000 * v80672)), (9, 0), j13, (9, 0)]) (Nat.le_of_ble_eq_true rfl) rfl ?_
      refine ev_lload rfl ?_
      refine ev_lload rfl ?_
      refine ev_lcmp ?_
      refine ev_ifle f353_128 (fun c80673 => ?_) (fun c80673 => ?_)
      · have c80673b := jcmpL_le c80673
        refine ev_lload rfl ?_
        refine ev_lstore (L' := [(2, 42), (0, a1), (0, a2), (0, a3), (0, x4), (0, x5), (1, x6), (9, 0), (1, ((-1000000) * v80671 + x6)), (9, 0), (0, x10), (1, (1000000 * v80672)), (9, 0), (1, ((-1000000) * v80671 + x6)), (9, 0)]) (Nat.le_of_ble_eq_true rfl) rfl ?_
        refine ev_aload_n rfl ?_
        refine g_getp (r := 42) (c := 75) g1 ad42 (by decide) (by decide) rf42_57 ft12_57 ?_
        refine ev_iload rfl ?_
        refine g_iald g1 ad75 rt75 (by omega) (by omega) (fun v80674 ev80674 lv80674 uv80674 => ?_)
        refine ev_i2l ?_
        refine ev_lload rfl ?_
        obtain ⟨v80675, ev80675, lv80675, uv80675⟩ : ∃ v : Int, v80674 * ((-1000000) * v80671 + x6) = v ∧ -500000000000 ≤ v ∧ v ≤ 500000000000 := ⟨_, rfl, by have := mul_bd (c := v80674) (b := ((-1000000) * v80671 + x6)) (K := 100) (B := 5000000000) (by omega) (by omega) (by omega) (by omega); omega, by have := mul_bd (c := v80674) (b := ((-1000000) * v80671 + x6)) (K := 100) (B := 5000000000) (by omega) (by omega) (by omega) (by omega); omega⟩
        refine ev_lmul (r := v80675) (by rw [ev80675]; unfold w64; omega) ?_
        refine ev_bipush ?_
        refine ev_aload_n rfl ?_
        refine g_getp (r := 42) (c := 75) g1 ad42 (by decide) (by decide) rf42_57 ft12_57 ?_
        refine ev_iload rfl ?_
        refine g_ialdv (v := v80674) g1 ad75 (by omega) (by omega) (ev80674) ?_
        refine ev_isub (r := ((-v80674) + 100)) (by unfold w32; omega) ?_
        refine ev_i2l ?_
        refine ev_lload rfl ?_
        obtain ⟨v80676, ev80676, lv80676, uv80676⟩ : ∃ v : Int, ((-v80674) + 100) * ((-1000000) * v80671 + x6) = v ∧ -500000000000 ≤ v ∧ v ≤ 500000000000 := ⟨_, rfl, by have := mul_bd (c := ((-v80674) + 100)) (b := ((-1000000) * v80671 + x6)) (K := 100) (B := 5000000000) (by omega) (by omega) (by omega) (by omega); omega, by have := mul_bd (c := ((-v80674) + 100)) (b := ((-1000000) * v80671 + x6)) (K := 100) (B := 5000000000) (by omega) (by omega) (by omega) (by omega); omega⟩
        refine ev_lmul (r := v80676) (by rw [ev80676]; unfold w64; omega) ?_
        have zv80676 := sv_bd (c := v80674) (w := ((-1000000) * v80671 + x6)) (bt := ((-1000000) * v80671 + x6)) (B := 999000000) (by omega) (by omega) (by omega) (by omega) ev80675 ev80676 (by omega) (by omega)
        refine ev_ladd (r := (v80675 + v80676)) (by unfold w64; omega) ?_
        refine ev_ldc2_w ?_
        refine ev_call (jcall_s (A := [(1, 100), (1, (v80675 + v80676))]) (S' := []) (by decide) rfl (Nat.le_of_ble_eq_true rfl)) (jOk_le (by decide) (t378 g1 (by omega) (by omega) (by omega) (by omega))) (by decide) (by decide) (fun w80677 h80677 q80677 => ?_)
        obtain ⟨v80678, rfl, g80677, kk80677, lv80678, uv80678, X80677⟩ := q80677
        have k80677 := k1.tr kk80677 (by decide)
        show jEv _ _ _ _ _ _ _ (_, [(2, 42), (0, a1), (0, a2), (0, a3), (0, x4), (0, x5), (1, x6), (9, 0), (1, ((-1000000) * v80671 + x6)), (9, 0), (0, x10), (1, (1000000 * v80672)), (9, 0), (1, ((-1000000) * v80671 + x6)), (9, 0)], [(1, v80678)], _, _, _)
        refine ev_lstore (L' := [(2, 42), (0, a1), (0, a2), (0, a3), (0, x4), (0, x5), (1, v80678), (9, 0), (1, ((-1000000) * v80671 + x6)), (9, 0), (0, x10), (1, (1000000 * v80672)), (9, 0), (1, ((-1000000) * v80671 + x6)), (9, 0)]) (Nat.le_of_ble_eq_true rfl) rfl ?_
        refine ev_iinc (w := (x10 - 1)) (L' := [(2, 42), (0, a1), (0, a2), (0, a3), (0, x4), (0, x5), (1, v80678), (9, 0), (1, ((-1000000) * v80671 + x6)), (9, 0), (0, (x10 - 1)), (1, (1000000 * v80672)), (9, 0), (1, ((-1000000) * v80671 + x6)), (9, 0)]) rfl (by unfold w32; omega) rfl ?_
        refine ev_goto f353_77 ?_
        exact ih _ _ _ _ _ _ _ _ g80677 k80677 (by omega) (by omega) (by omega) (by omega) (by omega) (by omega) (by omega) (by omega) (by omega) (by omega) (by omega) (by omega) (by omega) (by omega) (by omega) (by omega) (by omega) (by omega) (by omega) (by omega) (by omega) (by omega) (by omega) (wv_step (x := x6) (k := x10) (bt := ((-1000000) * v80671 + x6)) H0 (by omega) (by omega) (by omega) k1 (fun _ => rfl) (fun _ => rfl) (fun _ => rfl) ev80672 ev80674 ev80671 (by split <;> omega) ev80675 ev80676 (by omega) (by omega) X80677) (fun _ => by rw [show x10 - 1 + 1 = x10 by omega, ← H0, show h.2.2 76 (x10).toNat = v80671 from (k1.v rfl).symm.trans ev80671]; omega) H2 (by omega)
      · have c80673b := jcmpL_leN c80673
        refine ev_lload rfl ?_
        refine ev_goto f353_130 ?_
        refine ev_lstore (L' := [(2, 42), (0, a1), (0, a2), (0, a3), (0, x4), (0, x5), (1, x6), (9, 0), (1, ((-1000000) * v80671 + x6)), (9, 0), (0, x10), (1, (1000000 * v80672)), (9, 0), (1, (1000000 * v80672)), (9, 0)]) (Nat.le_of_ble_eq_true rfl) rfl ?_
        refine ev_aload_n rfl ?_
        refine g_getp (r := 42) (c := 75) g1 ad42 (by decide) (by decide) rf42_57 ft12_57 ?_
        refine ev_iload rfl ?_
        refine g_iald g1 ad75 rt75 (by omega) (by omega) (fun v80679 ev80679 lv80679 uv80679 => ?_)
        refine ev_i2l ?_
        refine ev_lload rfl ?_
        obtain ⟨v80680, ev80680, lv80680, uv80680⟩ : ∃ v : Int, v80679 * (1000000 * v80672) = v ∧ -500000000000 ≤ v ∧ v ≤ 500000000000 := ⟨_, rfl, by have := mul_bd (c := v80679) (b := (1000000 * v80672)) (K := 100) (B := 5000000000) (by omega) (by omega) (by omega) (by omega); omega, by have := mul_bd (c := v80679) (b := (1000000 * v80672)) (K := 100) (B := 5000000000) (by omega) (by omega) (by omega) (by omega); omega⟩
        refine ev_lmul (r := v80680) (by rw [ev80680]; unfold w64; omega) ?_
        refine ev_bipush ?_
        refine ev_aload_n rfl ?_
        refine g_getp (r := 42) (c := 75) g1 ad42 (by decide) (by decide) rf42_57 ft12_57 ?_
        refine ev_iload rfl ?_
        refine g_ialdv (v := v80679) g1 ad75 (by omega) (by omega) (ev80679) ?_
        refine ev_isub (r := ((-v80679) + 100)) (by unfold w32; omega) ?_
        refine ev_i2l ?_
        refine ev_lload rfl ?_
        obtain ⟨v80681, ev80681, lv80681, uv80681⟩ : ∃ v : Int, ((-v80679) + 100) * ((-1000000) * v80671 + x6) = v ∧ -500000000000 ≤ v ∧ v ≤ 500000000000 := ⟨_, rfl, by have := mul_bd (c := ((-v80679) + 100)) (b := ((-1000000) * v80671 + x6)) (K := 100) (B := 5000000000) (by omega) (by omega) (by omega) (by omega); omega, by have := mul_bd (c := ((-v80679) + 100)) (b := ((-1000000) * v80671 + x6)) (K := 100) (B := 5000000000) (by omega) (by omega) (by omega) (by omega); omega⟩
        refine ev_lmul (r := v80681) (by rw [ev80681]; unfold w64; omega) ?_
        have zv80681 := sv_bd (c := v80679) (w := ((-1000000) * v80671 + x6)) (bt := (1000000 * v80672)) (B := 999000000) (by omega) (by omega) (by omega) (by omega) ev80680 ev80681 (by omega) (by omega)
        refine ev_ladd (r := (v80680 + v80681)) (by unfold w64; omega) ?_
        refine ev_ldc2_w ?_
        refine ev_call (jcall_s (A := [(1, 100), (1, (v80680 + v80681))]) (S' := []) (by decide) rfl (Nat.le_of_ble_eq_true rfl)) (jOk_le (by decide) (t378 g1 (by omega) (by omega) (by omega) (by omega))) (by decide) (by decide) (fun w80682 h80682 q80682 => ?_)
        obtain ⟨v80683, rfl, g80682, kk80682, lv80683, uv80683, X80682⟩ := q80682
        have k80682 := k1.tr kk80682 (by decide)
        show jEv _ _ _ _ _ _ _ (_, [(2, 42), (0, a1), (0, a2), (0, a3), (0, x4), (0, x5), (1, x6), (9, 0), (1, ((-1000000) * v80671 + x6)), (9, 0), (0, x10), (1, (1000000 * v80672)), (9, 0), (1, (1000000 * v80672)), (9, 0)], [(1, v80683)], _, _, _)
        refine ev_lstore (L' := [(2, 42), (0, a1), (0, a2), (0, a3), (0, x4), (0, x5), (1, v80683), (9, 0), (1, ((-1000000) * v80671 + x6)), (9, 0), (0, x10), (1, (1000000 * v80672)), (9, 0), (1, (1000000 * v80672)), (9, 0)]) (Nat.le_of_ble_eq_true rfl) rfl ?_
        refine ev_iinc (w := (x10 - 1)) (L' := [(2, 42), (0, a1), (0, a2), (0, a3), (0, x4), (0, x5), (1, v80683), (9, 0), (1, ((-1000000) * v80671 + x6)), (9, 0), (0, (x10 - 1)), (1, (1000000 * v80672)), (9, 0), (1, (1000000 * v80672)), (9, 0)]) rfl (by unfold w32; omega) rfl ?_
        refine ev_goto f353_77 ?_
        exact ih _ _ _ _ _ _ _ _ g80682 k80682 (by omega) (by omega) (by omega) (by omega) (by omega) (by omega) (by omega) (by omega) (by omega) (by omega) (by omega) (by omega) (by omega) (by omega) (by omega) (by omega) (by omega) (by omega) (by omega) (by omega) (by omega) (by omega) (by omega) (wv_step (x := x6) (k := x10) (bt := (1000000 * v80672)) H0 (by omega) (by omega) (by omega) k1 (fun _ => rfl) (fun _ => rfl) (fun _ => rfl) ev80672 ev80679 ev80671 (by split <;> omega) ev80680 ev80681 (by omega) (by omega) X80682) (fun _ => by rw [show x10 - 1 + 1 = x10 by omega, ← H0, show h.2.2 76 (x10).toNat = v80671 from (k1.v rfl).symm.trans ev80671]; omega) H2 (by omega)
set_option maxHeartbeats 4000000 in
theorem t353 {G : GH} {h : JH} (g : Gd G h) {a1 : Int} (la1 : (-2147483648) ≤ a1) (ua1 : a1 ≤ 2147483647) {a2 : Int} (la2 : (-2147483648) ≤ a2) (ua2 : a2 ≤ 2147483647) {a3 : Int} (la3 : (-2147483648) ≤ a3) (ua3 : a3 ≤ 2147483647) : jOk 2 0 0 353 [(2, 42), (0, a1), (0, a2), (0, a3)] h (fun v h' => ∃ r : Int, v = some (1, r) ∧ Gd G h' ∧ Kp [] h h' ∧ (-9223372036854775808) ≤ r ∧ r ≤ 9223372036854775807 ∧ Wai h 74 75 76 a1 a2 a3 r) := by
  refine ⟨by decide, by rw [ml353]; exact Nat.le_of_ble_eq_true rfl, ?_⟩
  rw [ml353, pp353]
  show jEv _ none _ c353_0 0 0 _ (c353_0, [(2, 42), (0, a1), (0, a2), (0, a3), (9, 0), (9, 0), (9, 0), (9, 0), (9, 0), (9, 0), (9, 0), (9, 0), (9, 0), (9, 0), (9, 0)], [], h, 0, 0)
  have k0 := Kp.rf [] h
  refine ev_iload_n rfl ?_
  refine ev_bipush ?_
  rcases Int.lt_or_le (a1) 0 with c80684 | c80684
  · refine g_idivG (by omega) (fun v80685 ev80685 lv80685 uv80685 => ?_)
    refine ev_istore (L' := [(2, 42), (0, a1), (0, a2), (0, a3), (0, v80685), (9, 0), (9, 0), (9, 0), (9, 0), (9, 0), (9, 0), (9, 0), (9, 0), (9, 0), (9, 0)]) (Nat.le_of_ble_eq_true rfl) rfl ?_
    refine ev_iload_n rfl ?_
    refine ev_bipush ?_
    refine g_iremC (c := 100) rfl (by decide) (fun v80686 ev80686 lv80686 uv80686 => ?_)
    refine ev_istore (L' := [(2, 42), (0, a1), (0, a2), (0, a3), (0, v80685), (0, v80686), (9, 0), (9, 0), (9, 0), (9, 0), (9, 0), (9, 0), (9, 0), (9, 0), (9, 0)]) (Nat.le_of_ble_eq_true rfl) rfl ?_
    refine ev_iload_n rfl ?_
    refine ev_iflt f353_56 (fun c80687 => ?_) (fun c80687 => absurd c80687 (by omega))
    refine ev_ldc2_w ?_
    exact ev_ret rfl (by decide) (by decide) ⟨_, rfl, g, k0, by omega, by omega, Or.inl ⟨by unfold WV; omega, rfl⟩⟩
  · refine g_idivP (c := 100) rfl (by decide) (by omega) (by omega) (fun v80688 ev80688 lv80688 uv80688 => ?_)
    refine ev_istore (L' := [(2, 42), (0, a1), (0, a2), (0, a3), (0, v80688), (9, 0), (9, 0), (9, 0), (9, 0), (9, 0), (9, 0), (9, 0), (9, 0), (9, 0), (9, 0)]) (Nat.le_of_ble_eq_true rfl) rfl ?_
    refine ev_iload_n rfl ?_
    refine ev_bipush ?_
    refine g_iremP (c := 100) rfl (by decide) (by omega) (fun v80689 ev80689 lv80689 uv80689 wv80689 => ?_)
    refine ev_istore (L' := [(2, 42), (0, a1), (0, a2), (0, a3), (0, v80688), (0, v80689), (9, 0), (9, 0), (9, 0), (9, 0), (9, 0), (9, 0), (9, 0), (9, 0), (9, 0)]) (Nat.le_of_ble_eq_true rfl) rfl ?_
    refine ev_iload_n rfl ?_
    refine ev_iflt f353_56 (fun c80690 => absurd c80690 (by omega)) (fun c80690 => ?_)
    refine ev_iload rfl ?_
    refine ev_iconst ?_
    refine ev_bipush ?_
    refine ev_in (d := 0) (a := 0) (b := 0) (cd' := c242_0) (m := 3) (L0 := [(0, v80689), (0, 1), (0, 20)]) (jcall_s (A := [(0, 20), (0, 1), (0, v80689)]) (S' := []) (by decide) rfl (Nat.le_of_ble_eq_true rfl)) (by decide) ml242 pp242 (Nat.le_of_ble_eq_true rfl) rfl (by decide) (by decide) ?_
    refine ev_iload_n rfl ?_
    refine ev_iload_n rfl ?_
    refine ev_icmplt f242_14 (fun c80691 => ?_) (fun c80691 => ?_)
    · refine ev_iconst ?_
      refine ev_ret rfl (by decide) (by decide) ?_
      show jEv _ _ _ _ _ _ _ (_, [(2, 42), (0, a1), (0, a2), (0, a3), (0, v80688), (0, v80689), (9, 0), (9, 0), (9, 0), (9, 0), (9, 0), (9, 0), (9, 0), (9, 0), (9, 0)], [(0, 0)], _, _, _)
      refine ev_ifeq f353_56 (fun c80692 => ?_) (fun c80692 => absurd c80692 (by omega))
      refine ev_ldc2_w ?_
      exact ev_ret rfl (by decide) (by decide) ⟨_, rfl, g, k0, by omega, by omega, Or.inl ⟨by unfold WV; omega, rfl⟩⟩
    · refine ev_iload_n rfl ?_
      refine ev_iload_n rfl ?_
      refine ev_icmpgt f242_14 (fun c80693 => ?_) (fun c80693 => ?_)
      · refine ev_iconst ?_
        refine ev_ret rfl (by decide) (by decide) ?_
        show jEv _ _ _ _ _ _ _ (_, [(2, 42), (0, a1), (0, a2), (0, a3), (0, v80688), (0, v80689), (9, 0), (9, 0), (9, 0), (9, 0), (9, 0), (9, 0), (9, 0), (9, 0), (9, 0)], [(0, 0)], _, _, _)
        refine ev_ifeq f353_56 (fun c80694 => ?_) (fun c80694 => absurd c80694 (by omega))
        refine ev_ldc2_w ?_
        exact ev_ret rfl (by decide) (by decide) ⟨_, rfl, g, k0, by omega, by omega, Or.inl ⟨by unfold WV; omega, rfl⟩⟩
      · refine ev_iconst ?_
        refine ev_goto f242_15 ?_
        refine ev_ret rfl (by decide) (by decide) ?_
        show jEv _ _ _ _ _ _ _ (_, [(2, 42), (0, a1), (0, a2), (0, a3), (0, v80688), (0, v80689), (9, 0), (9, 0), (9, 0), (9, 0), (9, 0), (9, 0), (9, 0), (9, 0), (9, 0)], [(0, 1)], _, _, _)
        refine ev_ifeq f353_56 (fun c80695 => absurd c80695 (by omega)) (fun c80695 => ?_)
        refine ev_iload rfl ?_
        refine ev_iload rfl ?_
        refine ev_icmpge f353_56 (fun c80696 => ?_) (fun c80696 => ?_)
        · refine ev_ldc2_w ?_
          exact ev_ret rfl (by decide) (by decide) ⟨_, rfl, g, k0, by omega, by omega, Or.inl ⟨by unfold WV; omega, rfl⟩⟩
        · refine ev_iload_n rfl ?_
          refine ev_sipush ?_
          refine ev_sipush ?_
          refine ev_in (d := 0) (a := 0) (b := 0) (cd' := c242_0) (m := 3) (L0 := [(0, a2), (0, (-999)), (0, 999)]) (jcall_s (A := [(0, 999), (0, (-999)), (0, a2)]) (S' := []) (by decide) rfl (Nat.le_of_ble_eq_true rfl)) (by decide) ml242 pp242 (Nat.le_of_ble_eq_true rfl) rfl (by decide) (by decide) ?_
          refine ev_iload_n rfl ?_
          refine ev_iload_n rfl ?_
          refine ev_icmplt f242_14 (fun c80697 => ?_) (fun c80697 => ?_)
          · refine ev_iconst ?_
            refine ev_ret rfl (by decide) (by decide) ?_
            show jEv _ _ _ _ _ _ _ (_, [(2, 42), (0, a1), (0, a2), (0, a3), (0, v80688), (0, v80689), (9, 0), (9, 0), (9, 0), (9, 0), (9, 0), (9, 0), (9, 0), (9, 0), (9, 0)], [(0, 0)], _, _, _)
            refine ev_ifeq f353_56 (fun c80698 => ?_) (fun c80698 => absurd c80698 (by omega))
            refine ev_ldc2_w ?_
            exact ev_ret rfl (by decide) (by decide) ⟨_, rfl, g, k0, by omega, by omega, Or.inl ⟨by unfold WV; omega, rfl⟩⟩
          · refine ev_iload_n rfl ?_
            refine ev_iload_n rfl ?_
            refine ev_icmpgt f242_14 (fun c80699 => ?_) (fun c80699 => ?_)
            · refine ev_iconst ?_
              refine ev_ret rfl (by decide) (by decide) ?_
              show jEv _ _ _ _ _ _ _ (_, [(2, 42), (0, a1), (0, a2), (0, a3), (0, v80688), (0, v80689), (9, 0), (9, 0), (9, 0), (9, 0), (9, 0), (9, 0), (9, 0), (9, 0), (9, 0)], [(0, 0)], _, _, _)
              refine ev_ifeq f353_56 (fun c80700 => ?_) (fun c80700 => absurd c80700 (by omega))
              refine ev_ldc2_w ?_
              exact ev_ret rfl (by decide) (by decide) ⟨_, rfl, g, k0, by omega, by omega, Or.inl ⟨by unfold WV; omega, rfl⟩⟩
            · refine ev_iconst ?_
              refine ev_goto f242_15 ?_
              refine ev_ret rfl (by decide) (by decide) ?_
              show jEv _ _ _ _ _ _ _ (_, [(2, 42), (0, a1), (0, a2), (0, a3), (0, v80688), (0, v80689), (9, 0), (9, 0), (9, 0), (9, 0), (9, 0), (9, 0), (9, 0), (9, 0), (9, 0)], [(0, 1)], _, _, _)
              refine ev_ifeq f353_56 (fun c80701 => absurd c80701 (by omega)) (fun c80701 => ?_)
              refine ev_iload_n rfl ?_
              refine ev_iconst ?_
              refine ev_iconst ?_
              refine ev_in (d := 0) (a := 0) (b := 0) (cd' := c242_0) (m := 3) (L0 := [(0, a3), (0, 0), (0, 1)]) (jcall_s (A := [(0, 1), (0, 0), (0, a3)]) (S' := []) (by decide) rfl (Nat.le_of_ble_eq_true rfl)) (by decide) ml242 pp242 (Nat.le_of_ble_eq_true rfl) rfl (by decide) (by decide) ?_
              refine ev_iload_n rfl ?_
              refine ev_iload_n rfl ?_
              refine ev_icmplt f242_14 (fun c80702 => ?_) (fun c80702 => ?_)
              · refine ev_iconst ?_
                refine ev_ret rfl (by decide) (by decide) ?_
                show jEv _ _ _ _ _ _ _ (_, [(2, 42), (0, a1), (0, a2), (0, a3), (0, v80688), (0, v80689), (9, 0), (9, 0), (9, 0), (9, 0), (9, 0), (9, 0), (9, 0), (9, 0), (9, 0)], [(0, 0)], _, _, _)
                refine ev_ifne f353_60 (fun c80703 => absurd c80703 (by omega)) (fun c80703 => ?_)
                refine ev_ldc2_w ?_
                exact ev_ret rfl (by decide) (by decide) ⟨_, rfl, g, k0, by omega, by omega, Or.inl ⟨by unfold WV; omega, rfl⟩⟩
              · refine ev_iload_n rfl ?_
                refine ev_iload_n rfl ?_
                refine ev_icmpgt f242_14 (fun c80704 => ?_) (fun c80704 => ?_)
                · refine ev_iconst ?_
                  refine ev_ret rfl (by decide) (by decide) ?_
                  show jEv _ _ _ _ _ _ _ (_, [(2, 42), (0, a1), (0, a2), (0, a3), (0, v80688), (0, v80689), (9, 0), (9, 0), (9, 0), (9, 0), (9, 0), (9, 0), (9, 0), (9, 0), (9, 0)], [(0, 0)], _, _, _)
                  refine ev_ifne f353_60 (fun c80705 => absurd c80705 (by omega)) (fun c80705 => ?_)
                  refine ev_ldc2_w ?_
                  exact ev_ret rfl (by decide) (by decide) ⟨_, rfl, g, k0, by omega, by omega, Or.inl ⟨by unfold WV; omega, rfl⟩⟩
                · refine ev_iconst ?_
                  refine ev_goto f242_15 ?_
                  refine ev_ret rfl (by decide) (by decide) ?_
                  show jEv _ _ _ _ _ _ _ (_, [(2, 42), (0, a1), (0, a2), (0, a3), (0, v80688), (0, v80689), (9, 0), (9, 0), (9, 0), (9, 0), (9, 0), (9, 0), (9, 0), (9, 0), (9, 0)], [(0, 1)], _, _, _)
                  refine ev_ifne f353_60 (fun c80706 => ?_) (fun c80706 => absurd c80706 (by omega))
                  refine ev_ldc2_w ?_
                  refine ev_iload_n rfl ?_
                  refine ev_i2l ?_
                  refine ev_lmul (r := (1000000 * a2)) (by unfold w64; omega) ?_
                  refine ev_lstore (L' := [(2, 42), (0, a1), (0, a2), (0, a3), (0, v80688), (0, v80689), (1, (1000000 * a2)), (9, 0), (9, 0), (9, 0), (9, 0), (9, 0), (9, 0), (9, 0), (9, 0)]) (Nat.le_of_ble_eq_true rfl) rfl ?_
                  refine ev_lconst ?_
                  refine ev_lstore (L' := [(2, 42), (0, a1), (0, a2), (0, a3), (0, v80688), (0, v80689), (1, (1000000 * a2)), (9, 0), (1, 0), (9, 0), (9, 0), (9, 0), (9, 0), (9, 0), (9, 0)]) (Nat.le_of_ble_eq_true rfl) rfl ?_
                  refine ev_iload rfl ?_
                  refine ev_iconst ?_
                  refine ev_isub (r := (v80689 - 1)) (by unfold w32; omega) ?_
                  refine ev_istore (L' := [(2, 42), (0, a1), (0, a2), (0, a3), (0, v80688), (0, v80689), (1, (1000000 * a2)), (9, 0), (1, 0), (9, 0), (0, (v80689 - 1)), (9, 0), (9, 0), (9, 0), (9, 0)]) (Nat.le_of_ble_eq_true rfl) rfl ?_
                  exact (t353_l la1 ua1 la2 ua2 la3 ua3 42) _ _ _ _ _ _ _ _ g k0 (by omega) (by omega) (by omega) (by omega) (by omega) (by omega) (by omega) (by omega) (by omega) (by omega) (by omega) (by omega) (by omega) (by omega) (by omega) (by omega) (by omega) (by omega) (by omega) (by omega) (by omega) (by omega) (by omega) (by rw [show (v80689 - 1 - (v80689 - 1)).toNat = 0 by omega]; rfl) (fun z => absurd z (by omega)) ⟨by unfold WV; omega, by omega, by omega⟩ (by omega)
theorem jn11 : jN 11 = 17 := by decide +kernel
theorem jn12 : jN 12 = 66 := by decide +kernel
theorem ml384 : jML jnM = 4 := by decide +kernel
theorem pp384 : jP jnM = c384_0 := rfl
set_option maxRecDepth 100000 in
theorem jlawN : jchkN jnM = true := jchkNF_ok (by decide +kernel)
set_option maxRecDepth 100000 in
theorem f384_18 : jfind c384_0 18 = some c384_18 := rfl
set_option maxRecDepth 100000 in
theorem f384_260 : jfind c384_0 260 = some c384_260 := rfl
set_option maxRecDepth 100000 in
theorem f384_283 : jfind c384_0 283 = some c384_283 := rfl
set_option maxRecDepth 100000 in
theorem f384_316 : jfind c384_0 316 = some c384_316 := rfl
set_option maxRecDepth 100000 in
theorem f384_369 : jfind c384_0 369 = some c384_369 := rfl
set_option maxRecDepth 100000 in
theorem f384_382 : jfind c384_0 382 = some c384_382 := rfl
set_option maxRecDepth 100000 in
theorem f384_405 : jfind c384_0 405 = some c384_405 := rfl
set_option maxRecDepth 100000 in
theorem f384_448 : jfind c384_0 448 = some c384_448 := rfl
set_option maxRecDepth 100000 in
theorem f384_481 : jfind c384_0 481 = some c384_481 := rfl
set_option maxRecDepth 100000 in
theorem f384_494 : jfind c384_0 494 = some c384_494 := rfl
set_option maxRecDepth 100000 in
theorem f384_537 : jfind c384_0 537 = some c384_537 := rfl
set_option maxRecDepth 100000 in
theorem f384_590 : jfind c384_0 590 = some c384_590 := rfl
set_option maxRecDepth 100000 in
theorem f384_603 : jfind c384_0 603 = some c384_603 := rfl
set_option maxRecDepth 100000 in
theorem f384_616 : jfind c384_0 616 = some c384_616 := rfl
set_option maxRecDepth 100000 in
theorem f384_649 : jfind c384_0 649 = some c384_649 := rfl
set_option maxRecDepth 100000 in
theorem f384_682 : jfind c384_0 682 = some c384_682 := rfl
set_option maxRecDepth 100000 in
theorem f384_715 : jfind c384_0 715 = some c384_715 := rfl
set_option maxRecDepth 100000 in
theorem f384_758 : jfind c384_0 758 = some c384_758 := rfl
set_option maxRecDepth 100000 in
theorem f384_801 : jfind c384_0 801 = some c384_801 := rfl
set_option maxRecDepth 100000 in
theorem f384_844 : jfind c384_0 844 = some c384_844 := rfl
set_option maxRecDepth 100000 in
theorem f384_877 : jfind c384_0 877 = some c384_877 := rfl
set_option maxRecDepth 100000 in
theorem f384_930 : jfind c384_0 930 = some c384_930 := rfl
set_option maxRecDepth 100000 in
theorem f384_963 : jfind c384_0 963 = some c384_963 := rfl
set_option maxRecDepth 100000 in
theorem f384_1006 : jfind c384_0 1006 = some c384_1006 := rfl
set_option maxRecDepth 100000 in
theorem f384_1059 : jfind c384_0 1059 = some c384_1059 := rfl
set_option maxRecDepth 100000 in
theorem f384_1082 : jfind c384_0 1082 = some c384_1082 := rfl
set_option maxRecDepth 100000 in
theorem f384_1125 : jfind c384_0 1125 = some c384_1125 := rfl
set_option maxRecDepth 100000 in
theorem f384_1178 : jfind c384_0 1178 = some c384_1178 := rfl
set_option maxRecDepth 100000 in
theorem f384_1201 : jfind c384_0 1201 = some c384_1201 := rfl
set_option maxRecDepth 100000 in
theorem f384_1254 : jfind c384_0 1254 = some c384_1254 := rfl
set_option maxRecDepth 100000 in
theorem f384_1307 : jfind c384_0 1307 = some c384_1307 := rfl
set_option maxRecDepth 100000 in
theorem f384_1340 : jfind c384_0 1340 = some c384_1340 := rfl
set_option maxRecDepth 100000 in
theorem f384_1383 : jfind c384_0 1383 = some c384_1383 := rfl
set_option maxRecDepth 100000 in
theorem f384_1406 : jfind c384_0 1406 = some c384_1406 := rfl
set_option maxRecDepth 100000 in
theorem f384_1429 : jfind c384_0 1429 = some c384_1429 := rfl
set_option maxRecDepth 100000 in
theorem f384_1452 : jfind c384_0 1452 = some c384_1452 := rfl
set_option maxRecDepth 100000 in
theorem f384_1495 : jfind c384_0 1495 = some c384_1495 := rfl
set_option maxRecDepth 100000 in
theorem f384_1518 : jfind c384_0 1518 = some c384_1518 := rfl
set_option maxRecDepth 100000 in
theorem f384_1551 : jfind c384_0 1551 = some c384_1551 := rfl
set_option maxRecDepth 100000 in
theorem f384_1564 : jfind c384_0 1564 = some c384_1564 := rfl
set_option maxRecDepth 100000 in
theorem f384_1597 : jfind c384_0 1597 = some c384_1597 := rfl
set_option maxRecDepth 100000 in
theorem f384_1630 : jfind c384_0 1630 = some c384_1630 := rfl
set_option maxRecDepth 100000 in
theorem f384_1683 : jfind c384_0 1683 = some c384_1683 := rfl
set_option maxRecDepth 100000 in
theorem f384_1726 : jfind c384_0 1726 = some c384_1726 := rfl
set_option maxRecDepth 100000 in
theorem f384_1770 : jfind c384_0 1770 = some c384_1770 := rfl
set_option maxRecDepth 100000 in
theorem f384_1813 : jfind c384_0 1813 = some c384_1813 := rfl
set_option maxRecDepth 100000 in
theorem f384_1856 : jfind c384_0 1856 = some c384_1856 := rfl
set_option maxRecDepth 100000 in
theorem f384_1879 : jfind c384_0 1879 = some c384_1879 := rfl
set_option maxRecDepth 100000 in
theorem f384_1912 : jfind c384_0 1912 = some c384_1912 := rfl
set_option maxRecDepth 100000 in
theorem f384_1955 : jfind c384_0 1955 = some c384_1955 := rfl
set_option maxRecDepth 100000 in
theorem f384_2028 : jfind c384_0 2028 = some c384_2028 := rfl
set_option maxRecDepth 100000 in
theorem f384_2061 : jfind c384_0 2061 = some c384_2061 := rfl
set_option maxRecDepth 100000 in
theorem f384_2124 : jfind c384_0 2124 = some c384_2124 := rfl
set_option maxRecDepth 100000 in
theorem f384_2157 : jfind c384_0 2157 = some c384_2157 := rfl
set_option maxRecDepth 100000 in
theorem f384_2180 : jfind c384_0 2180 = some c384_2180 := rfl
set_option maxRecDepth 100000 in
theorem f384_2186 : jfind c384_0 2186 = some c384_2186 := rfl

