def Up (h h' : JH) (a : Nat) (i v : Int) : Prop := h'.2.2 a i.toNat = v ∧ ∀ j : Nat, j ≠ i.toNat → h'.2.2 a j = h.2.2 a j
theorem Up.mk2 {h h' : JH} {a : Nat} {i i' v v' : Int} (e : h' = jwr h a i.toNat v) (hi : i' = i) (hv : v' = v) : Up h h' a i' v' := by
  subst hi
  subst hv
  exact ⟨jw_eq e, fun j hj => jw_ne e (Or.inr hj)⟩
theorem Up.kp {W : List (Nat × Nat)} {h h1 h2 : JH} {a : Nat} {i v : Int} (u : Up h h1 a i v) (k : Kp W h1 h2) (c : ∀ j, inW W a j = false) : Up h h2 a i v := ⟨(k.v (c _)).trans u.1, fun j hj => (k.v (c _)).trans (u.2 j hj)⟩
theorem Up.pk {W : List (Nat × Nat)} {h h1 h2 : JH} {a : Nat} {i v : Int} (k : Kp W h h1) (c : ∀ j, inW W a j = false) (u : Up h1 h2 a i v) : Up h h2 a i v := ⟨u.1, fun j hj => (u.2 j hj).trans (k.v (c _))⟩
def Sm (h h' : JH) (a : Nat) : Prop := ∀ j : Nat, h'.2.2 a j = h.2.2 a j
def vw (h : JH) (c : Nat) (N i : Int) : Int := if 0 ≤ i ∧ i < N then h.2.2 c i.toNat else 0
theorem vw_at {W : List (Nat × Nat)} {h h1 : JH} {c : Nat} {N i v : Int} (k : Kp W h h1) (cc : ∀ j, inW W c j = false) (e : h1.2.2 c i.toNat = v) (b : 0 ≤ i ∧ i < N) : vw h c N i = v := by
  unfold vw
  rw [if_pos b, ← k.v (cc _)]
  exact e
theorem vw_kp {W : List (Nat × Nat)} {h h1 : JH} {c : Nat} (k : Kp W h h1) (cc : ∀ j, inW W c j = false) : vw h1 c = vw h c := by
  funext N i
  unfold vw
  rw [k.v (cc _)]
def FC (h : JH) (k : Nat) (i : Int) : Int := if k = 0 then vw h 28 3 i else if k = 1 then vw h 29 3 i else if k = 2 then vw h 30 3 i else vw h 31 4 i
def FR (h : JH) (k : Nat) (i : Int) : Int := if k = 0 then vw h 68 3 i else if k = 1 then vw h 69 3 i else if k = 2 then vw h 70 3 i else vw h 71 4 i
theorem FC_kp {h h1 : JH} (k : Kp [] h h1) : FC h1 = FC h := by
  funext j i
  unfold FC
  rw [vw_kp k (c := 28) (fun _ => rfl), vw_kp k (c := 29) (fun _ => rfl), vw_kp k (c := 30) (fun _ => rfl), vw_kp k (c := 31) (fun _ => rfl)]
theorem FR_kp {W : List (Nat × Nat)} {h h1 : JH} (k : Kp W h h1) (c1 : ∀ j, inW W 68 j = false) (c2 : ∀ j, inW W 69 j = false) (c3 : ∀ j, inW W 70 j = false) (c4 : ∀ j, inW W 71 j = false) : FR h1 = FR h := by
  funext j i
  unfold FR
  rw [vw_kp k c1, vw_kp k c2, vw_kp k c3, vw_kp k c4]
def bt (x k : Int) : Int := jand (jshr x k) 1
theorem bt_of {x k v w : Int} (e1 : jshr x k = v) (e2 : jand v 1 = w) : bt x k = w := by unfold bt; rw [e1, e2]
def ow (n b s : Int) : Int := jand (jshr b (2 * (n - 1 - s))) 3
theorem ow_of {n b s y v r : Int} (e1 : jshr b y = v) (e2 : jand v 3 = r) (hy : y = 2 * (n - 1 - s)) : ow n b s = r := by
  subst hy
  unfold ow
  rw [e1, e2]
def gt (F : Nat → Int → Int) (s q b : Int) : Int := if bt b q = 1 then F 3 q else F 1 s - F 2 s
def sW (F : Nat → Int → Int) (n b q : Int) : Nat → Int
  | 0 => 0
  | j + 1 => if ow n b (j : Int) = q then sW F n b q j + F 0 (j : Int) else sW F n b q j
def sU (F : Nat → Int → Int) (n b q : Int) : Nat → Int
  | 0 => 0
  | j + 1 => if ow n b (j : Int) = q then sU F n b q j + F 0 (j : Int) * F 1 (j : Int) else sU F n b q j
def lW (F : Nat → Int → Int) : Nat → Int
  | 0 => 99
  | j + 1 => if lW F j < F 1 (j : Int) then lW F j else F 1 (j : Int)
theorem s_add {F : Nat → Int → Int} {n b q x y x' y' z t wv uv p : Int} (hx : x = sW F n b q z.toNat) (hy : y = sU F n b q z.toNat) (z0 : 0 ≤ z) (ho : ow n b z = q) (e0 : F 0 z = wv) (e1 : F 1 z = uv) (ep : wv * uv = p) (ht : t = z + 1) (hx' : x' = x + wv) (hy' : y' = y + p) : x' = sW F n b q t.toNat ∧ y' = sU F n b q t.toNat := by
  rw [show t.toNat = z.toNat + 1 by omega]
  unfold sW sU
  rw [show ((z.toNat : Nat) : Int) = z by omega, if_pos ho, if_pos ho, ← hx, ← hy, e0, e1, ep]
  exact ⟨hx', hy'⟩
theorem s_no {F : Nat → Int → Int} {n b q x y z t : Int} (hx : x = sW F n b q z.toNat) (hy : y = sU F n b q z.toNat) (z0 : 0 ≤ z) (ho : ow n b z ≠ q) (ht : t = z + 1) : x = sW F n b q t.toNat ∧ y = sU F n b q t.toNat := by
  rw [show t.toNat = z.toNat + 1 by omega]
  unfold sW sU
  rw [show ((z.toNat : Nat) : Int) = z by omega, if_neg ho, if_neg ho]
  exact ⟨hx, hy⟩
theorem l_add {F : Nat → Int → Int} {x z t v x' : Int} (hx : x = lW F z.toNat) (z0 : 0 ≤ z) (e : F 1 z = v) (ht : t = z + 1) (hx' : x' = if x < v then x else v) : x' = lW F t.toNat := by
  rw [show t.toNat = z.toNat + 1 by omega]
  unfold lW
  rw [show ((z.toNat : Nat) : Int) = z by omega, ← hx, e]
  exact hx'
def TT (F : Nat → Int → Int) (n d b q : Int) : Prop := if sW F n b q n.toNat = 0 then F 3 q ≤ lW F n.toNat + d else F 3 q * sW F n b q n.toNat ≤ sU F n b q n.toNat + d * sW F n b q n.toNat
def Mk (F : Nat → Int → Int) (n m b t x : Int) : Prop := ∀ s, 0 ≤ s → s < x → ow n b s < m ∧ ∀ q, 0 ≤ q → q < m → gt F s q t ≤ gt F s (ow n b s) t
def Tk (F : Nat → Int → Int) (n d b t x : Int) : Prop := ∀ q, 0 ≤ q → q < x → (bt t q = 1 ↔ TT F n d b q)
def HH (F : Nat → Int → Int) (n m d b t : Int) : Prop := Mk F n m b t n ∧ Tk F n d b t m
theorem Mk.add {F : Nat → Int → Int} {n m b t x y : Int} (H : Mk F n m b t x) (hy : y = x + 1) (p : ow n b x < m ∧ ∀ q, 0 ≤ q → q < m → gt F x q t ≤ gt F x (ow n b x) t) : Mk F n m b t y := fun s a c => by
  rcases Decidable.em (s = x) with r | r
  · rw [r]; exact p
  · exact H s a (by omega)
theorem Tk.add {F : Nat → Int → Int} {n d b t x y : Int} (H : Tk F n d b t x) (hy : y = x + 1) (p : bt t x = 1 ↔ TT F n d b x) : Tk F n d b t y := fun s a c => by
  rcases Decidable.em (s = x) with r | r
  · rw [r]; exact p
  · exact H s a (by omega)
/-! bits -/
def jo1 (x k : Nat) : Bool := !decide ((x : Int) < jshl 1 (k : Int)) || (decide (0 ≤ jor (x : Int) (jshl 1 (k : Int))) && decide (jor (x : Int) (jshl 1 (k : Int)) < jshl 1 ((k : Int) + 1)) && decide (bt (jor (x : Int) (jshl 1 (k : Int))) (k : Int) = 1) && (List.range k).all (fun q => decide (bt (jor (x : Int) (jshl 1 (k : Int))) (q : Int) = bt (x : Int) (q : Int))) && decide (jor (x : Int) 0 = (x : Int)) && decide ((x : Int) < jshl 1 ((k : Int) + 1)) && decide (bt (x : Int) (k : Int) = 0))
set_option maxRecDepth 100000 in
theorem jo_all : (List.range 16).all (fun x => (List.range 4).all (fun k => jo1 x k)) = true := by decide +kernel
theorem jo_f {x k : Int} (x0 : 0 ≤ x) (x1 : x ≤ 15) (k0 : 0 ≤ k) (k1 : k ≤ 3) (hx : x < jshl 1 k) : 0 ≤ jor x (jshl 1 k) ∧ jor x (jshl 1 k) < jshl 1 (k + 1) ∧ bt (jor x (jshl 1 k)) k = 1 ∧ (∀ q, 0 ≤ q → q < k → bt (jor x (jshl 1 k)) q = bt x q) ∧ jor x 0 = x ∧ x < jshl 1 (k + 1) ∧ bt x k = 0 := by
  have a1 := List.all_eq_true.mp jo_all x.toNat (List.mem_range.mpr (by omega))
  have a2 := List.all_eq_true.mp a1 k.toNat (List.mem_range.mpr (by omega))
  unfold jo1 at a2
  rw [show ((x.toNat : Nat) : Int) = x by omega, show ((k.toNat : Nat) : Int) = k by omega] at a2
  simp only [Bool.or_eq_true, Bool.not_eq_true', decide_eq_false_iff_not, Bool.and_eq_true, decide_eq_true_eq, List.all_eq_true, List.mem_range] at a2
  rcases a2 with a2 | ⟨⟨⟨⟨⟨⟨b1, b2⟩, b3⟩, b4⟩, b5⟩, b6⟩, b7⟩
  · exact absurd hx a2
  · refine ⟨b1, b2, b3, fun q q0 q1 => ?_, b5, b6, b7⟩
    have := b4 q.toNat (by omega)
    rw [show ((q.toNat : Nat) : Int) = q by omega] at this
    exact this
def Tb (F : Nat → Int → Int) (n d b t x : Int) : Prop := t < jshl 1 x ∧ Tk F n d b t x
theorem Tb.start {F : Nat → Int → Int} {n d b : Int} : Tb F n d b 0 0 := ⟨by decide, fun q a c => by omega⟩
theorem Tb.yes {F : Nat → Int → Int} {n d b t x l r y : Int} (H : Tb F n d b t x) (t0 : 0 ≤ t) (t1 : t ≤ 15) (x0 : 0 ≤ x) (x1 : x ≤ 3) (e1 : jshl 1 x = l) (e2 : jor t l = r) (p : TT F n d b x) (hy : y = x + 1) : Tb F n d b r y := by
  obtain ⟨b1, b2, b3, b4, _⟩ := jo_f t0 t1 x0 x1 H.1
  rw [e1, e2] at b1 b2 b3 b4
  subst hy
  refine ⟨b2, fun q a c => ?_⟩
  rcases Decidable.em (q = x) with z | z
  · rw [z]; exact ⟨fun _ => p, fun _ => b3⟩
  · rw [b4 q a (by omega)]; exact H.2 q a (by omega)
theorem Tb.no {F : Nat → Int → Int} {n d b t x r y : Int} (H : Tb F n d b t x) (t0 : 0 ≤ t) (t1 : t ≤ 15) (x0 : 0 ≤ x) (x1 : x ≤ 3) (e2 : jor t 0 = r) (p : ¬ TT F n d b x) (hy : y = x + 1) : Tb F n d b r y := by
  obtain ⟨_, _, _, _, b5, b6, b7⟩ := jo_f t0 t1 x0 x1 H.1
  have er : r = t := by rw [← e2]; exact b5
  subst er
  subst hy
  refine ⟨b6, fun q a c => ?_⟩
  rcases Decidable.em (q = x) with z | z
  · rw [z, b7]; exact ⟨fun w => absurd w (by decide), fun w => absurd w p⟩
  · exact H.2 q a (by omega)
def ju1 (x y k : Nat) : Bool := !decide ((x : Int) < jshl 1 (k : Int)) || !decide ((y : Int) < jshl 1 (k : Int)) || !(List.range k).all (fun q => decide (bt (x : Int) (q : Int) = 1) == decide (bt (y : Int) (q : Int) = 1)) || decide (x = y)
set_option maxRecDepth 100000 in
theorem ju_all : (List.range 16).all (fun x => (List.range 16).all (fun y => (List.range 5).all (fun k => ju1 x y k))) = true := by decide +kernel
theorem HH.uniq {F : Nat → Int → Int} {n m d b t u : Int} (a : HH F n m d b t) (c : HH F n m d b u) (t0 : 0 ≤ t) (t1 : t < jshl 1 m) (u0 : 0 ≤ u) (u1 : u < jshl 1 m) (m0 : 0 ≤ m) (m4 : m ≤ 4) (t15 : t ≤ 15) (u15 : u ≤ 15) : t = u := by
  have a1 := List.all_eq_true.mp ju_all t.toNat (List.mem_range.mpr (by omega))
  have a2 := List.all_eq_true.mp a1 u.toNat (List.mem_range.mpr (by omega))
  have a3 := List.all_eq_true.mp a2 m.toNat (List.mem_range.mpr (by omega))
  unfold ju1 at a3
  rw [show ((t.toNat : Nat) : Int) = t by omega, show ((u.toNat : Nat) : Int) = u by omega, show ((m.toNat : Nat) : Int) = m by omega] at a3
  have hb : (List.range m.toNat).all (fun q => decide (bt t (q : Int) = 1) == decide (bt u (q : Int) = 1)) = true := by
    rw [List.all_eq_true]
    intro q hq
    have hq2 := List.mem_range.mp hq
    have e1 := a.2 (q : Int) (by omega) (by omega)
    have e2 := c.2 (q : Int) (by omega) (by omega)
    rw [beq_iff_eq, decide_eq_decide]
    exact e1.trans e2.symm
  rw [hb] at a3
  simp only [Bool.or_eq_true, Bool.not_eq_true', decide_eq_false_iff_not, decide_eq_true_eq, Bool.not_true, Bool.false_eq_true, or_false] at a3
  omega
def dg1 (b k s : Nat) : Bool := !decide ((b : Int) < jshl 1 (2 * (k : Int))) || (decide (4 * jshr (b : Int) (2 * ((k : Int) - (s : Int))) + jand (jshr (b : Int) (2 * ((k : Int) - 1 - (s : Int)))) 3 = jshr (b : Int) (2 * ((k : Int) - 1 - (s : Int)))) && decide (jshr (b : Int) (2 * (k : Int)) = 0) && decide (0 ≤ jshr (b : Int) (2 * ((k : Int) - (s : Int)))) && decide (jshr (b : Int) (2 * ((k : Int) - (s : Int))) ≤ 63))
set_option maxRecDepth 100000 in
theorem dg_all : (List.range 64).all (fun b => (List.range 4).all (fun k => (List.range k).all (fun s => dg1 b k s))) = true := by decide +kernel
theorem dg_f {b k s : Int} (b0 : 0 ≤ b) (b1 : b ≤ 63) (k0 : 1 ≤ k) (k1 : k ≤ 3) (s0 : 0 ≤ s) (s1 : s < k) (hb : b < jshl 1 (2 * k)) : 4 * jshr b (2 * (k - s)) + jand (jshr b (2 * (k - 1 - s))) 3 = jshr b (2 * (k - 1 - s)) ∧ jshr b (2 * k) = 0 ∧ 0 ≤ jshr b (2 * (k - s)) ∧ jshr b (2 * (k - s)) ≤ 63 := by
  have a1 := List.all_eq_true.mp dg_all b.toNat (List.mem_range.mpr (by omega))
  have a2 := List.all_eq_true.mp a1 k.toNat (List.mem_range.mpr (by omega))
  have a3 := List.all_eq_true.mp a2 s.toNat (List.mem_range.mpr (by omega))
  unfold dg1 at a3
  rw [show ((b.toNat : Nat) : Int) = b by omega, show ((k.toNat : Nat) : Int) = k by omega, show ((s.toNat : Nat) : Int) = s by omega] at a3
  simp only [Bool.or_eq_true, Bool.not_eq_true', decide_eq_false_iff_not, Bool.and_eq_true, decide_eq_true_eq] at a3
  rcases a3 with a3 | ⟨⟨⟨c1, c2⟩, c3⟩, c4⟩
  · exact absurd hb a3
  · exact ⟨c1, c2, c3, c4⟩
/-! how many, the first -/
def Cn (P : Nat → Prop) : Nat → Int → Prop
  | 0, n => n = 0
  | q + 1, n => (P q ∧ ∃ m, Cn P q m ∧ n = m + 1) ∨ (¬ P q ∧ Cn P q n)
theorem Cn.uniq {P : Nat → Prop} : ∀ (q : Nat) {n m : Int}, Cn P q n → Cn P q m → n = m := by
  intro q
  induction q with
  | zero => intro n m a b; exact a.trans b.symm
  | succ q ih =>
    intro n m a b
    rcases a with ⟨p, n', a, e⟩ | ⟨p, a⟩
    · rcases b with ⟨_, m', b, e'⟩ | ⟨p', _⟩
      · have := ih a b
        omega
      · exact absurd p p'
    · rcases b with ⟨p', _⟩ | ⟨_, b⟩
      · exact absurd p' p
      · exact ih a b
def PP (F : Nat → Int → Int) (n m d : Int) (q : Nat) : Prop := ∃ t, 0 ≤ t ∧ t < jshl 1 m ∧ HH F n m d (q : Int) t
def Np (P : Nat → Prop) (x : Int) : Prop := ∀ q : Nat, (q : Int) < x → ¬ P q
def Lq (P : Nat → Prop) (w x c : Int) : Prop := Cn P x.toNat c ∧ (0 < w → Np P x)
theorem Lq.start {P : Nat → Prop} {w : Int} : Lq P w 0 0 := ⟨rfl, fun _ q h => by omega⟩
theorem Lq.yes {P : Nat → Prop} {w x c y e : Int} (H : Lq P w x c) (x0 : 0 ≤ x) (p : P x.toNat) (hw : w ≤ 0) (hy : y = x + 1) (he : e = c + 1) : Lq P w y e := by
  refine ⟨?_, fun z => by omega⟩
  rw [show y.toNat = x.toNat + 1 by omega]
  exact Or.inl ⟨p, c, H.1, he⟩
theorem Lq.no {P : Nat → Prop} {w x c y : Int} (H : Lq P w x c) (x0 : 0 ≤ x) (p : ¬ P x.toNat) (hy : y = x + 1) : Lq P w y c := by
  refine ⟨?_, fun z q hq => ?_⟩
  · rw [show y.toNat = x.toNat + 1 by omega]
    exact Or.inr ⟨p, H.1⟩
  · rcases Decidable.em (q = x.toNat) with r | r
    · rw [r]; exact p
    · exact H.2 z q (by omega)
def HoS (F : Nat → Int → Int) (n m d w r : Int) : Prop := ((n = 0 ∨ m = 0) ∧ r = -5) ∨ ((n ≠ 0 ∧ m ≠ 0) ∧ ((w = 0 ∧ Cn (PP F n m d) (jshl 1 (2 * n)).toNat r) ∨ (w ≠ 0 ∧ ((∃ q : Nat, (q : Int) < jshl 1 (2 * n) ∧ Np (PP F n m d) (q : Int) ∧ ∃ t, 0 ≤ t ∧ t < jshl 1 m ∧ HH F n m d (q : Int) t ∧ r = if w = 1 then (q : Int) else t) ∨ (Np (PP F n m d) (jshl 1 (2 * n)) ∧ r = -2)))))
theorem sh16 {m : Int} (m0 : 0 ≤ m) (m4 : m ≤ 4) : jshl 1 m ≤ 16 := by
  rcases (show m = 0 ∨ m = 1 ∨ m = 2 ∨ m = 3 ∨ m = 4 by omega) with z | z | z | z | z <;> subst z <;> decide
theorem HoS.eq {F : Nat → Int → Int} {n m d w r s : Int} (m0 : 0 ≤ m) (m4 : m ≤ 4) (a : HoS F n m d w r) (b : HoS F n m d w s) : r = s := by
  have h16 := sh16 m0 m4
  rcases a with ⟨a1, a2⟩ | ⟨a1, a2⟩
  · rcases b with ⟨b1, b2⟩ | ⟨b1, _⟩
    · exact a2.trans b2.symm
    · exact (a1.elim b1.1 b1.2).elim
  · rcases b with ⟨b1, _⟩ | ⟨_, b2⟩
    · exact (b1.elim a1.1 a1.2).elim
    · rcases a2 with ⟨w1, a2⟩ | ⟨w1, a2⟩
      · rcases b2 with ⟨_, b2⟩ | ⟨w2, _⟩
        · exact Cn.uniq _ a2 b2
        · exact absurd w1 w2
      · rcases b2 with ⟨w2, _⟩ | ⟨_, b2⟩
        · exact absurd w2 w1
        · rcases a2 with ⟨q, q1, q2, t, t1, t2, t3, t4⟩ | ⟨q2, q3⟩
          · rcases b2 with ⟨p, p1, p2, u, u1, u2, u3, u4⟩ | ⟨p2, p3⟩
            · have e : q = p := by
                rcases Nat.lt_trichotomy q p with z | z | z
                · exact absurd ⟨t, t1, t2, t3⟩ (p2 q (by omega))
                · exact z
                · exact absurd ⟨u, u1, u2, u3⟩ (q2 p (by omega))
              subst e
              have e2 := HH.uniq t3 u3 t1 t2 u1 u2 m0 m4 (by omega) (by omega)
              rw [t4, u4, e2]
            · exact absurd ⟨t, t1, t2, t3⟩ (p2 q q1)
          · rcases b2 with ⟨p, p1, p2, u, u1, u2, u3, u4⟩ | ⟨p2, p3⟩
            · exact absurd ⟨u, u1, u2, u3⟩ (q2 p p1)
            · rw [q3, p3]
/-- the reference's bits for one x -/
def Li (F : Nat → Int → Int) (n m d w x y c : Int) : Prop := ∃ N, Lq (PP F n m d) w x N ∧ ((c = N ∧ ∀ t, 0 ≤ t → t < y → ¬ HH F n m d x t) ∨ (w ≤ 0 ∧ c = N + 1 ∧ ∃ t, 0 ≤ t ∧ t < y ∧ HH F n m d x t))
theorem Li.start {F : Nat → Int → Int} {n m d w x c : Int} (H : Lq (PP F n m d) w x c) : Li F n m d w x 0 c := ⟨c, H, Or.inl ⟨rfl, fun t a b => by omega⟩⟩
theorem Li.no {F : Nat → Int → Int} {n m d w x y c z : Int} (H : Li F n m d w x y c) (p : ¬ HH F n m d x y) (hz : z = y + 1) : Li F n m d w x z c := by
  obtain ⟨N, a, b⟩ := H
  refine ⟨N, a, b.imp (fun b => ⟨b.1, fun t t0 t1 => ?_⟩) (fun b => ⟨b.1, b.2.1, ?_⟩)⟩
  · rcases Decidable.em (t = y) with r | r
    · rw [r]; exact p
    · exact b.2 t t0 (by omega)
  · obtain ⟨t, t0, t1, t2⟩ := b.2.2
    exact ⟨t, t0, by omega, t2⟩
theorem Li.yes {F : Nat → Int → Int} {n m d w x y c z e : Int} (H : Li F n m d w x y c) (p : HH F n m d x y) (hw : w ≤ 0) (y0 : 0 ≤ y) (y1 : y < jshl 1 m) (m0 : 0 ≤ m) (m4 : m ≤ 4) (hz : z = y + 1) (he : e = c + 1) : Li F n m d w x z e := by
  have h16 := sh16 m0 m4
  obtain ⟨N, a, b⟩ := H
  rcases b with ⟨b1, b2⟩ | ⟨b0, b1, t, t0, t1, t2⟩
  · exact ⟨N, a, Or.inr ⟨hw, by omega, y, y0, by omega, p⟩⟩
  · have := HH.uniq t2 p t0 (by omega) y0 y1 m0 m4 (by omega) (by omega)
    omega
theorem Li.fin {F : Nat → Int → Int} {n m d w x y c z : Int} (H : Li F n m d w x y c) (x0 : 0 ≤ x) (hy : y = jshl 1 m) (hz : z = x + 1) : Lq (PP F n m d) w z c := by
  obtain ⟨N, a, b⟩ := H
  have ex : ((x.toNat : Nat) : Int) = x := by omega
  rcases b with ⟨b1, b2⟩ | ⟨b0, b1, t, t0, t1, t2⟩
  · rw [b1]
    refine a.no x0 (fun z => ?_) hz
    obtain ⟨t, t0, t1, t2⟩ := z
    rw [ex] at t2
    exact b2 t t0 (by omega) t2
  · exact a.yes x0 ⟨t, t0, by omega, by rw [ex]; exact t2⟩ b0 hz b1
theorem Lq.hit {F : Nat → Int → Int} {n m d w x y c r : Int} (H : Lq (PP F n m d) w x c) (n0 : n ≠ 0) (m0 : m ≠ 0) (x0 : 0 ≤ x) (xk : x < jshl 1 (2 * n)) (y0 : 0 ≤ y) (y1 : y < jshl 1 m) (hw : 0 < w) (p : HH F n m d x y) (hr : r = if w = 1 then x else y) : HoS F n m d w r := by
  have ex : ((x.toNat : Nat) : Int) = x := by omega
  exact Or.inr ⟨⟨n0, m0⟩, Or.inr ⟨by omega, Or.inl ⟨x.toNat, by rw [ex]; exact xk, by rw [ex]; exact H.2 hw, y, y0, y1, by rw [ex]; exact p, by rw [ex]; exact hr⟩⟩⟩
theorem Li.hit {F : Nat → Int → Int} {n m d w x y c r : Int} (H : Li F n m d w x y c) (n0 : n ≠ 0) (m0 : m ≠ 0) (x0 : 0 ≤ x) (xk : x < jshl 1 (2 * n)) (y0 : 0 ≤ y) (y1 : y < jshl 1 m) (hw : 0 < w) (p : HH F n m d x y) (hr : r = if w = 1 then x else y) : HoS F n m d w r := by
  obtain ⟨N, a, _⟩ := H
  exact a.hit n0 m0 x0 xk y0 y1 hw p hr
theorem Lq.end {F : Nat → Int → Int} {n m d w x c r : Int} (H : Lq (PP F n m d) w x c) (n0 : n ≠ 0) (m0 : m ≠ 0) (hx : x = jshl 1 (2 * n)) (w0 : 0 ≤ w) (hr : r = if w = 0 then c else -2) : HoS F n m d w r := by
  subst hx
  refine Or.inr ⟨⟨n0, m0⟩, ?_⟩
  rcases Decidable.em (w = 0) with z | z
  · rw [if_pos z] at hr
    exact Or.inl ⟨z, by rw [hr]; exact H.1⟩
  · rw [if_neg z] at hr
    exact Or.inr ⟨z, Or.inr ⟨H.2 (by omega), hr⟩⟩
/-! what sorts and offers there are -/
def SoV (a b c n : Int) : Prop := 1 ≤ a ∧ a ≤ 9 ∧ 0 ≤ b ∧ b ≤ 99 ∧ 0 ≤ c ∧ c ≤ 99 ∧ n ≠ 3
def SoE (h h' : JH) (x y z : Nat) (a b c n r : Int) : Prop := (SoV a b c n ∧ r = n + 1 ∧ Up h h' x n a ∧ Up h h' y n b ∧ Up h h' z n c) ∨ (¬ SoV a b c n ∧ r = n ∧ Sm h h' x ∧ Sm h h' y ∧ Sm h h' z)
def OfV (h : JH) (c : Nat) (a n : Int) : Prop := 0 ≤ a ∧ a ≤ 99 ∧ n ≠ 4 ∧ ∀ j : Int, 0 ≤ j → j < n → h.2.2 c j.toNat ≠ a
def OfE (h h' : JH) (c : Nat) (a n r : Int) : Prop := (OfV h c a n ∧ r = n + 1 ∧ Up h h' c n a) ∨ (¬ OfV h c a n ∧ r = n ∧ Sm h h' c)
def Cc : List (Nat × Nat) := [(26, 4), (26, 8), (28, 0), (29, 0), (30, 0), (31, 0), (42, 48), (42, 52), (68, 0), (69, 0), (70, 0), (71, 0)]
def Rl (h : JH) : Prop := h.2.2 26 3 = h.2.2 42 47 ∧ h.2.2 26 7 = h.2.2 42 51 ∧ (∀ j : Nat, j < 3 → h.2.2 28 j = h.2.2 68 j ∧ h.2.2 29 j = h.2.2 69 j ∧ h.2.2 30 j = h.2.2 70 j) ∧ ∀ j : Nat, j < 4 → h.2.2 31 j = h.2.2 71 j
theorem Rl.fr {h h' : JH} (x : Rl h) (e : ∀ a i, inW Cc a i = true → h'.2.2 a i = h.2.2 a i) : Rl h' := by
  refine ⟨by rw [e 26 3 rfl, e 42 47 rfl]; exact x.1, by rw [e 26 7 rfl, e 42 51 rfl]; exact x.2.1, fun j hj => ?_, fun j hj => ?_⟩
  · rw [e 28 _ rfl, e 29 _ rfl, e 30 _ rfl, e 68 _ rfl, e 69 _ rfl, e 70 _ rfl]
    exact x.2.2.1 j hj
  · rw [e 31 _ rfl, e 71 _ rfl]
    exact x.2.2.2 j hj
def dsj (C W : List (Nat × Nat)) : Bool := C.all (fun c => decide (c.1 < 83) && W.all (fun w => w.1 != c.1 || (w.2 != 0 && c.2 != 0 && w.2 != c.2)))
theorem dsj_at {C W : List (Nat × Nat)} (h : dsj C W = true) {a i : Nat} (hc : inW C a i = true) : a < 83 ∧ inW W a i = false := by
  unfold inW at hc
  obtain ⟨c, hm, hq⟩ := List.any_eq_true.mp hc
  have h1 := List.all_eq_true.mp h c hm
  rw [Bool.and_eq_true, decide_eq_true_eq] at h1
  simp only [Bool.or_eq_true, Bool.and_eq_true, beq_iff_eq, decide_eq_true_eq] at hq
  have ha : a < 83 := by omega
  refine ⟨ha, ?_⟩
  unfold inW
  rw [List.any_eq_false]
  intro w hw hx
  have h2 := List.all_eq_true.mp h1.2 w hw
  simp only [Bool.or_eq_true, Bool.and_eq_true, bne_iff_ne] at h2
  simp only [Bool.or_eq_true, Bool.and_eq_true, beq_iff_eq, decide_eq_true_eq] at hx
  omega
theorem Rl.kp {W : List (Nat × Nat)} {h h' : JH} (x : Rl h) (k : Kp W h h') (hd : dsj Cc W = true) : Rl h' := x.fr (fun a i hc => k.v (dsj_at hd hc).2)
theorem Rl.kx {W : List (Nat × Nat)} {h h' : JH} (x : Rl h) (k : Kx W h h') (hd : dsj Cc W = true) (h83 : 83 ≤ h.1) : Rl h' := x.fr (fun a i hc => k.2.2 a i (Nat.lt_of_lt_of_le (dsj_at hd hc).1 h83) (dsj_at hd hc).2)
theorem mul_ab {x y : Int} {A B : Nat} (hx : x.natAbs ≤ A) (hy : y.natAbs ≤ B) : -((A * B : Nat) : Int) ≤ x * y ∧ x * y ≤ ((A * B : Nat) : Int) := by
  have e := Int.natAbs_mul x y
  have m := Nat.mul_le_mul hx hy
  rw [← e] at m
  omega
theorem lwc_kp {h h1 : JH} (k : Kp [] h h1) {r : Int} {n : Nat} (X : r = lW (FC h1) n) : r = lW (FC h) n := by
  rw [FC_kp k] at X
  exact X
theorem tkc_kp {h h1 : JH} (k : Kp [] h h1) {r m n d b x : Int} (X : r < m ∧ Tk (FC h1) n d b r x) : r < m ∧ Tk (FC h) n d b r x := by
  rw [FC_kp k] at X
  exact X
theorem frg_kp {h h1 : JH} (k : Kp [] h h1) {r s q b : Int} (X : r = gt (FR h1) s q b) : r = gt (FR h) s q b := by
  rw [FR_kp k (fun _ => rfl) (fun _ => rfl) (fun _ => rfl) (fun _ => rfl)] at X
  exact X
theorem frt_kp {h h1 : JH} (k : Kp [] h h1) {r n d b q : Int} (X : r = 1 ↔ TT (FR h1) n d b q) : r = 1 ↔ TT (FR h) n d b q := by
  rw [FR_kp k (fun _ => rfl) (fun _ => rfl) (fun _ => rfl) (fun _ => rfl)] at X
  exact X
theorem frh_kp {h h1 : JH} (k : Kp [] h h1) {r n m d b t : Int} (X : r = 1 ↔ HH (FR h1) n m d b t) : r = 1 ↔ HH (FR h) n m d b t := by
  rw [FR_kp k (fun _ => rfl) (fun _ => rfl) (fun _ => rfl) (fun _ => rfl)] at X
  exact X
theorem Up.mk3 {h h1 h' : JH} {a : Nat} {i i' v v' : Int} (m : Sm h h1 a) (e : h' = jwr h1 a i.toNat v) (hi : i' = i) (hv : v' = v) : Up h h' a i' v' := by
  subst hi
  subst hv
  exact ⟨jw_eq e, fun j hj => (jw_ne e (Or.inr hj)).trans (m j)⟩
theorem of_add {P : Int → Prop} {x y : Int} (H : ∀ j : Int, 0 ≤ j → j < x → P j) (hy : y = x + 1) (p : P x) : ∀ j : Int, 0 ≤ j → j < y → P j := fun j a b => by
  rcases Decidable.em (j = x) with r | r
  · rw [r]; exact p
  · exact H j a (by omega)
theorem md_add {P : Int → Prop} {x y : Int} (H : ∀ j : Int, 0 ≤ j → j < x → P j) (hy : y = x + 1) (p : P x) : ∀ j : Int, 0 ≤ j → j < y → P j := of_add H hy p
theorem kq_add {P : Int → Prop} {x y : Int} (H : ∀ j : Int, 0 ≤ j → j < x → P j) (hy : y = x + 1) (p : P x) : ∀ j : Int, 0 ≤ j → j < y → P j := of_add H hy p
theorem kq_add2 {g : Int → Int} {z x y u v : Int} (H : ∀ q, 0 ≤ q → q < x → g q ≤ g z) (hy : y = x + 1) (e1 : u = g x) (e2 : v = g z) (p : u ≤ v) : ∀ q, 0 ≤ q → q < y → g q ≤ g z := fun j a b => by
  rcases Decidable.em (j = x) with r | r
  · rw [r, ← e1, ← e2]; exact p
  · exact H j a (by omega)
def Mq (F : Nat → Int → Int) (n m b t x : Int) : Prop := ∀ s, 0 ≤ s → s < x → ∀ q, 0 ≤ q → q < m → gt F s q t ≤ gt F s (ow n b s) t
theorem mqc_kp {h h1 : JH} (k : Kp [] h h1) {r n m b t x : Int} (X : r = 1 ↔ Mq (FC h1) n m b t x) : r = 1 ↔ Mq (FC h) n m b t x := by
  rw [FC_kp k] at X
  exact X
theorem Mq.add {F : Nat → Int → Int} {n m b t x y : Int} (H : Mq F n m b t x) (hy : y = x + 1) (p : ∀ q, 0 ≤ q → q < m → gt F x q t ≤ gt F x (ow n b x) t) : Mq F n m b t y := fun s a c => by
  rcases Decidable.em (s = x) with r | r
  · rw [r]; exact p
  · exact H s a (by omega)
theorem mk_of {F : Nat → Int → Int} {n m b t : Int} (a : ∀ s, 0 ≤ s → s < n → ow n b s < m) (c : Mq F n m b t n) : Mk F n m b t n := fun s s0 s1 => ⟨a s s0 s1, c s s0 s1⟩
theorem tk_uniq {F : Nat → Int → Int} {n m d b t u : Int} (a : Tk F n d b t m) (c : Tk F n d b u m) (t0 : 0 ≤ t) (t1 : t < jshl 1 m) (u0 : 0 ≤ u) (u1 : u < jshl 1 m) (m0 : 0 ≤ m) (m4 : m ≤ 4) : t = u := by
  have h16 := sh16 m0 m4
  have a1 := List.all_eq_true.mp ju_all t.toNat (List.mem_range.mpr (by omega))
  have a2 := List.all_eq_true.mp a1 u.toNat (List.mem_range.mpr (by omega))
  have a3 := List.all_eq_true.mp a2 m.toNat (List.mem_range.mpr (by omega))
  unfold ju1 at a3
  rw [show ((t.toNat : Nat) : Int) = t by omega, show ((u.toNat : Nat) : Int) = u by omega, show ((m.toNat : Nat) : Int) = m by omega] at a3
  have hb : (List.range m.toNat).all (fun q => decide (bt t (q : Int) = 1) == decide (bt u (q : Int) = 1)) = true := by
    rw [List.all_eq_true]
    intro q hq
    have hq2 := List.mem_range.mp hq
    have e1 := a (q : Int) (by omega) (by omega)
    have e2 := c (q : Int) (by omega) (by omega)
    rw [beq_iff_eq, decide_eq_decide]
    exact e1.trans e2.symm
  rw [hb] at a3
  simp only [Bool.or_eq_true, Bool.not_eq_true', decide_eq_false_iff_not, decide_eq_true_eq, Bool.not_true, Bool.false_eq_true, or_false] at a3
  omega
theorem tk_of {P : Prop} {t x b v : Int} (e : bt t x = b) (p : v = 1 ↔ P) (h : (b = 1 ∧ v = 1) ∨ (b ≠ 1 ∧ v ≠ 1)) : bt t x = 1 ↔ P := by
  rw [e]
  rcases h with h | h
  · exact ⟨fun _ => p.mp h.2, fun _ => h.1⟩
  · exact ⟨fun z => absurd z h.1, fun z => absurd (p.mpr z) h.2⟩
theorem tk_no {P Q : Prop} {t x b v : Int} (e : bt t x = b) (p : v = 1 ↔ P) (h : (b = 1 ∧ v ≠ 1) ∨ (b ≠ 1 ∧ v = 1)) (hv : True ∨ v = v) (q : bt t x = 1 ↔ P) : Q := by
  rw [e] at q
  rcases h with h | h
  · exact absurd (p.mpr (q.mp h.1)) h.2
  · exact absurd (q.mpr (p.mp h.2)) h.1
theorem sh_pos {n : Int} (n0 : 0 ≤ n) (n3 : n ≤ 3) : 0 ≤ jshl 1 (2 * n) := by
  rcases (show n = 0 ∨ n = 1 ∨ n = 2 ∨ n = 3 by omega) with z | z | z | z <;> subst z <;> decide
theorem sm_pos {n : Int} (n0 : 0 ≤ n) (n3 : n ≤ 4) : 0 ≤ jshl 1 n := by
  rcases (show n = 0 ∨ n = 1 ∨ n = 2 ∨ n = 3 ∨ n = 4 by omega) with z | z | z | z | z <;> subst z <;> decide
theorem Rl.ff {h : JH} (x : Rl h) : FC h = FR h := by
  funext k i
  unfold FC FR vw
  by_cases c : 0 ≤ i ∧ i < 3
  · obtain ⟨a1, a2, a3⟩ := x.2.2.1 i.toNat (by omega)
    rw [if_pos c, if_pos c, if_pos c, if_pos c, if_pos c, if_pos c, a1, a2, a3, if_pos (show 0 ≤ i ∧ i < 4 by omega), if_pos (show 0 ≤ i ∧ i < 4 by omega), x.2.2.2 i.toNat (by omega)]
  · rw [if_neg c, if_neg c, if_neg c, if_neg c, if_neg c, if_neg c]
    by_cases c2 : 0 ≤ i ∧ i < 4
    · rw [if_pos c2, if_pos c2, x.2.2.2 i.toNat (by omega)]
    · rw [if_neg c2, if_neg c2]
theorem Rl.sort {h h1 h2 : JH} {a b c n r1 r2 : Int} (x : Rl h) (k1 : Kp [(26, 4), (28, 0), (29, 0), (30, 0)] h h1) (k2 : Kp [(42, 48), (68, 0), (69, 0), (70, 0)] h1 h2) (c1 : h1.2.2 26 3 = r1) (c2 : h2.2.2 42 47 = r2) (f1 : SoE h h1 28 29 30 a b c n r1) (f2 : SoE h1 h2 68 69 70 a b c n r2) : Rl h2 := by
  have e31 : ∀ j, h2.2.2 31 j = h.2.2 31 j := fun j => (k2.v rfl).trans (k1.v rfl)
  have e71 : ∀ j, h2.2.2 71 j = h.2.2 71 j := fun j => (k2.v rfl).trans (k1.v rfl)
  have o7 : h2.2.2 26 7 = h2.2.2 42 51 := by rw [k2.v rfl, k1.v rfl, k2.v (a := 42) rfl, k1.v (a := 42) rfl]; exact x.2.1
  have e28 : ∀ j, h2.2.2 28 j = h1.2.2 28 j := fun j => k2.v rfl
  have e29 : ∀ j, h2.2.2 29 j = h1.2.2 29 j := fun j => k2.v rfl
  have e30 : ∀ j, h2.2.2 30 j = h1.2.2 30 j := fun j => k2.v rfl
  have e68 : ∀ j, h1.2.2 68 j = h.2.2 68 j := fun j => k1.v rfl
  have e69 : ∀ j, h1.2.2 69 j = h.2.2 69 j := fun j => k1.v rfl
  have e70 : ∀ j, h1.2.2 70 j = h.2.2 70 j := fun j => k1.v rfl
  have e3 : h2.2.2 26 3 = h1.2.2 26 3 := k2.v rfl
  rcases f1 with ⟨t1, p1, u1, u2, u3⟩ | ⟨n1, p1, u1, u2, u3⟩
  · rcases f2 with ⟨_, q1, v1, v2, v3⟩ | ⟨n2, _⟩
    · refine ⟨by rw [e3, c1, c2, p1, q1], o7, fun j hj => ?_, fun j hj => by rw [e31, e71]; exact x.2.2.2 j hj⟩
      rw [e28, e29, e30]
      rcases Decidable.em (j = n.toNat) with z | z
      · rw [z, u1.1, u2.1, u3.1, v1.1, v2.1, v3.1]; exact ⟨rfl, rfl, rfl⟩
      · rw [u1.2 j z, u2.2 j z, u3.2 j z, v1.2 j z, v2.2 j z, v3.2 j z, e68, e69, e70]; exact x.2.2.1 j hj
    · exact absurd t1 n2
  · rcases f2 with ⟨t2, _⟩ | ⟨_, q1, v1, v2, v3⟩
    · exact absurd t2 n1
    · exact ⟨by rw [e3, c1, c2, p1, q1], o7, fun j hj => by rw [e28, e29, e30, u1, u2, u3, v1, v2, v3, e68, e69, e70]; exact x.2.2.1 j hj, fun j hj => by rw [e31, e71]; exact x.2.2.2 j hj⟩
theorem Rl.ofv {h : JH} (x : Rl h) {a n : Int} (n4 : n ≤ 4) : OfV h 31 a n ↔ OfV h 71 a n := by
  unfold OfV
  refine and_congr_right (fun _ => and_congr_right (fun _ => and_congr_right (fun _ => ⟨fun z j j0 j1 => ?_, fun z j j0 j1 => ?_⟩)))
  · rw [← x.2.2.2 j.toNat (by omega)]; exact z j j0 j1
  · rw [x.2.2.2 j.toNat (by omega)]; exact z j j0 j1
theorem Rl.offer {h h1 h2 : JH} {a n r1 r2 : Int} (x : Rl h) (n4 : n ≤ 4) (k1 : Kp [(26, 8), (31, 0)] h h1) (k2 : Kp [(42, 52), (71, 0)] h1 h2) (c1 : h1.2.2 26 7 = r1) (c2 : h2.2.2 42 51 = r2) (f1 : OfE h h1 31 a n r1) (f2 : OfE h1 h2 71 a n r2) : Rl h2 := by
  have f : ∀ q j, inW [(26, 8), (31, 0)] q j = false → inW [(42, 52), (71, 0)] q j = false → h2.2.2 q j = h.2.2 q j := fun q j a b => (k2.v b).trans (k1.v a)
  have s3 : h2.2.2 26 3 = h2.2.2 42 47 := by rw [f 26 3 rfl rfl, f 42 47 rfl rfl]; exact x.1
  have ss : ∀ j : Nat, j < 3 → h2.2.2 28 j = h2.2.2 68 j ∧ h2.2.2 29 j = h2.2.2 69 j ∧ h2.2.2 30 j = h2.2.2 70 j := fun j hj => by
    rw [f 28 j rfl rfl, f 29 j rfl rfl, f 30 j rfl rfl, f 68 j rfl rfl, f 69 j rfl rfl, f 70 j rfl rfl]
    exact x.2.2.1 j hj
  have e31 : ∀ j, h2.2.2 31 j = h1.2.2 31 j := fun j => k2.v rfl
  have e71 : ∀ j, h1.2.2 71 j = h.2.2 71 j := fun j => k1.v rfl
  have e7 : h2.2.2 26 7 = h1.2.2 26 7 := k2.v rfl
  have ov : OfV h1 71 a n ↔ OfV h 71 a n := by
    unfold OfV
    simp only [e71]
  rcases f1 with ⟨t1, p1, u1⟩ | ⟨n1, p1, u1⟩
  · rcases f2 with ⟨_, q1, v1⟩ | ⟨n2, _⟩
    · refine ⟨s3, by rw [e7, c1, c2, p1, q1], ss, fun j hj => ?_⟩
      rw [e31]
      rcases Decidable.em (j = n.toNat) with z | z
      · rw [z, u1.1, v1.1]
      · rw [u1.2 j z, v1.2 j z, e71]; exact x.2.2.2 j hj
    · exact absurd (ov.mpr ((x.ofv n4).mp t1)) n2
  · rcases f2 with ⟨t2, _⟩ | ⟨_, q1, v1⟩
    · exact absurd ((x.ofv n4).mpr (ov.mp t2)) n1
    · exact ⟨s3, by rw [e7, c1, c2, p1, q1], ss, fun j hj => by rw [e31, u1, v1, e71]; exact x.2.2.2 j hj⟩
theorem Rl.clear {h h1 h2 : JH} (x : Rl h) (k1 : Kp [(26, 4), (26, 8)] h h1) (k2 : Kp [(42, 48), (42, 52)] h1 h2) (c1 : h1.2.2 26 3 = 0 ∧ h1.2.2 26 7 = 0) (c2 : h2.2.2 42 47 = 0 ∧ h2.2.2 42 51 = 0) : Rl h2 := by
  have f : ∀ q j, inW [(26, 4), (26, 8)] q j = false → inW [(42, 48), (42, 52)] q j = false → h2.2.2 q j = h.2.2 q j := fun q j a b => (k2.v b).trans (k1.v a)
  refine ⟨by rw [k2.v rfl, c1.1, c2.1], by rw [k2.v rfl, c1.2, c2.2], fun j hj => ?_, fun j hj => ?_⟩
  · rw [f 28 j rfl rfl, f 29 j rfl rfl, f 30 j rfl rfl, f 68 j rfl rfl, f 69 j rfl rfl, f 70 j rfl rfl]
    exact x.2.2.1 j hj
  · rw [f 31 j rfl rfl, f 71 j rfl rfl]
    exact x.2.2.2 j hj
def HoA (F : Nat → Int → Int) (n m d w r : Int) : Prop := (¬ (0 ≤ d ∧ d ≤ 99 ∧ 0 ≤ w ∧ w ≤ 2) ∧ r = -1) ∨ ((0 ≤ d ∧ d ≤ 99 ∧ 0 ≤ w ∧ w ≤ 2) ∧ HoS F n m d w r)
theorem HoA.eq {F : Nat → Int → Int} {n m d w r s : Int} (m0 : 0 ≤ m) (m4 : m ≤ 4) (a : HoA F n m d w r) (b : HoA F n m d w s) : r = s := by
  rcases a with ⟨a1, a2⟩ | ⟨a1, a2⟩
  · rcases b with ⟨b1, b2⟩ | ⟨b1, _⟩
    · exact a2.trans b2.symm
    · exact absurd b1 a1
  · rcases b with ⟨b1, _⟩ | ⟨_, b2⟩
    · exact absurd a1 b1
    · exact a2.eq m0 m4 b2
set_option maxHeartbeats 4000000 in
theorem t200 {G : GH} {h : JH} (g : Gd G h) {a1 : Int} (la1 : (-2147483648) ≤ a1) (ua1 : a1 ≤ 2147483647) {a2 : Int} (la2 : (-2147483648) ≤ a2) (ua2 : a2 ≤ 2147483647) {a3 : Int} (la3 : (-2147483648) ≤ a3) (ua3 : a3 ≤ 2147483647) {w0 : Int} (ew0 : h.2.2 26 3 = w0) (lw0 : 0 ≤ w0) (uw0 : w0 ≤ 3) : jOk 2 0 0 200 [(2, 0), (0, a1), (0, a2), (0, a3)] h (fun v h' => ∃ r : Int, v = some (0, r) ∧ Gd G h' ∧ Kp [(26, 4), (28, 0), (29, 0), (30, 0)] h h' ∧ (-3) ≤ r ∧ r ≤ 3 ∧ ∃ c, h'.2.2 26 3 = c ∧ SoE h h' 28 29 30 a1 a2 a3 w0 c) := by
  refine ⟨by decide, by rw [ml200]; exact Nat.le_of_ble_eq_true rfl, ?_⟩
  rw [ml200, pp200]
  show jEv _ none _ c200_0 0 0 _ (c200_0, [(2, 0), (0, a1), (0, a2), (0, a3)], [], h, 0, 0)
  have k0 := Kp.rf [(26, 4), (28, 0), (29, 0), (30, 0)] h
  refine ev_iload_n rfl ?_
  refine ev_iconst ?_
  refine ev_icmplt f200_31 (fun c75124 => ?_) (fun c75124 => ?_)
  · refine ev_iconst ?_
    exact ev_ret rfl (by decide) (by decide) ⟨_, rfl, g, k0, by omega, by omega, w0, (ew0), Or.inr ⟨by unfold SoV; omega, rfl, fun _ => rfl, fun _ => rfl, fun _ => rfl⟩⟩
  · refine ev_iload_n rfl ?_
    refine ev_bipush ?_
    refine ev_icmpgt f200_31 (fun c75125 => ?_) (fun c75125 => ?_)
    · refine ev_iconst ?_
      exact ev_ret rfl (by decide) (by decide) ⟨_, rfl, g, k0, by omega, by omega, w0, (ew0), Or.inr ⟨by unfold SoV; omega, rfl, fun _ => rfl, fun _ => rfl, fun _ => rfl⟩⟩
    · refine ev_iload_n rfl ?_
      refine ev_iflt f200_31 (fun c75126 => ?_) (fun c75126 => ?_)
      · refine ev_iconst ?_
        exact ev_ret rfl (by decide) (by decide) ⟨_, rfl, g, k0, by omega, by omega, w0, (ew0), Or.inr ⟨by unfold SoV; omega, rfl, fun _ => rfl, fun _ => rfl, fun _ => rfl⟩⟩
      · refine ev_iload_n rfl ?_
        refine ev_bipush ?_
        refine ev_icmpgt f200_31 (fun c75127 => ?_) (fun c75127 => ?_)
        · refine ev_iconst ?_
          exact ev_ret rfl (by decide) (by decide) ⟨_, rfl, g, k0, by omega, by omega, w0, (ew0), Or.inr ⟨by unfold SoV; omega, rfl, fun _ => rfl, fun _ => rfl, fun _ => rfl⟩⟩
        · refine ev_iload_n rfl ?_
          refine ev_iflt f200_31 (fun c75128 => ?_) (fun c75128 => ?_)
          · refine ev_iconst ?_
            exact ev_ret rfl (by decide) (by decide) ⟨_, rfl, g, k0, by omega, by omega, w0, (ew0), Or.inr ⟨by unfold SoV; omega, rfl, fun _ => rfl, fun _ => rfl, fun _ => rfl⟩⟩
          · refine ev_iload_n rfl ?_
            refine ev_bipush ?_
            refine ev_icmple f200_33 (fun c75129 => ?_) (fun c75129 => ?_)
            · refine ev_aload_n rfl ?_
              refine g_getp (r := 0) (c := 26) g ad0 (by decide) (by decide) rf0_11 ft11_11 ?_
              refine ev_iload_n rfl ?_
              refine ev_iload_n rfl ?_
              refine ev_iload_n rfl ?_
              refine ev_in (d := 0) (a := 0) (b := 0) (cd' := c119_0) (m := 4) (L0 := [(2, 26), (0, a1), (0, a2), (0, a3)]) (jcall_v (A := [(0, a3), (0, a2), (0, a1)]) (S' := []) (r := 26) rfl (g.lt ad26) (g.tg ad26) (Nat.le_of_ble_eq_true rfl)) (by decide) ml119 pp119 (Nat.le_of_ble_eq_true rfl) rfl (by decide) (by decide) ?_
              refine ev_aload_n rfl ?_
              refine g_getv (r := 26) (v := w0) g ad26 (by decide) ft9_3 (ew0) ?_
              refine ev_iconst ?_
              refine ev_icmplt f119_11 (fun c75130 => ?_) (fun c75130 => ?_)
              · refine ev_aload_n rfl ?_
                refine g_getp (r := 26) (c := 28) g ad26 (by decide) (by decide) rf26_4 ft9_4 ?_
                refine ev_aload_n rfl ?_
                refine g_getv (r := 26) (v := w0) g ad26 (by decide) ft9_3 (ew0) ?_
                refine ev_iload_n rfl ?_
                refine g_iast g ad28 rt28 (fun _ => rfl) (by omega) (by omega) (by omega) (by omega) (fun h75131 e75131 g75131 => ?_)
                have k75131 := k0.wr e75131 rfl
                refine ev_aload_n rfl ?_
                refine g_getp (r := 26) (c := 29) g75131 ad26 (by decide) (by decide) rf26_5 ft9_5 ?_
                refine ev_aload_n rfl ?_
                refine g_getv (r := 26) (v := w0) g75131 ad26 (by decide) ft9_3 (((jw_ne e75131 (Or.inl (by decide))).trans ew0)) ?_
                refine ev_iload_n rfl ?_
                refine g_iast g75131 ad29 rt29 (fun _ => rfl) (by omega) (by omega) (by omega) (by omega) (fun h75132 e75132 g75132 => ?_)
                have k75132 := k75131.wr e75132 rfl
                refine ev_aload_n rfl ?_
                refine g_getp (r := 26) (c := 30) g75132 ad26 (by decide) (by decide) rf26_6 ft9_6 ?_
                refine ev_aload_n rfl ?_
                refine g_getv (r := 26) (v := w0) g75132 ad26 (by decide) ft9_3 (((jw_ne e75132 (Or.inl (by decide))).trans ((jw_ne e75131 (Or.inl (by decide))).trans ew0))) ?_
                refine ev_iload_n rfl ?_
                refine g_iast g75132 ad30 rt30 (fun _ => rfl) (by omega) (by omega) (by omega) (by omega) (fun h75133 e75133 g75133 => ?_)
                have k75133 := k75132.wr e75133 rfl
                refine ev_aload_n rfl ?_
                refine ev_dup (by decide) ?_
                refine g_getv (r := 26) (v := w0) g75133 ad26 (by decide) ft9_3 (((jw_ne e75133 (Or.inl (by decide))).trans ((jw_ne e75132 (Or.inl (by decide))).trans ((jw_ne e75131 (Or.inl (by decide))).trans ew0)))) ?_
                refine ev_iconst ?_
                refine ev_iadd (r := (w0 + 1)) (by unfold w32; omega) ?_
                refine g_putf (r := 26) g75133 ad26 (by decide) ft9_3 (by decide) (fun e => absurd e nz9_3) rf26_3 (by decide) (by omega) (by omega) (fun h75134 e75134 g75134 => ?_)
                have k75134 := k75133.wr e75134 rfl
                refine ev_aload_n rfl ?_
                refine g_getv (r := 26) (v := (w0 + 1)) g75134 ad26 (by decide) ft9_3 ((jw_eq e75134)) ?_
                refine ev_ret rfl (by decide) (by decide) ?_
                show jEv _ _ _ _ _ _ _ (_, [(2, 0), (0, a1), (0, a2), (0, a3)], [(0, (w0 + 1))], _, _, _)
                exact ev_ret rfl (by decide) (by decide) ⟨_, rfl, g75134, k75134, by omega, by omega, w0 + 1, (((jw_eq e75134))).trans (by omega), Or.inl ⟨by unfold SoV; omega, rfl, (Up.kp (Up.kp (Up.kp (Up.mk2 (i := w0) (i' := w0) (v' := a1) e75131 (by omega) (by omega)) ((Kp.rf [(29, 0)] _).wr e75132 rfl) (fun _ => rfl)) ((Kp.rf [(30, 0)] _).wr e75133 rfl) (fun _ => rfl)) ((Kp.rf [(26, 0)] _).wr e75134 rfl) (fun _ => rfl)), (Up.kp (Up.kp (Up.pk ((Kp.rf [(28, 0)] _).wr e75131 rfl) (fun _ => rfl) (Up.mk2 (i := w0) (i' := w0) (v' := a2) e75132 (by omega) (by omega))) ((Kp.rf [(30, 0)] _).wr e75133 rfl) (fun _ => rfl)) ((Kp.rf [(26, 0)] _).wr e75134 rfl) (fun _ => rfl)), (Up.kp (Up.pk ((Kp.rf [(28, 0)] _).wr e75131 rfl) (fun _ => rfl) (Up.pk ((Kp.rf [(29, 0)] _).wr e75132 rfl) (fun _ => rfl) (Up.mk2 (i := w0) (i' := w0) (v' := a3) e75133 (by omega) (by omega)))) ((Kp.rf [(26, 0)] _).wr e75134 rfl) (fun _ => rfl))⟩⟩
              · refine ev_bipush ?_
                refine ev_ret rfl (by decide) (by decide) ?_
                show jEv _ _ _ _ _ _ _ (_, [(2, 0), (0, a1), (0, a2), (0, a3)], [(0, (-3))], _, _, _)
                exact ev_ret rfl (by decide) (by decide) ⟨_, rfl, g, k0, by omega, by omega, w0, (ew0), Or.inr ⟨by unfold SoV; omega, rfl, fun _ => rfl, fun _ => rfl, fun _ => rfl⟩⟩
            · refine ev_iconst ?_
              exact ev_ret rfl (by decide) (by decide) ⟨_, rfl, g, k0, by omega, by omega, w0, (ew0), Or.inr ⟨by unfold SoV; omega, rfl, fun _ => rfl, fun _ => rfl, fun _ => rfl⟩⟩
set_option maxHeartbeats 4000000 in
theorem t339 {G : GH} {h : JH} (g : Gd G h) {a1 : Int} (la1 : (-2147483648) ≤ a1) (ua1 : a1 ≤ 2147483647) {a2 : Int} (la2 : (-2147483648) ≤ a2) (ua2 : a2 ≤ 2147483647) {a3 : Int} (la3 : (-2147483648) ≤ a3) (ua3 : a3 ≤ 2147483647) {w0 : Int} (ew0 : h.2.2 42 47 = w0) (lw0 : 0 ≤ w0) (uw0 : w0 ≤ 3) : jOk 2 0 0 339 [(2, 42), (0, a1), (0, a2), (0, a3)] h (fun v h' => ∃ r : Int, v = some (0, r) ∧ Gd G h' ∧ Kp [(42, 48), (68, 0), (69, 0), (70, 0)] h h' ∧ (-3) ≤ r ∧ r ≤ 3 ∧ ∃ c, h'.2.2 42 47 = c ∧ SoE h h' 68 69 70 a1 a2 a3 w0 c) := by
  refine ⟨by decide, by rw [ml339]; exact Nat.le_of_ble_eq_true rfl, ?_⟩
  rw [ml339, pp339]
  show jEv _ none _ c339_0 0 0 _ (c339_0, [(2, 42), (0, a1), (0, a2), (0, a3)], [], h, 0, 0)
  have k0 := Kp.rf [(42, 48), (68, 0), (69, 0), (70, 0)] h
  refine ev_iload_n rfl ?_
  refine ev_iconst ?_
  refine ev_bipush ?_
  refine ev_in (d := 0) (a := 0) (b := 0) (cd' := c242_0) (m := 3) (L0 := [(0, a1), (0, 1), (0, 9)]) (jcall_s (A := [(0, 9), (0, 1), (0, a1)]) (S' := []) (by decide) rfl (Nat.le_of_ble_eq_true rfl)) (by decide) ml242 pp242 (Nat.le_of_ble_eq_true rfl) rfl (by decide) (by decide) ?_
  refine ev_iload_n rfl ?_
  refine ev_iload_n rfl ?_
  refine ev_icmplt f242_14 (fun c75175 => ?_) (fun c75175 => ?_)
  · refine ev_iconst ?_
    refine ev_ret rfl (by decide) (by decide) ?_
    show jEv _ _ _ _ _ _ _ (_, [(2, 42), (0, a1), (0, a2), (0, a3)], [(0, 0)], _, _, _)
    refine ev_ifeq f339_30 (fun c75176 => ?_) (fun c75176 => absurd c75176 (by omega))
    refine ev_iconst ?_
    exact ev_ret rfl (by decide) (by decide) ⟨_, rfl, g, k0, by omega, by omega, w0, (ew0), Or.inr ⟨by unfold SoV; omega, rfl, fun _ => rfl, fun _ => rfl, fun _ => rfl⟩⟩
  · refine ev_iload_n rfl ?_
    refine ev_iload_n rfl ?_
    refine ev_icmpgt f242_14 (fun c75177 => ?_) (fun c75177 => ?_)
    · refine ev_iconst ?_
      refine ev_ret rfl (by decide) (by decide) ?_
      show jEv _ _ _ _ _ _ _ (_, [(2, 42), (0, a1), (0, a2), (0, a3)], [(0, 0)], _, _, _)
      refine ev_ifeq f339_30 (fun c75178 => ?_) (fun c75178 => absurd c75178 (by omega))
      refine ev_iconst ?_
      exact ev_ret rfl (by decide) (by decide) ⟨_, rfl, g, k0, by omega, by omega, w0, (ew0), Or.inr ⟨by unfold SoV; omega, rfl, fun _ => rfl, fun _ => rfl, fun _ => rfl⟩⟩
    · refine ev_iconst ?_
      refine ev_goto f242_15 ?_
      refine ev_ret rfl (by decide) (by decide) ?_
      show jEv _ _ _ _ _ _ _ (_, [(2, 42), (0, a1), (0, a2), (0, a3)], [(0, 1)], _, _, _)
      refine ev_ifeq f339_30 (fun c75179 => absurd c75179 (by omega)) (fun c75179 => ?_)
      refine ev_iload_n rfl ?_
      refine ev_iconst ?_
      refine ev_bipush ?_
      refine ev_in (d := 0) (a := 0) (b := 0) (cd' := c242_0) (m := 3) (L0 := [(0, a2), (0, 0), (0, 99)]) (jcall_s (A := [(0, 99), (0, 0), (0, a2)]) (S' := []) (by decide) rfl (Nat.le_of_ble_eq_true rfl)) (by decide) ml242 pp242 (Nat.le_of_ble_eq_true rfl) rfl (by decide) (by decide) ?_
      refine ev_iload_n rfl ?_
      refine ev_iload_n rfl ?_
      refine ev_icmplt f242_14 (fun c75180 => ?_) (fun c75180 => ?_)
      · refine ev_iconst ?_
        refine ev_ret rfl (by decide) (by decide) ?_
        show jEv _ _ _ _ _ _ _ (_, [(2, 42), (0, a1), (0, a2), (0, a3)], [(0, 0)], _, _, _)
        refine ev_ifeq f339_30 (fun c75181 => ?_) (fun c75181 => absurd c75181 (by omega))
        refine ev_iconst ?_
        exact ev_ret rfl (by decide) (by decide) ⟨_, rfl, g, k0, by omega, by omega, w0, (ew0), Or.inr ⟨by unfold SoV; omega, rfl, fun _ => rfl, fun _ => rfl, fun _ => rfl⟩⟩
      · refine ev_iload_n rfl ?_
        refine ev_iload_n rfl ?_
        refine ev_icmpgt f242_14 (fun c75182 => ?_) (fun c75182 => ?_)
        · refine ev_iconst ?_
          refine ev_ret rfl (by decide) (by decide) ?_
          show jEv _ _ _ _ _ _ _ (_, [(2, 42), (0, a1), (0, a2), (0, a3)], [(0, 0)], _, _, _)
          refine ev_ifeq f339_30 (fun c75183 => ?_) (fun c75183 => absurd c75183 (by omega))
          refine ev_iconst ?_
          exact ev_ret rfl (by decide) (by decide) ⟨_, rfl, g, k0, by omega, by omega, w0, (ew0), Or.inr ⟨by unfold SoV; omega, rfl, fun _ => rfl, fun _ => rfl, fun _ => rfl⟩⟩
        · refine ev_iconst ?_
          refine ev_goto f242_15 ?_
          refine ev_ret rfl (by decide) (by decide) ?_
          show jEv _ _ _ _ _ _ _ (_, [(2, 42), (0, a1), (0, a2), (0, a3)], [(0, 1)], _, _, _)
          refine ev_ifeq f339_30 (fun c75184 => absurd c75184 (by omega)) (fun c75184 => ?_)
          refine ev_iload_n rfl ?_
          refine ev_iconst ?_
          refine ev_bipush ?_
          refine ev_in (d := 0) (a := 0) (b := 0) (cd' := c242_0) (m := 3) (L0 := [(0, a3), (0, 0), (0, 99)]) (jcall_s (A := [(0, 99), (0, 0), (0, a3)]) (S' := []) (by decide) rfl (Nat.le_of_ble_eq_true rfl)) (by decide) ml242 pp242 (Nat.le_of_ble_eq_true rfl) rfl (by decide) (by decide) ?_
          refine ev_iload_n rfl ?_
          refine ev_iload_n rfl ?_
          refine ev_icmplt f242_14 (fun c75185 => ?_) (fun c75185 => ?_)
          · refine ev_iconst ?_
            refine ev_ret rfl (by decide) (by decide) ?_
            show jEv _ _ _ _ _ _ _ (_, [(2, 42), (0, a1), (0, a2), (0, a3)], [(0, 0)], _, _, _)
            refine ev_ifne f339_32 (fun c75186 => absurd c75186 (by omega)) (fun c75186 => ?_)
            refine ev_iconst ?_
            exact ev_ret rfl (by decide) (by decide) ⟨_, rfl, g, k0, by omega, by omega, w0, (ew0), Or.inr ⟨by unfold SoV; omega, rfl, fun _ => rfl, fun _ => rfl, fun _ => rfl⟩⟩
          · refine ev_iload_n rfl ?_
            refine ev_iload_n rfl ?_
            refine ev_icmpgt f242_14 (fun c75187 => ?_) (fun c75187 => ?_)
            · refine ev_iconst ?_
              refine ev_ret rfl (by decide) (by decide) ?_
              show jEv _ _ _ _ _ _ _ (_, [(2, 42), (0, a1), (0, a2), (0, a3)], [(0, 0)], _, _, _)
              refine ev_ifne f339_32 (fun c75188 => absurd c75188 (by omega)) (fun c75188 => ?_)
              refine ev_iconst ?_
              exact ev_ret rfl (by decide) (by decide) ⟨_, rfl, g, k0, by omega, by omega, w0, (ew0), Or.inr ⟨by unfold SoV; omega, rfl, fun _ => rfl, fun _ => rfl, fun _ => rfl⟩⟩
            · refine ev_iconst ?_
              refine ev_goto f242_15 ?_
              refine ev_ret rfl (by decide) (by decide) ?_
              show jEv _ _ _ _ _ _ _ (_, [(2, 42), (0, a1), (0, a2), (0, a3)], [(0, 1)], _, _, _)
              refine ev_ifne f339_32 (fun c75189 => ?_) (fun c75189 => absurd c75189 (by omega))
              refine ev_aload_n rfl ?_
              refine g_getv (r := 42) (v := w0) g ad42 (by decide) ft12_47 (ew0) ?_
              refine ev_iconst ?_
              refine ev_icmpne f339_43 (fun c75190 => ?_) (fun c75190 => ?_)
              · refine ev_aload_n rfl ?_
                refine g_getp (r := 42) (c := 68) g ad42 (by decide) (by decide) rf42_48 ft12_48 ?_
                refine ev_aload_n rfl ?_
                refine g_getv (r := 42) (v := w0) g ad42 (by decide) ft12_47 (ew0) ?_
                refine ev_iload_n rfl ?_
                refine g_iast g ad68 rt68 (fun _ => rfl) (by omega) (by omega) (by omega) (by omega) (fun h75191 e75191 g75191 => ?_)
                have k75191 := k0.wr e75191 rfl
                refine ev_aload_n rfl ?_
                refine g_getp (r := 42) (c := 69) g75191 ad42 (by decide) (by decide) rf42_49 ft12_49 ?_
                refine ev_aload_n rfl ?_
                refine g_getv (r := 42) (v := w0) g75191 ad42 (by decide) ft12_47 (((jw_ne e75191 (Or.inl (by decide))).trans ew0)) ?_
                refine ev_iload_n rfl ?_
                refine g_iast g75191 ad69 rt69 (fun _ => rfl) (by omega) (by omega) (by omega) (by omega) (fun h75192 e75192 g75192 => ?_)
                have k75192 := k75191.wr e75192 rfl
                refine ev_aload_n rfl ?_
                refine g_getp (r := 42) (c := 70) g75192 ad42 (by decide) (by decide) rf42_50 ft12_50 ?_
                refine ev_aload_n rfl ?_
                refine g_getv (r := 42) (v := w0) g75192 ad42 (by decide) ft12_47 (((jw_ne e75192 (Or.inl (by decide))).trans ((jw_ne e75191 (Or.inl (by decide))).trans ew0))) ?_
                refine ev_iload_n rfl ?_
                refine g_iast g75192 ad70 rt70 (fun _ => rfl) (by omega) (by omega) (by omega) (by omega) (fun h75193 e75193 g75193 => ?_)
                have k75193 := k75192.wr e75193 rfl
                refine ev_aload_n rfl ?_
                refine ev_dup (by decide) ?_
                refine g_getv (r := 42) (v := w0) g75193 ad42 (by decide) ft12_47 (((jw_ne e75193 (Or.inl (by decide))).trans ((jw_ne e75192 (Or.inl (by decide))).trans ((jw_ne e75191 (Or.inl (by decide))).trans ew0)))) ?_
                refine ev_iconst ?_
                refine ev_iadd (r := (w0 + 1)) (by unfold w32; omega) ?_
                refine g_putf (r := 42) g75193 ad42 (by decide) ft12_47 (by decide) (fun e => absurd e nz12_47) rf42_47 (by decide) (by omega) (by omega) (fun h75194 e75194 g75194 => ?_)
                have k75194 := k75193.wr e75194 rfl
                refine ev_aload_n rfl ?_
                refine g_getv (r := 42) (v := (w0 + 1)) g75194 ad42 (by decide) ft12_47 ((jw_eq e75194)) ?_
                exact ev_ret rfl (by decide) (by decide) ⟨_, rfl, g75194, k75194, by omega, by omega, w0 + 1, (((jw_eq e75194))).trans (by omega), Or.inl ⟨by unfold SoV; omega, rfl, (Up.kp (Up.kp (Up.kp (Up.mk2 (i := w0) (i' := w0) (v' := a1) e75191 (by omega) (by omega)) ((Kp.rf [(69, 0)] _).wr e75192 rfl) (fun _ => rfl)) ((Kp.rf [(70, 0)] _).wr e75193 rfl) (fun _ => rfl)) ((Kp.rf [(42, 0)] _).wr e75194 rfl) (fun _ => rfl)), (Up.kp (Up.kp (Up.pk ((Kp.rf [(68, 0)] _).wr e75191 rfl) (fun _ => rfl) (Up.mk2 (i := w0) (i' := w0) (v' := a2) e75192 (by omega) (by omega))) ((Kp.rf [(70, 0)] _).wr e75193 rfl) (fun _ => rfl)) ((Kp.rf [(42, 0)] _).wr e75194 rfl) (fun _ => rfl)), (Up.kp (Up.pk ((Kp.rf [(68, 0)] _).wr e75191 rfl) (fun _ => rfl) (Up.pk ((Kp.rf [(69, 0)] _).wr e75192 rfl) (fun _ => rfl) (Up.mk2 (i := w0) (i' := w0) (v' := a3) e75193 (by omega) (by omega)))) ((Kp.rf [(42, 0)] _).wr e75194 rfl) (fun _ => rfl))⟩⟩
              · refine ev_bipush ?_
                exact ev_ret rfl (by decide) (by decide) ⟨_, rfl, g, k0, by omega, by omega, w0, (ew0), Or.inr ⟨by unfold SoV; omega, rfl, fun _ => rfl, fun _ => rfl, fun _ => rfl⟩⟩
set_option maxHeartbeats 4000000 in
theorem t120_l {G : GH} {h : JH} {a1 : Int} (la1 : 0 ≤ a1) (ua1 : a1 ≤ 99) {w0 : Int} (ew0 : h.2.2 26 7 = w0) (lw0 : 0 ≤ w0) (uw0 : w0 ≤ 4) : ∀ N : Nat, (∀ (h1 : JH) (x2 y0 : Int), Gd G h1 → Kp [(26, 8), (31, 0)] h h1 → 0 ≤ a1 → a1 ≤ 99 → 0 ≤ x2 → x2 ≤ 4 → ((-w0) + y0) ≤ 0 → (w0 + (-y0)) ≤ 0 → ((-w0) + x2) ≤ 0 → a1 ≤ 99 → ((-a1)) ≤ 0 → h1.2.2 26 7 = y0 → 0 ≤ y0 → y0 ≤ 4 → (∀ j : Int, 0 ≤ j → j < x2 → h.2.2 31 j.toNat ≠ a1) → Sm h h1 31 → ((-x2) + 4) < N → jEv (jOk 0) none (fun _ => 0) c120_0 0 0 (fun v h' => ∃ r : Int, v = some (0, r) ∧ Gd G h' ∧ Kp [(26, 8), (31, 0)] h h' ∧ (-3) ≤ r ∧ r ≤ 4 ∧ ∃ c, h'.2.2 26 7 = c ∧ OfE h h' 31 a1 w0 c) (c120_2, [(2, 26), (0, a1), (0, x2)], [], h1, 0, 0)) := by
  intro N
  induction N with
  | zero => exact fun h1 x2 y0 g1 k1 b0 b1 b2 b3 b4 b5 b6 b7 b8 b9 b10 b11 b12 b13 hm => absurd hm (by omega)
  | succ N ih =>
    show _
    intro h1 x2 y0 g1 k1 b0 b1 b2 b3 b4 b5 b6 b7 b8 ey0 ly0 uy0 H0 H1 hm
    refine ev_iload_n rfl ?_
    refine ev_aload_n rfl ?_
    refine g_getv (r := 26) (v := y0) g1 ad26 (by decide) ft9_7 (ey0) ?_
    refine ev_icmpge f120_28 (fun c75231 => ?_) (fun c75231 => ?_)
    · refine ev_aload_n rfl ?_
      refine g_getv (r := 26) (v := y0) g1 ad26 (by decide) ft9_7 (ey0) ?_
      refine ev_iconst ?_
      refine ev_icmplt f120_39 (fun c75232 => ?_) (fun c75232 => ?_)
      · refine ev_aload_n rfl ?_
        refine g_getp (r := 26) (c := 31) g1 ad26 (by decide) (by decide) rf26_8 ft9_8 ?_
        refine ev_aload_n rfl ?_
        refine g_getv (r := 26) (v := y0) g1 ad26 (by decide) ft9_7 (ey0) ?_
        refine ev_iload_n rfl ?_
        refine g_iast g1 ad31 rt31 (fun _ => rfl) (by omega) (by omega) (by omega) (by omega) (fun h75233 e75233 g75233 => ?_)
        have k75233 := k1.wr e75233 rfl
        refine ev_aload_n rfl ?_
        refine ev_dup (by decide) ?_
        refine g_getv (r := 26) (v := y0) g75233 ad26 (by decide) ft9_7 (((jw_ne e75233 (Or.inl (by decide))).trans ey0)) ?_
        refine ev_iconst ?_
        refine ev_iadd (r := (y0 + 1)) (by unfold w32; omega) ?_
        refine g_putf (r := 26) g75233 ad26 (by decide) ft9_7 (by decide) (fun e => absurd e nz9_7) rf26_7 (by decide) (by omega) (by omega) (fun h75234 e75234 g75234 => ?_)
        have k75234 := k75233.wr e75234 rfl
        refine ev_aload_n rfl ?_
        refine g_getv (r := 26) (v := (y0 + 1)) g75234 ad26 (by decide) ft9_7 ((jw_eq e75234)) ?_
        exact ev_ret rfl (by decide) (by decide) ⟨_, rfl, g75234, k75234, by omega, by omega, w0 + 1, (((jw_eq e75234))).trans (by omega), Or.inl ⟨⟨by omega, by omega, by omega, fun j j0 j1 => H0 j j0 (by omega)⟩, rfl, (Up.kp (Up.mk3 H1 (i := y0) (i' := w0) (v' := a1) e75233 (by omega) (by omega)) ((Kp.rf [(26, 0)] _).wr e75234 rfl) (fun _ => rfl))⟩⟩
      · refine ev_bipush ?_
        exact ev_ret rfl (by decide) (by decide) ⟨_, rfl, g1, k1, by omega, by omega, w0, ((ey0)).trans (by omega), Or.inr ⟨fun z => absurd z.2.2.1 (by omega), rfl, H1⟩⟩
    · refine ev_aload_n rfl ?_
      refine g_getp (r := 26) (c := 31) g1 ad26 (by decide) (by decide) rf26_8 ft9_8 ?_
      refine ev_iload_n rfl ?_
      refine g_iald g1 ad31 rt31 (by omega) (by omega) (fun v75235 ev75235 lv75235 uv75235 => ?_)
      refine ev_iload_n rfl ?_
      refine ev_icmpne f120_22 (fun c75236 => ?_) (fun c75236 => ?_)
      · refine ev_iinc (w := (x2 + 1)) (L' := [(2, 26), (0, a1), (0, (x2 + 1))]) rfl (by unfold w32; omega) rfl ?_
        refine ev_goto f120_2 ?_
        exact ih _ _ _ g1 k1 (by omega) (by omega) (by omega) (by omega) (by omega) (by omega) (by omega) (by omega) (by omega) (ey0) (by omega) (by omega) (of_add H0 (by omega) (by rw [← H1, (ev75235)]; omega)) H1 (by omega)
      · refine ev_iconst ?_
        exact ev_ret rfl (by decide) (by decide) ⟨_, rfl, g1, k1, by omega, by omega, w0, ((ey0)).trans (by omega), Or.inr ⟨fun z => absurd (z.2.2.2 x2 (by omega) (by omega)) (by rw [← H1, (ev75235)]; omega), rfl, H1⟩⟩
set_option maxHeartbeats 4000000 in
theorem t120 {G : GH} {h : JH} (g : Gd G h) {a1 : Int} (la1 : 0 ≤ a1) (ua1 : a1 ≤ 99) {w0 : Int} (ew0 : h.2.2 26 7 = w0) (lw0 : 0 ≤ w0) (uw0 : w0 ≤ 4) : jOk 1 0 0 120 [(2, 26), (0, a1)] h (fun v h' => ∃ r : Int, v = some (0, r) ∧ Gd G h' ∧ Kp [(26, 8), (31, 0)] h h' ∧ (-3) ≤ r ∧ r ≤ 4 ∧ ∃ c, h'.2.2 26 7 = c ∧ OfE h h' 31 a1 w0 c) := by
  refine ⟨by decide, by rw [ml120]; exact Nat.le_of_ble_eq_true rfl, ?_⟩
  rw [ml120, pp120]
  show jEv _ none _ c120_0 0 0 _ (c120_0, [(2, 26), (0, a1), (9, 0)], [], h, 0, 0)
  have k0 := Kp.rf [(26, 8), (31, 0)] h
  refine ev_iconst ?_
  refine ev_istore_n (L' := [(2, 26), (0, a1), (0, 0)]) (Nat.le_of_ble_eq_true rfl) rfl ?_
  exact (t120_l la1 ua1 ew0 lw0 uw0 10) _ _ _ g k0 (by omega) (by omega) (by omega) (by omega) (by omega) (by omega) (by omega) (by omega) (by omega) (ew0) (by omega) (by omega) (fun j j0 j1 => by omega) (fun _ => rfl) (by omega)
set_option maxHeartbeats 4000000 in
theorem t201 {G : GH} {h : JH} (g : Gd G h) {a1 : Int} (la1 : (-2147483648) ≤ a1) (ua1 : a1 ≤ 2147483647) {w0 : Int} (ew0 : h.2.2 26 7 = w0) (lw0 : 0 ≤ w0) (uw0 : w0 ≤ 4) : jOk 2 0 0 201 [(2, 0), (0, a1)] h (fun v h' => ∃ r : Int, v = some (0, r) ∧ Gd G h' ∧ Kp [(26, 8), (31, 0)] h h' ∧ (-3) ≤ r ∧ r ≤ 4 ∧ ∃ c, h'.2.2 26 7 = c ∧ OfE h h' 31 a1 w0 c) := by
  refine ⟨by decide, by rw [ml201]; exact Nat.le_of_ble_eq_true rfl, ?_⟩
  rw [ml201, pp201]
  show jEv _ none _ c201_0 0 0 _ (c201_0, [(2, 0), (0, a1)], [], h, 0, 0)
  have k0 := Kp.rf [(26, 8), (31, 0)] h
  refine ev_iload_n rfl ?_
  refine ev_iflt f201_10 (fun c75245 => ?_) (fun c75245 => ?_)
  · refine ev_iconst ?_
    refine ev_goto f201_22 ?_
    exact ev_ret rfl (by decide) (by decide) ⟨_, rfl, g, k0, by omega, by omega, w0, ew0, Or.inr ⟨by unfold OfV; omega, rfl, fun _ => rfl⟩⟩
  · refine ev_iload_n rfl ?_
    refine ev_bipush ?_
    refine ev_icmple f201_14 (fun c75246 => ?_) (fun c75246 => ?_)
    · refine ev_aload_n rfl ?_
      refine g_getp (r := 0) (c := 26) g ad0 (by decide) (by decide) rf0_11 ft11_11 ?_
      refine ev_iload_n rfl ?_
      refine ev_call (jcall_v (A := [(0, a1)]) (S' := []) (r := 26) rfl (g.lt ad26) (g.tg ad26) (Nat.le_of_ble_eq_true rfl)) (jOk_le (by decide) (t120 g (by omega) (by omega) (ew0) (by omega) (by omega))) (by decide) (by decide) (fun w75247 h75247 q75247 => ?_)
      obtain ⟨v75248, rfl, g75247, kk75247, lv75248, uv75248, X75247⟩ := q75247
      have k75247 := k0.tr kk75247 (by decide)
      show jEv _ _ _ _ _ _ _ (_, [(2, 0), (0, a1)], [(0, v75248)], _, _, _)
      exact ev_ret rfl (by decide) (by decide) ⟨_, rfl, g75247, k75247, by omega, by omega, X75247⟩
    · refine ev_iconst ?_
      refine ev_goto f201_22 ?_
      exact ev_ret rfl (by decide) (by decide) ⟨_, rfl, g, k0, by omega, by omega, w0, ew0, Or.inr ⟨by unfold OfV; omega, rfl, fun _ => rfl⟩⟩
set_option maxHeartbeats 4000000 in
theorem t340_l {G : GH} {h : JH} {a1 : Int} (la1 : (-2147483648) ≤ a1) (ua1 : a1 ≤ 2147483647) {w0 : Int} (ew0 : h.2.2 42 51 = w0) (lw0 : 0 ≤ w0) (uw0 : w0 ≤ 4) : ∀ N : Nat, (∀ (h1 : JH) (x2 y0 : Int), Gd G h1 → Kp [(42, 52), (71, 0)] h h1 → 0 ≤ a1 → a1 ≤ 99 → 0 ≤ x2 → x2 ≤ 4 → ((-w0) + y0) ≤ 0 → (w0 + (-y0)) ≤ 0 → ((-w0) + x2) ≤ 0 → a1 ≤ 99 → ((-a1)) ≤ 0 → h1.2.2 42 51 = y0 → 0 ≤ y0 → y0 ≤ 4 → (∀ j : Int, 0 ≤ j → j < x2 → h.2.2 71 j.toNat ≠ a1) → Sm h h1 71 → ((-x2) + 4) < N → jEv (jOk 1) none (fun _ => 0) c340_0 0 0 (fun v h' => ∃ r : Int, v = some (0, r) ∧ Gd G h' ∧ Kp [(42, 52), (71, 0)] h h' ∧ (-3) ≤ r ∧ r ≤ 4 ∧ ∃ c, h'.2.2 42 51 = c ∧ OfE h h' 71 a1 w0 c) (c340_14, [(2, 42), (0, a1), (0, x2)], [], h1, 0, 0)) := by
  intro N
  induction N with
  | zero => exact fun h1 x2 y0 g1 k1 b0 b1 b2 b3 b4 b5 b6 b7 b8 b9 b10 b11 b12 b13 hm => absurd hm (by omega)
  | succ N ih =>
    show _
    intro h1 x2 y0 g1 k1 b0 b1 b2 b3 b4 b5 b6 b7 b8 ey0 ly0 uy0 H0 H1 hm
    refine ev_iload_n rfl ?_
    refine ev_aload_n rfl ?_
    refine g_getv (r := 42) (v := y0) g1 ad42 (by decide) ft12_51 (ey0) ?_
    refine ev_icmpge f340_40 (fun c75295 => ?_) (fun c75295 => ?_)
    · refine ev_aload_n rfl ?_
      refine g_getv (r := 42) (v := y0) g1 ad42 (by decide) ft12_51 (ey0) ?_
      refine ev_iconst ?_
      refine ev_icmpne f340_51 (fun c75296 => ?_) (fun c75296 => ?_)
      · refine ev_aload_n rfl ?_
        refine g_getp (r := 42) (c := 71) g1 ad42 (by decide) (by decide) rf42_52 ft12_52 ?_
        refine ev_aload_n rfl ?_
        refine g_getv (r := 42) (v := y0) g1 ad42 (by decide) ft12_51 (ey0) ?_
        refine ev_iload_n rfl ?_
        refine g_iast g1 ad71 rt71 (fun _ => rfl) (by omega) (by omega) (by omega) (by omega) (fun h75297 e75297 g75297 => ?_)
        have k75297 := k1.wr e75297 rfl
        refine ev_aload_n rfl ?_
        refine ev_dup (by decide) ?_
        refine g_getv (r := 42) (v := y0) g75297 ad42 (by decide) ft12_51 (((jw_ne e75297 (Or.inl (by decide))).trans ey0)) ?_
        refine ev_iconst ?_
        refine ev_iadd (r := (y0 + 1)) (by unfold w32; omega) ?_
        refine g_putf (r := 42) g75297 ad42 (by decide) ft12_51 (by decide) (fun e => absurd e nz12_51) rf42_51 (by decide) (by omega) (by omega) (fun h75298 e75298 g75298 => ?_)
        have k75298 := k75297.wr e75298 rfl
        refine ev_aload_n rfl ?_
        refine g_getv (r := 42) (v := (y0 + 1)) g75298 ad42 (by decide) ft12_51 ((jw_eq e75298)) ?_
        exact ev_ret rfl (by decide) (by decide) ⟨_, rfl, g75298, k75298, by omega, by omega, w0 + 1, (((jw_eq e75298))).trans (by omega), Or.inl ⟨⟨by omega, by omega, by omega, fun j j0 j1 => H0 j j0 (by omega)⟩, rfl, (Up.kp (Up.mk3 H1 (i := y0) (i' := w0) (v' := a1) e75297 (by omega) (by omega)) ((Kp.rf [(42, 0)] _).wr e75298 rfl) (fun _ => rfl))⟩⟩
      · refine ev_bipush ?_
        exact ev_ret rfl (by decide) (by decide) ⟨_, rfl, g1, k1, by omega, by omega, w0, ((ey0)).trans (by omega), Or.inr ⟨fun z => absurd z.2.2.1 (by omega), rfl, H1⟩⟩
    · refine ev_aload_n rfl ?_
      refine g_getp (r := 42) (c := 71) g1 ad42 (by decide) (by decide) rf42_52 ft12_52 ?_
      refine ev_iload_n rfl ?_
      refine g_iald g1 ad71 rt71 (by omega) (by omega) (fun v75299 ev75299 lv75299 uv75299 => ?_)
      refine ev_iload_n rfl ?_
      refine ev_icmpne f340_34 (fun c75300 => ?_) (fun c75300 => ?_)
      · refine ev_iinc (w := (x2 + 1)) (L' := [(2, 42), (0, a1), (0, (x2 + 1))]) rfl (by unfold w32; omega) rfl ?_
        refine ev_goto f340_14 ?_
        exact ih _ _ _ g1 k1 (by omega) (by omega) (by omega) (by omega) (by omega) (by omega) (by omega) (by omega) (by omega) (ey0) (by omega) (by omega) (of_add H0 (by omega) (by rw [← H1, (ev75299)]; omega)) H1 (by omega)
      · refine ev_iconst ?_
        exact ev_ret rfl (by decide) (by decide) ⟨_, rfl, g1, k1, by omega, by omega, w0, ((ey0)).trans (by omega), Or.inr ⟨fun z => absurd (z.2.2.2 x2 (by omega) (by omega)) (by rw [← H1, (ev75299)]; omega), rfl, H1⟩⟩
set_option maxHeartbeats 4000000 in
theorem t340 {G : GH} {h : JH} (g : Gd G h) {a1 : Int} (la1 : (-2147483648) ≤ a1) (ua1 : a1 ≤ 2147483647) {w0 : Int} (ew0 : h.2.2 42 51 = w0) (lw0 : 0 ≤ w0) (uw0 : w0 ≤ 4) : jOk 2 0 0 340 [(2, 42), (0, a1)] h (fun v h' => ∃ r : Int, v = some (0, r) ∧ Gd G h' ∧ Kp [(42, 52), (71, 0)] h h' ∧ (-3) ≤ r ∧ r ≤ 4 ∧ ∃ c, h'.2.2 42 51 = c ∧ OfE h h' 71 a1 w0 c) := by
  refine ⟨by decide, by rw [ml340]; exact Nat.le_of_ble_eq_true rfl, ?_⟩
  rw [ml340, pp340]
  show jEv _ none _ c340_0 0 0 _ (c340_0, [(2, 42), (0, a1), (9, 0)], [], h, 0, 0)
  have k0 := Kp.rf [(42, 52), (71, 0)] h
  refine ev_iload_n rfl ?_
  refine ev_iconst ?_
  refine ev_bipush ?_
  refine ev_in (d := 0) (a := 0) (b := 0) (cd' := c242_0) (m := 3) (L0 := [(0, a1), (0, 0), (0, 99)]) (jcall_s (A := [(0, 99), (0, 0), (0, a1)]) (S' := []) (by decide) rfl (Nat.le_of_ble_eq_true rfl)) (by decide) ml242 pp242 (Nat.le_of_ble_eq_true rfl) rfl (by decide) (by decide) ?_
  refine ev_iload_n rfl ?_
  refine ev_iload_n rfl ?_
  refine ev_icmplt f242_14 (fun c75301 => ?_) (fun c75301 => ?_)
  · refine ev_iconst ?_
    refine ev_ret rfl (by decide) (by decide) ?_
    show jEv _ _ _ _ _ _ _ (_, [(2, 42), (0, a1), (9, 0)], [(0, 0)], _, _, _)
    refine ev_ifne f340_12 (fun c75302 => absurd c75302 (by omega)) (fun c75302 => ?_)
    refine ev_iconst ?_
    exact ev_ret rfl (by decide) (by decide) ⟨_, rfl, g, k0, by omega, by omega, w0, (ew0), Or.inr ⟨by unfold OfV; omega, rfl, fun _ => rfl⟩⟩
  · refine ev_iload_n rfl ?_
    refine ev_iload_n rfl ?_
    refine ev_icmpgt f242_14 (fun c75303 => ?_) (fun c75303 => ?_)
    · refine ev_iconst ?_
      refine ev_ret rfl (by decide) (by decide) ?_
      show jEv _ _ _ _ _ _ _ (_, [(2, 42), (0, a1), (9, 0)], [(0, 0)], _, _, _)
      refine ev_ifne f340_12 (fun c75304 => absurd c75304 (by omega)) (fun c75304 => ?_)
      refine ev_iconst ?_
      exact ev_ret rfl (by decide) (by decide) ⟨_, rfl, g, k0, by omega, by omega, w0, (ew0), Or.inr ⟨by unfold OfV; omega, rfl, fun _ => rfl⟩⟩
    · refine ev_iconst ?_
      refine ev_goto f242_15 ?_
      refine ev_ret rfl (by decide) (by decide) ?_
      show jEv _ _ _ _ _ _ _ (_, [(2, 42), (0, a1), (9, 0)], [(0, 1)], _, _, _)
      refine ev_ifne f340_12 (fun c75305 => ?_) (fun c75305 => absurd c75305 (by omega))
      refine ev_iconst ?_
      refine ev_istore_n (L' := [(2, 42), (0, a1), (0, 0)]) (Nat.le_of_ble_eq_true rfl) rfl ?_
      exact (t340_l la1 ua1 ew0 lw0 uw0 10) _ _ _ g k0 (by omega) (by omega) (by omega) (by omega) (by omega) (by omega) (by omega) (by omega) (by omega) (ew0) (by omega) (by omega) (fun j j0 j1 => by omega) (fun _ => rfl) (by omega)
set_option maxHeartbeats 4000000 in
theorem t203 {G : GH} {h : JH} (g : Gd G h)  : jOk 2 0 0 203 [(2, 0)] h (fun v h' => ∃ r : Int, v = some (0, r) ∧ Gd G h' ∧ Kp [(26, 4), (26, 8)] h h' ∧ 0 ≤ r ∧ r ≤ 3 ∧ h'.2.2 26 3 = 0 ∧ h'.2.2 26 7 = 0) := by
  refine ⟨by decide, by rw [ml203]; exact Nat.le_of_ble_eq_true rfl, ?_⟩
  rw [ml203, pp203]
  show jEv _ none _ c203_0 0 0 _ (c203_0, [(2, 0)], [], h, 0, 0)
  have k0 := Kp.rf [(26, 4), (26, 8)] h
  refine ev_aload_n rfl ?_
  refine g_getp (r := 0) (c := 26) g ad0 (by decide) (by decide) rf0_11 ft11_11 ?_
  refine ev_in (d := 0) (a := 0) (b := 0) (cd' := c121_0) (m := 2) (L0 := [(2, 26), (9, 0)]) (jcall_v (A := []) (S' := []) (r := 26) rfl (g.lt ad26) (g.tg ad26) (Nat.le_of_ble_eq_true rfl)) (by decide) ml121 pp121 (Nat.le_of_ble_eq_true rfl) rfl (by decide) (by decide) ?_
  refine ev_aload_n rfl ?_
  obtain ⟨v75312, ev75312, lv75312, uv75312⟩ := g.rd ad26 (show 3 < 15 by decide) rf26_3
  refine g_getv (r := 26) (v := v75312) g ad26 (by decide) ft9_3 ev75312 ?_
  refine ev_istore_n (L' := [(2, 26), (0, v75312)]) (Nat.le_of_ble_eq_true rfl) rfl ?_
  refine ev_aload_n rfl ?_
  refine ev_iconst ?_
  refine g_putf (r := 26) g ad26 (by decide) ft9_3 (by decide) (fun e => absurd e nz9_3) rf26_3 (by decide) (by omega) (by omega) (fun h75313 e75313 g75313 => ?_)
  have k75313 := k0.wr e75313 rfl
  refine ev_aload_n rfl ?_
  refine ev_iconst ?_
  refine g_putf (r := 26) g75313 ad26 (by decide) ft9_7 (by decide) (fun e => absurd e nz9_7) rf26_7 (by decide) (by omega) (by omega) (fun h75314 e75314 g75314 => ?_)
  have k75314 := k75313.wr e75314 rfl
  refine ev_iload_n rfl ?_
  refine ev_ret rfl (by decide) (by decide) ?_
  show jEv _ _ _ _ _ _ _ (_, [(2, 0)], [(0, v75312)], _, _, _)
  exact ev_ret rfl (by decide) (by decide) ⟨_, rfl, g75314, k75314, by omega, by omega, (((jw_ne e75314 (Or.inr (by decide))).trans (jw_eq e75313))), ((jw_eq e75314))⟩
set_option maxHeartbeats 4000000 in
theorem t346 {G : GH} {h : JH} (g : Gd G h)  : jOk 1 0 0 346 [(2, 42)] h (fun v h' => ∃ r : Int, v = some (0, r) ∧ Gd G h' ∧ Kp [(42, 48), (42, 52)] h h' ∧ 0 ≤ r ∧ r ≤ 3 ∧ h'.2.2 42 47 = 0 ∧ h'.2.2 42 51 = 0) := by
  refine ⟨by decide, by rw [ml346]; exact Nat.le_of_ble_eq_true rfl, ?_⟩
  rw [ml346, pp346]
  show jEv _ none _ c346_0 0 0 _ (c346_0, [(2, 42), (9, 0)], [], h, 0, 0)
  have k0 := Kp.rf [(42, 48), (42, 52)] h
  refine ev_aload_n rfl ?_
  obtain ⟨v75321, ev75321, lv75321, uv75321⟩ := g.rd ad42 (show 47 < 66 by decide) rf42_47
  refine g_getv (r := 42) (v := v75321) g ad42 (by decide) ft12_47 ev75321 ?_
  refine ev_istore_n (L' := [(2, 42), (0, v75321)]) (Nat.le_of_ble_eq_true rfl) rfl ?_
  refine ev_aload_n rfl ?_
  refine ev_iconst ?_
  refine g_putf (r := 42) g ad42 (by decide) ft12_47 (by decide) (fun e => absurd e nz12_47) rf42_47 (by decide) (by omega) (by omega) (fun h75322 e75322 g75322 => ?_)
  have k75322 := k0.wr e75322 rfl
  refine ev_aload_n rfl ?_
  refine ev_iconst ?_
  refine g_putf (r := 42) g75322 ad42 (by decide) ft12_51 (by decide) (fun e => absurd e nz12_51) rf42_51 (by decide) (by omega) (by omega) (fun h75323 e75323 g75323 => ?_)
  have k75323 := k75322.wr e75323 rfl
  refine ev_iload_n rfl ?_
  exact ev_ret rfl (by decide) (by decide) ⟨_, rfl, g75323, k75323, by omega, by omega, (((jw_ne e75323 (Or.inr (by decide))).trans (jw_eq e75322))), ((jw_eq e75323))⟩
set_option maxHeartbeats 4000000 in
theorem t127 {G : GH} {h : JH} (g : Gd G h) {a1 : Int} (la1 : 0 ≤ a1) (ua1 : a1 ≤ 2) {a2 : Int} (la2 : 0 ≤ a2) (ua2 : a2 ≤ 3) {a3 : Int} (la3 : 0 ≤ a3) (ua3 : a3 ≤ 15) : jOk 1 0 0 127 [(2, 26), (0, a1), (0, a2), (0, a3)] h (fun v h' => ∃ r : Int, v = some (0, r) ∧ Gd G h' ∧ Kp [] h h' ∧ (-99) ≤ r ∧ r ≤ 99 ∧ r = gt (FC h) a1 a2 a3) := by
  refine ⟨by decide, by rw [ml127]; exact Nat.le_of_ble_eq_true rfl, ?_⟩
  rw [ml127, pp127]
  show jEv _ none _ c127_0 0 0 _ (c127_0, [(2, 26), (0, a1), (0, a2), (0, a3)], [], h, 0, 0)
  have k0 := Kp.rf [] h
  refine ev_iload_n rfl ?_
  refine ev_iload_n rfl ?_
  refine g_ishrB (a := 15) (by omega) (by omega) (by decide) (fun v75336 ev75336 lv75336 uv75336 => ?_)
  refine ev_iconst ?_
  refine g_iandB (b := 1) (by omega) (by omega) (by decide) (fun v75337 ev75337 lv75337 uv75337 => ?_)
  refine ev_iconst ?_
  refine ev_icmpne f127_18 (fun c75338 => ?_) (fun c75338 => ?_)
  · refine ev_aload_n rfl ?_
    refine g_getp (r := 26) (c := 29) g ad26 (by decide) (by decide) rf26_5 ft9_5 ?_
    refine ev_iload_n rfl ?_
    refine g_iald g ad29 rt29 (by omega) (by omega) (fun v75339 ev75339 lv75339 uv75339 => ?_)
    refine ev_aload_n rfl ?_
    refine g_getp (r := 26) (c := 30) g ad26 (by decide) (by decide) rf26_6 ft9_6 ?_
    refine ev_iload_n rfl ?_
    refine g_iald g ad30 rt30 (by omega) (by omega) (fun v75340 ev75340 lv75340 uv75340 => ?_)
    refine ev_isub (r := (v75339 + (-v75340))) (by unfold w32; omega) ?_
    exact ev_ret rfl (by decide) (by decide) ⟨_, rfl, g, k0, by omega, by omega, by unfold gt; rw [if_neg (fun z => absurd ((bt_of ev75336 ev75337).symm.trans z) (by omega)), (show (FC h) 1 a1 = v75339 from vw_at (N := 3) k0 (fun _ => rfl) (ev75339) (by omega)), (show (FC h) 2 a1 = v75340 from vw_at (N := 3) k0 (fun _ => rfl) (ev75340) (by omega))]; omega⟩
  · refine ev_aload_n rfl ?_
    refine g_getp (r := 26) (c := 31) g ad26 (by decide) (by decide) rf26_8 ft9_8 ?_
    refine ev_iload_n rfl ?_
    refine g_iald g ad31 rt31 (by omega) (by omega) (fun v75341 ev75341 lv75341 uv75341 => ?_)
    refine ev_goto f127_31 ?_
    exact ev_ret rfl (by decide) (by decide) ⟨_, rfl, g, k0, by omega, by omega, by unfold gt; rw [if_pos ((bt_of ev75336 ev75337).trans (by omega)), (show (FC h) 3 a2 = v75341 from vw_at (N := 4) k0 (fun _ => rfl) (ev75341) (by omega))]⟩
set_option maxHeartbeats 4000000 in
theorem t341 {G : GH} {h : JH} (g : Gd G h) {a1 : Int} (la1 : 0 ≤ a1) (ua1 : a1 ≤ 2) {a2 : Int} (la2 : 0 ≤ a2) (ua2 : a2 ≤ 3) {a3 : Int} (la3 : 0 ≤ a3) (ua3 : a3 ≤ 15) : jOk 1 0 0 341 [(2, 42), (0, a1), (0, a2), (0, a3)] h (fun v h' => ∃ r : Int, v = some (0, r) ∧ Gd G h' ∧ Kp [] h h' ∧ (-99) ≤ r ∧ r ≤ 99 ∧ r = gt (FR h) a1 a2 a3) := by
  refine ⟨by decide, by rw [ml341]; exact Nat.le_of_ble_eq_true rfl, ?_⟩
  rw [ml341, pp341]
  show jEv _ none _ c341_0 0 0 _ (c341_0, [(2, 42), (0, a1), (0, a2), (0, a3)], [], h, 0, 0)
  have k0 := Kp.rf [] h
  refine ev_iload_n rfl ?_
  refine ev_iload_n rfl ?_
  refine g_ishrB (a := 15) (by omega) (by omega) (by decide) (fun v75354 ev75354 lv75354 uv75354 => ?_)
  refine ev_iconst ?_
  refine g_iandB (b := 1) (by omega) (by omega) (by decide) (fun v75355 ev75355 lv75355 uv75355 => ?_)
  refine ev_iconst ?_
  refine ev_icmpne f341_18 (fun c75356 => ?_) (fun c75356 => ?_)
  · refine ev_aload_n rfl ?_
    refine g_getp (r := 42) (c := 69) g ad42 (by decide) (by decide) rf42_49 ft12_49 ?_
    refine ev_iload_n rfl ?_
    refine g_iald g ad69 rt69 (by omega) (by omega) (fun v75357 ev75357 lv75357 uv75357 => ?_)
    refine ev_aload_n rfl ?_
    refine g_getp (r := 42) (c := 70) g ad42 (by decide) (by decide) rf42_50 ft12_50 ?_
    refine ev_iload_n rfl ?_
    refine g_iald g ad70 rt70 (by omega) (by omega) (fun v75358 ev75358 lv75358 uv75358 => ?_)
    refine ev_isub (r := (v75357 + (-v75358))) (by unfold w32; omega) ?_
    exact ev_ret rfl (by decide) (by decide) ⟨_, rfl, g, k0, by omega, by omega, by unfold gt; rw [if_neg (fun z => absurd ((bt_of ev75354 ev75355).symm.trans z) (by omega)), (show (FR h) 1 a1 = v75357 from vw_at (N := 3) k0 (fun _ => rfl) (ev75357) (by omega)), (show (FR h) 2 a1 = v75358 from vw_at (N := 3) k0 (fun _ => rfl) (ev75358) (by omega))]; omega⟩
  · refine ev_aload_n rfl ?_
    refine g_getp (r := 42) (c := 71) g ad42 (by decide) (by decide) rf42_52 ft12_52 ?_
    refine ev_iload_n rfl ?_
    refine g_iald g ad71 rt71 (by omega) (by omega) (fun v75359 ev75359 lv75359 uv75359 => ?_)
    refine ev_goto f341_31 ?_
    exact ev_ret rfl (by decide) (by decide) ⟨_, rfl, g, k0, by omega, by omega, by unfold gt; rw [if_pos ((bt_of ev75354 ev75355).trans (by omega)), (show (FR h) 3 a2 = v75359 from vw_at (N := 4) k0 (fun _ => rfl) (ev75359) (by omega))]⟩
set_option maxHeartbeats 4000000 in
theorem t124_l {G : GH} {h : JH} {a1 : Int} (la1 : 0 ≤ a1) (ua1 : a1 ≤ 63) {w0 : Int} (ew0 : h.2.2 26 3 = w0) (lw0 : 0 ≤ w0) (uw0 : w0 ≤ 3) {w1 : Int} (ew1 : h.2.2 26 7 = w1) (lw1 : 0 ≤ w1) (uw1 : w1 ≤ 4) : ∀ N : Nat, (∀ (h1 : JH) (x2 : Int), Gd G h1 → Kp [] h h1 → 0 ≤ a1 → a1 ≤ 63 → 0 ≤ x2 → x2 ≤ 3 → ((-w0) + x2) ≤ 0 → (∀ s, 0 ≤ s → s < x2 → ow w0 a1 s < w1) → ((-x2) + 3) < N → jEv (jOk 1) none (fun _ => 0) c124_0 0 0 (fun v h' => ∃ r : Int, v = some (0, r) ∧ Gd G h' ∧ Kp [] h h' ∧ 0 ≤ r ∧ r ≤ 1 ∧ (r = 1 ↔ (∀ s, 0 ≤ s → s < w0 → ow w0 a1 s < w1))) (c124_2, [(2, 26), (0, a1), (0, x2)], [], h1, 0, 0)) := by
  intro N
  induction N with
  | zero => exact fun h1 x2 g1 k1 b0 b1 b2 b3 b4 b5 hm => absurd hm (by omega)
  | succ N ih =>
    show _
    intro h1 x2 g1 k1 b0 b1 b2 b3 b4 H0 hm
    refine ev_iload_n rfl ?_
    refine ev_aload_n rfl ?_
    refine g_getv (r := 26) (v := w0) g1 ad26 (by decide) ft9_3 (((k1.v (by decide)).trans ew0)) ?_
    refine ev_icmpge f124_31 (fun c75380 => ?_) (fun c75380 => ?_)
    · refine ev_iconst ?_
      exact ev_ret rfl (by decide) (by decide) ⟨_, rfl, g1, k1, by omega, by omega, ⟨fun _ s a b => H0 s a (by omega), fun _ => rfl⟩⟩
    · refine ev_aload_n rfl ?_
      refine ev_iload_n rfl ?_
      refine ev_iload_n rfl ?_
      refine ev_in (d := 0) (a := 0) (b := 0) (cd' := c123_0) (m := 3) (L0 := [(2, 26), (0, a1), (0, x2)]) (jcall_v (A := [(0, x2), (0, a1)]) (S' := []) (r := 26) rfl (g1.lt ad26) (g1.tg ad26) (Nat.le_of_ble_eq_true rfl)) (by decide) ml123 pp123 (Nat.le_of_ble_eq_true rfl) rfl (by decide) (by decide) ?_
      refine ev_iload_n rfl ?_
      refine ev_iconst ?_
      refine ev_aload_n rfl ?_
      refine g_getv (r := 26) (v := w0) g1 ad26 (by decide) ft9_3 (((k1.v (by decide)).trans ew0)) ?_
      refine ev_iconst ?_
      refine ev_isub (r := (w0 - 1)) (by unfold w32; omega) ?_
      refine ev_iload_n rfl ?_
      refine ev_isub (r := (w0 + (-x2) - 1)) (by unfold w32; omega) ?_
      refine ev_imul (r := (2 * w0 + (-2) * x2 - 2)) (by unfold w32; omega) ?_
      refine g_ishrB (a := 63) (by omega) (by omega) (by decide) (fun v75381 ev75381 lv75381 uv75381 => ?_)
      refine ev_iconst ?_
      refine g_iandB (b := 3) (by omega) (by omega) (by decide) (fun v75382 ev75382 lv75382 uv75382 => ?_)
      refine ev_ret rfl (by decide) (by decide) ?_
      show jEv _ _ _ _ _ _ _ (_, [(2, 26), (0, a1), (0, x2)], [(0, v75382)], _, _, _)
      refine ev_aload_n rfl ?_
      refine g_getv (r := 26) (v := w1) g1 ad26 (by decide) ft9_7 (((k1.v (by decide)).trans ew1)) ?_
      refine ev_icmplt f124_25 (fun c75383 => ?_) (fun c75383 => ?_)
      · refine ev_iinc (w := (x2 + 1)) (L' := [(2, 26), (0, a1), (0, (x2 + 1))]) rfl (by unfold w32; omega) rfl ?_
        refine ev_goto f124_2 ?_
        exact ih _ _ g1 k1 (by omega) (by omega) (by omega) (by omega) (by omega) (md_add H0 (by omega) (by rw [(ow_of (n := w0) (s := x2) ev75381 ev75382 (by omega))]; omega)) (by omega)
      · refine ev_iconst ?_
        exact ev_ret rfl (by decide) (by decide) ⟨_, rfl, g1, k1, by omega, by omega, ⟨fun z => absurd z (by decide), fun z => absurd (z x2 (by omega) (by omega)) (by rw [(ow_of (n := w0) (s := x2) ev75381 ev75382 (by omega))]; omega)⟩⟩
set_option maxHeartbeats 4000000 in
theorem t124 {G : GH} {h : JH} (g : Gd G h) {a1 : Int} (la1 : 0 ≤ a1) (ua1 : a1 ≤ 63) {w0 : Int} (ew0 : h.2.2 26 3 = w0) (lw0 : 0 ≤ w0) (uw0 : w0 ≤ 3) {w1 : Int} (ew1 : h.2.2 26 7 = w1) (lw1 : 0 ≤ w1) (uw1 : w1 ≤ 4) : jOk 2 0 0 124 [(2, 26), (0, a1)] h (fun v h' => ∃ r : Int, v = some (0, r) ∧ Gd G h' ∧ Kp [] h h' ∧ 0 ≤ r ∧ r ≤ 1 ∧ (r = 1 ↔ (∀ s, 0 ≤ s → s < w0 → ow w0 a1 s < w1))) := by
  refine ⟨by decide, by rw [ml124]; exact Nat.le_of_ble_eq_true rfl, ?_⟩
  rw [ml124, pp124]
  show jEv _ none _ c124_0 0 0 _ (c124_0, [(2, 26), (0, a1), (9, 0)], [], h, 0, 0)
  have k0 := Kp.rf [] h
  refine ev_iconst ?_
  refine ev_istore_n (L' := [(2, 26), (0, a1), (0, 0)]) (Nat.le_of_ble_eq_true rfl) rfl ?_
  exact (t124_l la1 ua1 ew0 lw0 uw0 ew1 lw1 uw1 8) _ _ g k0 (by omega) (by omega) (by omega) (by omega) (by omega) (fun s a b => by omega) (by omega)
set_option maxHeartbeats 4000000 in
theorem t126_l {G : GH} {h : JH} {w0 : Int} (ew0 : h.2.2 26 3 = w0) (lw0 : 1 ≤ w0) (uw0 : w0 ≤ 3) : ∀ N : Nat, (∀ (h1 : JH) (x1 x2 : Int), Gd G h1 → Kp [] h h1 → 0 ≤ x1 → x1 ≤ 99 → 1 ≤ x2 → x2 ≤ 3 → ((-w0) + x2) ≤ 0 → x1 ≤ 99 → ((-x1)) ≤ 0 → x1 = lW (FC h) (x2).toNat → ((-x2) + 3) < N → jEv (jOk 1) none (fun _ => 0) c126_0 0 0 (fun v h' => ∃ r : Int, v = some (0, r) ∧ Gd G h' ∧ Kp [] h h' ∧ 0 ≤ r ∧ r ≤ 99 ∧ r = lW (FC h) (w0).toNat) (c126_9, [(2, 26), (0, x1), (0, x2)], [], h1, 0, 0)) := by
  intro N
  induction N with
  | zero => exact fun h1 x1 x2 g1 k1 b0 b1 b2 b3 b4 b5 b6 b7 hm => absurd hm (by omega)
  | succ N ih =>
    show _
    intro h1 x1 x2 g1 k1 b0 b1 b2 b3 b4 b5 b6 H0 hm
    refine ev_iload_n rfl ?_
    refine ev_aload_n rfl ?_
    refine g_getv (r := 26) (v := w0) g1 ad26 (by decide) ft9_3 (((k1.v (by decide)).trans ew0)) ?_
    refine ev_icmpge f126_34 (fun c75398 => ?_) (fun c75398 => ?_)
    · refine ev_iload_n rfl ?_
      exact ev_ret rfl (by decide) (by decide) ⟨_, rfl, g1, k1, by omega, by omega, H0.trans (by rw [show (x2).toNat = (w0).toNat by omega])⟩
    · refine ev_iload_n rfl ?_
      refine ev_aload_n rfl ?_
      refine g_getp (r := 26) (c := 29) g1 ad26 (by decide) (by decide) rf26_5 ft9_5 ?_
      refine ev_iload_n rfl ?_
      refine g_iald g1 ad29 rt29 (by omega) (by omega) (fun v75399 ev75399 lv75399 uv75399 => ?_)
      refine ev_in (d := 0) (a := 0) (b := 0) (cd' := c381_0) (m := 2) (L0 := [(0, x1), (0, v75399)]) (jcall_s (A := [(0, v75399), (0, x1)]) (S' := []) (by decide) rfl (Nat.le_of_ble_eq_true rfl)) (by decide) ml381 pp381 (Nat.le_of_ble_eq_true rfl) rfl (by decide) (by decide) ?_
      refine ev_iload_n rfl ?_
      refine ev_iload_n rfl ?_
      refine ev_icmpgt f381_9 (fun c75400 => ?_) (fun c75400 => ?_)
      · refine ev_iload_n rfl ?_
        refine ev_ret rfl (by decide) (by decide) ?_
        show jEv _ _ _ _ _ _ _ (_, [(2, 26), (0, x1), (0, x2)], [(0, v75399)], _, _, _)
        refine ev_istore_n (L' := [(2, 26), (0, v75399), (0, x2)]) (Nat.le_of_ble_eq_true rfl) rfl ?_
        refine ev_iinc (w := (x2 + 1)) (L' := [(2, 26), (0, v75399), (0, (x2 + 1))]) rfl (by unfold w32; omega) rfl ?_
        refine ev_goto f126_9 ?_
        exact ih _ _ _ g1 k1 (by omega) (by omega) (by omega) (by omega) (by omega) (by omega) (by omega) (l_add (v := v75399) H0 (by omega) (show (FC h) 1 x2 = v75399 from vw_at (N := 3) k1 (fun _ => rfl) (ev75399) (by omega)) (by omega) (by split <;> omega)) (by omega)
      · refine ev_iload_n rfl ?_
        refine ev_goto f381_10 ?_
        refine ev_ret rfl (by decide) (by decide) ?_
        show jEv _ _ _ _ _ _ _ (_, [(2, 26), (0, x1), (0, x2)], [(0, x1)], _, _, _)
        refine ev_istore_n (L' := [(2, 26), (0, x1), (0, x2)]) (Nat.le_of_ble_eq_true rfl) rfl ?_
        refine ev_iinc (w := (x2 + 1)) (L' := [(2, 26), (0, x1), (0, (x2 + 1))]) rfl (by unfold w32; omega) rfl ?_
        refine ev_goto f126_9 ?_
        exact ih _ _ _ g1 k1 (by omega) (by omega) (by omega) (by omega) (by omega) (by omega) (by omega) (l_add (v := v75399) H0 (by omega) (show (FC h) 1 x2 = v75399 from vw_at (N := 3) k1 (fun _ => rfl) (ev75399) (by omega)) (by omega) (by split <;> omega)) (by omega)
set_option maxHeartbeats 4000000 in
theorem t126 {G : GH} {h : JH} (g : Gd G h) {w0 : Int} (ew0 : h.2.2 26 3 = w0) (lw0 : 1 ≤ w0) (uw0 : w0 ≤ 3) : jOk 2 0 0 126 [(2, 26)] h (fun v h' => ∃ r : Int, v = some (0, r) ∧ Gd G h' ∧ Kp [] h h' ∧ 0 ≤ r ∧ r ≤ 99 ∧ r = lW (FC h) (w0).toNat) := by
  refine ⟨by decide, by rw [ml126]; exact Nat.le_of_ble_eq_true rfl, ?_⟩
  rw [ml126, pp126]
  show jEv _ none _ c126_0 0 0 _ (c126_0, [(2, 26), (9, 0), (9, 0)], [], h, 0, 0)
  have k0 := Kp.rf [] h
  refine ev_aload_n rfl ?_
  refine g_getp (r := 26) (c := 29) g ad26 (by decide) (by decide) rf26_5 ft9_5 ?_
  refine ev_iconst ?_
  refine g_iald g ad29 rt29 (by omega) (by omega) (fun v75401 ev75401 lv75401 uv75401 => ?_)
  refine ev_istore_n (L' := [(2, 26), (0, v75401), (9, 0)]) (Nat.le_of_ble_eq_true rfl) rfl ?_
  refine ev_iconst ?_
  refine ev_istore_n (L' := [(2, 26), (0, v75401), (0, 1)]) (Nat.le_of_ble_eq_true rfl) rfl ?_
  exact (t126_l ew0 lw0 uw0 6) _ _ _ g k0 (by omega) (by omega) (by omega) (by omega) (by omega) (by omega) (by omega) (by have q : FC h 1 0 = v75401 := vw_at (N := 3) k0 (fun _ => rfl) (i := 0) (ev75401) (by omega); show _ = (if _ < FC h 1 ((0 : Nat) : Int) then _ else FC h 1 ((0 : Nat) : Int)); rw [show ((0 : Nat) : Int) = 0 from rfl, q]; show _ = if (99 : Int) < _ then 99 else _; rw [if_neg (by omega)]) (by omega)
set_option maxHeartbeats 4000000 in
theorem t125_l {G : GH} {h : JH} {a1 : Int} (la1 : 0 ≤ a1) (ua1 : a1 ≤ 63) {a2 : Int} (la2 : 0 ≤ a2) (ua2 : a2 ≤ 99) {w0 : Int} (ew0 : h.2.2 26 3 = w0) (lw0 : 1 ≤ w0) (uw0 : w0 ≤ 3) {w1 : Int} (ew1 : h.2.2 26 7 = w1) (lw1 : 0 ≤ w1) (uw1 : w1 ≤ 4) : ∀ N : Nat, (∀ (h1 : JH) (x3 x4 : Int) (j5 j6 j7 : AV), Gd G h1 → Kp [] h h1 → 0 ≤ a1 → a1 ≤ 63 → 0 ≤ a2 → a2 ≤ 99 → 0 ≤ x3 → x3 ≤ 15 → 0 ≤ x4 → x4 ≤ 4 → ((-w1) + x4) ≤ 0 → x3 ≤ 15 → ((-x3)) ≤ 0 → Tb (FC h) w0 a2 a1 x3 x4 → ((-8) * x4 + 36) < N → jEv (jOk 2) none (fun _ => 0) c125_0 0 0 (fun v h' => ∃ r : Int, v = some (0, r) ∧ Gd G h' ∧ Kp [] h h' ∧ 0 ≤ r ∧ r ≤ 15 ∧ r < jshl 1 w1 ∧ Tk (FC h) w0 a2 a1 r w1) (c125_5, [(2, 26), (0, a1), (0, a2), (0, x3), (0, x4), j5, j6, j7], [], h1, 0, 0)) ∧ (∀ (h1 : JH) (x3 x4 x5 x6 x7 : Int), Gd G h1 → Kp [] h h1 → 0 ≤ a1 → a1 ≤ 63 → 0 ≤ a2 → a2 ≤ 99 → 0 ≤ x3 → x3 ≤ 15 → 0 ≤ x4 → x4 ≤ 3 → 0 ≤ x5 → x5 ≤ 27 → 0 ≤ x6 → x6 ≤ 2800 → 0 ≤ x7 → x7 ≤ 3 → ((-w1) + x4) ≤ (-1) → x3 ≤ 15 → ((-x3)) ≤ 0 → ((-w0) + x7) ≤ 0 → (x5 + (-9) * x7) ≤ 0 → ((-x5)) ≤ 0 → (x6 + (-891) * x7) ≤ 0 → ((-x6)) ≤ 0 → Tb (FC h) w0 a2 a1 x3 x4 → x5 = sW (FC h) w0 a1 x4 (x7).toNat → x6 = sU (FC h) w0 a1 x4 (x7).toNat → ((-8) * x4 + (-x7) + 35) < N → jEv (jOk 2) none (fun _ => 0) c125_0 0 0 (fun v h' => ∃ r : Int, v = some (0, r) ∧ Gd G h' ∧ Kp [] h h' ∧ 0 ≤ r ∧ r ≤ 15 ∧ r < jshl 1 w1 ∧ Tk (FC h) w0 a2 a1 r w1) (c125_23, [(2, 26), (0, a1), (0, a2), (0, x3), (0, x4), (0, x5), (0, x6), (0, x7)], [], h1, 0, 0)) := by
  intro N
  induction N with
  | zero => exact ⟨fun h1 x3 x4 j5 j6 j7 g1 k1 b0 b1 b2 b3 b4 b5 b6 b7 b8 b9 b10 b11 hm => absurd hm (by omega), fun h1 x3 x4 x5 x6 x7 g1 k1 b0 b1 b2 b3 b4 b5 b6 b7 b8 b9 b10 b11 b12 b13 b14 b15 b16 b17 b18 b19 b20 b21 b22 b23 b24 hm => absurd hm (by omega)⟩
  | succ N ih =>
    refine ⟨?_, ?_⟩
    · intro h1 x3 x4 j5 j6 j7 g1 k1 b0 b1 b2 b3 b4 b5 b6 b7 b8 b9 b10 H0 hm
      refine ev_iload rfl ?_
      refine ev_aload_n rfl ?_
      refine g_getv (r := 26) (v := w1) g1 ad26 (by decide) ft9_7 (((k1.v (by decide)).trans ew1)) ?_
      refine ev_icmpge f125_157 (fun c75559 => ?_) (fun c75559 => ?_)
      · refine ev_iload_n rfl ?_
        exact ev_ret rfl (by decide) (by decide) ⟨_, rfl, g1, k1, by omega, by omega, (show x4 = w1 by omega) ▸ H0.1, (show x4 = w1 by omega) ▸ H0.2⟩
      · refine ev_iconst ?_
        refine ev_istore (L' := [(2, 26), (0, a1), (0, a2), (0, x3), (0, x4), (0, 0), j6, j7]) (Nat.le_of_ble_eq_true rfl) rfl ?_
        refine ev_iconst ?_
        refine ev_istore (L' := [(2, 26), (0, a1), (0, a2), (0, x3), (0, x4), (0, 0), (0, 0), j7]) (Nat.le_of_ble_eq_true rfl) rfl ?_
        refine ev_iconst ?_
        refine ev_istore (L' := [(2, 26), (0, a1), (0, a2), (0, x3), (0, x4), (0, 0), (0, 0), (0, 0)]) (Nat.le_of_ble_eq_true rfl) rfl ?_
        exact ih.2 _ _ _ _ _ _ g1 k1 (by omega) (by omega) (by omega) (by omega) (by omega) (by omega) (by omega) (by omega) (by omega) (by omega) (by omega) (by omega) (by omega) (by omega) (by omega) (by omega) (by omega) (by omega) (by omega) (by omega) (by omega) (by omega) H0 rfl rfl (by omega)
    · intro h1 x3 x4 x5 x6 x7 g1 k1 b0 b1 b2 b3 b4 b5 b6 b7 b8 b9 b10 b11 b12 b13 b14 b15 b16 b17 b18 b19 b20 b21 H0 H1 H2 hm
      refine ev_iload rfl ?_
      refine ev_aload_n rfl ?_
      refine g_getv (r := 26) (v := w0) g1 ad26 (by decide) ft9_3 (((k1.v (by decide)).trans ew0)) ?_
      refine ev_icmpge f125_82 (fun c75560 => ?_) (fun c75560 => ?_)
      · refine ev_iload rfl ?_
        refine ev_ifne f125_111 (fun c75561 => ?_) (fun c75561 => ?_)
        · refine ev_aload_n rfl ?_
          refine g_getp (r := 26) (c := 31) g1 ad26 (by decide) (by decide) rf26_8 ft9_8 ?_
          refine ev_iload rfl ?_
          refine g_iald g1 ad31 rt31 (by omega) (by omega) (fun v75562 ev75562 lv75562 uv75562 => ?_)
          refine ev_iload_n rfl ?_
          refine ev_isub (r := ((-a2) + v75562)) (by unfold w32; omega) ?_
          refine ev_iload rfl ?_
          obtain ⟨v75563, ev75563, lv75563, uv75563⟩ : ∃ v : Int, ((-a2) + v75562) * x5 = v ∧ (-2673) ≤ v ∧ v ≤ 2673 := ⟨_, rfl, by have := mul_ab (x := ((-a2) + v75562)) (y := x5) (A := 99) (B := 27) (by omega) (by omega); omega, by have := mul_ab (x := ((-a2) + v75562)) (y := x5) (A := 99) (B := 27) (by omega) (by omega); omega⟩
          refine ev_imul (r := v75563) (by rw [ev75563]; unfold w32; omega) ?_
          refine ev_iload rfl ?_
          refine ev_icmpgt f125_132 (fun c75564 => ?_) (fun c75564 => ?_)
          · refine ev_iconst ?_
            refine ev_istore (L' := [(2, 26), (0, a1), (0, a2), (0, x3), (0, x4), (0, x5), (0, x6), (0, 0)]) (Nat.le_of_ble_eq_true rfl) rfl ?_
            refine ev_iload_n rfl ?_
            refine ev_iload rfl ?_
            refine ev_ifeq f125_148 (fun c75565 => ?_) (fun c75565 => absurd c75565 (by omega))
            refine ev_iconst ?_
            refine g_iorB (k := 4) (hi := 15) (by decide) (by decide) (by omega) (by omega) (by omega) (by omega) (fun v75566 ev75566 lv75566 uv75566 => ?_)
            refine ev_istore_n (L' := [(2, 26), (0, a1), (0, a2), (0, v75566), (0, x4), (0, x5), (0, x6), (0, 0)]) (Nat.le_of_ble_eq_true rfl) rfl ?_
            refine ev_iinc (w := (x4 + 1)) (L' := [(2, 26), (0, a1), (0, a2), (0, v75566), (0, (x4 + 1)), (0, x5), (0, x6), (0, 0)]) rfl (by unfold w32; omega) rfl ?_
            refine ev_goto f125_5 ?_
            exact ih.1 _ _ _ _ _ _ g1 k1 (by omega) (by omega) (by omega) (by omega) (by omega) (by omega) (by omega) (by omega) (by omega) (by omega) (by omega) (Tb.no H0 (by omega) (by omega) (by omega) (by omega) ev75566 (by unfold TT; rw [show (w0).toNat = (x7).toNat by omega, ← H1, ← H2, (show (FC h) 3 x4 = v75562 from vw_at (N := 4) k1 (fun _ => rfl) (ev75562) (by omega))]; rw [if_neg (by omega)]; have q := (show (v75562 - a2) * x5 = v75563 by rw [← ev75563]; congr 1; omega); rw [Int.sub_mul] at q; omega) (by omega)) (by omega)
          · refine ev_iconst ?_
            refine ev_goto f125_133 ?_
            refine ev_istore (L' := [(2, 26), (0, a1), (0, a2), (0, x3), (0, x4), (0, x5), (0, x6), (0, 1)]) (Nat.le_of_ble_eq_true rfl) rfl ?_
            refine ev_iload_n rfl ?_
            refine ev_iload rfl ?_
            refine ev_ifeq f125_148 (fun c75567 => absurd c75567 (by omega)) (fun c75567 => ?_)
            refine ev_iconst ?_
            refine ev_iload rfl ?_
            refine g_ishlB (a' := 1) (a := 1) (b := 3) (hi := 8) (by omega) (by omega) (by omega) (by omega) (by decide) (by decide) (fun v75568 ev75568 lv75568 uv75568 => ?_)
            refine ev_goto f125_149 ?_
            refine g_iorB (k := 4) (hi := 15) (by decide) (by decide) (by omega) (by omega) (by omega) (by omega) (fun v75569 ev75569 lv75569 uv75569 => ?_)
            refine ev_istore_n (L' := [(2, 26), (0, a1), (0, a2), (0, v75569), (0, x4), (0, x5), (0, x6), (0, 1)]) (Nat.le_of_ble_eq_true rfl) rfl ?_
            refine ev_iinc (w := (x4 + 1)) (L' := [(2, 26), (0, a1), (0, a2), (0, v75569), (0, (x4 + 1)), (0, x5), (0, x6), (0, 1)]) rfl (by unfold w32; omega) rfl ?_
            refine ev_goto f125_5 ?_
            exact ih.1 _ _ _ _ _ _ g1 k1 (by omega) (by omega) (by omega) (by omega) (by omega) (by omega) (by omega) (by omega) (by omega) (by omega) (by omega) (Tb.yes H0 (by omega) (by omega) (by omega) (by omega) ev75568 ev75569 (by unfold TT; rw [show (w0).toNat = (x7).toNat by omega, ← H1, ← H2, (show (FC h) 3 x4 = v75562 from vw_at (N := 4) k1 (fun _ => rfl) (ev75562) (by omega))]; rw [if_neg (by omega)]; have q := (show (v75562 - a2) * x5 = v75563 by rw [← ev75563]; congr 1; omega); rw [Int.sub_mul] at q; omega) (by omega)) (by omega)
        · refine ev_aload_n rfl ?_
          refine g_getp (r := 26) (c := 31) g1 ad26 (by decide) (by decide) rf26_8 ft9_8 ?_
          refine ev_iload rfl ?_
          refine g_iald g1 ad31 rt31 (by omega) (by omega) (fun v75570 ev75570 lv75570 uv75570 => ?_)
          refine ev_aload_n rfl ?_
          refine ev_call (jcall_v (A := []) (S' := [(0, v75570)]) (r := 26) rfl (g1.lt ad26) (g1.tg ad26) (Nat.le_of_ble_eq_true rfl)) (jOk_le (by decide) (t126 g1 (((k1.v (by decide)).trans ew0)) (by omega) (by omega))) (by decide) (by decide) (fun w75571 h75571 q75571 => ?_)
          obtain ⟨v75572, rfl, g75571, kk75571, lv75572, uv75572, X75571⟩ := q75571
          have k75571 := k1.tr kk75571 (by decide)
          show jEv _ _ _ _ _ _ _ (_, [(2, 26), (0, a1), (0, a2), (0, x3), (0, x4), (0, x5), (0, x6), (0, x7)], [(0, v75572), (0, v75570)], _, _, _)
          refine ev_iload_n rfl ?_
          refine ev_iadd (r := (a2 + v75572)) (by unfold w32; omega) ?_
          refine ev_icmpgt f125_107 (fun c75573 => ?_) (fun c75573 => ?_)
          · refine ev_iconst ?_
            refine ev_goto f125_133 ?_
            refine ev_istore (L' := [(2, 26), (0, a1), (0, a2), (0, x3), (0, x4), (0, x5), (0, x6), (0, 0)]) (Nat.le_of_ble_eq_true rfl) rfl ?_
            refine ev_iload_n rfl ?_
            refine ev_iload rfl ?_
            refine ev_ifeq f125_148 (fun c75574 => ?_) (fun c75574 => absurd c75574 (by omega))
            refine ev_iconst ?_
            refine g_iorB (k := 4) (hi := 15) (by decide) (by decide) (by omega) (by omega) (by omega) (by omega) (fun v75575 ev75575 lv75575 uv75575 => ?_)
            refine ev_istore_n (L' := [(2, 26), (0, a1), (0, a2), (0, v75575), (0, x4), (0, x5), (0, x6), (0, 0)]) (Nat.le_of_ble_eq_true rfl) rfl ?_
            refine ev_iinc (w := (x4 + 1)) (L' := [(2, 26), (0, a1), (0, a2), (0, v75575), (0, (x4 + 1)), (0, x5), (0, x6), (0, 0)]) rfl (by unfold w32; omega) rfl ?_
            refine ev_goto f125_5 ?_
            exact ih.1 _ _ _ _ _ _ g75571 k75571 (by omega) (by omega) (by omega) (by omega) (by omega) (by omega) (by omega) (by omega) (by omega) (by omega) (by omega) (Tb.no H0 (by omega) (by omega) (by omega) (by omega) ev75575 (by unfold TT; rw [show (w0).toNat = (x7).toNat by omega, ← H1, ← H2, (show (FC h) 3 x4 = v75570 from vw_at (N := 4) k75571 (fun _ => rfl) (((kk75571.v rfl).trans ev75570)) (by omega))]; rw [if_pos (by omega), show (x7).toNat = (w0).toNat by omega, ← (lwc_kp k1 X75571)]; omega) (by omega)) (by omega)
          · refine ev_iconst ?_
            refine ev_goto f125_133 ?_
            refine ev_istore (L' := [(2, 26), (0, a1), (0, a2), (0, x3), (0, x4), (0, x5), (0, x6), (0, 1)]) (Nat.le_of_ble_eq_true rfl) rfl ?_
            refine ev_iload_n rfl ?_
            refine ev_iload rfl ?_
            refine ev_ifeq f125_148 (fun c75576 => absurd c75576 (by omega)) (fun c75576 => ?_)
            refine ev_iconst ?_
            refine ev_iload rfl ?_
            refine g_ishlB (a' := 1) (a := 1) (b := 3) (hi := 8) (by omega) (by omega) (by omega) (by omega) (by decide) (by decide) (fun v75577 ev75577 lv75577 uv75577 => ?_)
            refine ev_goto f125_149 ?_
            refine g_iorB (k := 4) (hi := 15) (by decide) (by decide) (by omega) (by omega) (by omega) (by omega) (fun v75578 ev75578 lv75578 uv75578 => ?_)
            refine ev_istore_n (L' := [(2, 26), (0, a1), (0, a2), (0, v75578), (0, x4), (0, x5), (0, x6), (0, 1)]) (Nat.le_of_ble_eq_true rfl) rfl ?_
            refine ev_iinc (w := (x4 + 1)) (L' := [(2, 26), (0, a1), (0, a2), (0, v75578), (0, (x4 + 1)), (0, x5), (0, x6), (0, 1)]) rfl (by unfold w32; omega) rfl ?_
            refine ev_goto f125_5 ?_
            exact ih.1 _ _ _ _ _ _ g75571 k75571 (by omega) (by omega) (by omega) (by omega) (by omega) (by omega) (by omega) (by omega) (by omega) (by omega) (by omega) (Tb.yes H0 (by omega) (by omega) (by omega) (by omega) ev75577 ev75578 (by unfold TT; rw [show (w0).toNat = (x7).toNat by omega, ← H1, ← H2, (show (FC h) 3 x4 = v75570 from vw_at (N := 4) k75571 (fun _ => rfl) (((kk75571.v rfl).trans ev75570)) (by omega))]; rw [if_pos (by omega), show (x7).toNat = (w0).toNat by omega, ← (lwc_kp k1 X75571)]; omega) (by omega)) (by omega)
      · refine ev_aload_n rfl ?_
        refine ev_iload_n rfl ?_
        refine ev_iload rfl ?_
        refine ev_in (d := 1) (a := 0) (b := 0) (cd' := c123_0) (m := 3) (L0 := [(2, 26), (0, a1), (0, x7)]) (jcall_v (A := [(0, x7), (0, a1)]) (S' := []) (r := 26) rfl (g1.lt ad26) (g1.tg ad26) (Nat.le_of_ble_eq_true rfl)) (by decide) ml123 pp123 (Nat.le_of_ble_eq_true rfl) rfl (by decide) (by decide) ?_
        refine ev_iload_n rfl ?_
        refine ev_iconst ?_
        refine ev_aload_n rfl ?_
        refine g_getv (r := 26) (v := w0) g1 ad26 (by decide) ft9_3 (((k1.v (by decide)).trans ew0)) ?_
        refine ev_iconst ?_
        refine ev_isub (r := (w0 - 1)) (by unfold w32; omega) ?_
        refine ev_iload_n rfl ?_
        refine ev_isub (r := (w0 + (-x7) - 1)) (by unfold w32; omega) ?_
        refine ev_imul (r := (2 * w0 + (-2) * x7 - 2)) (by unfold w32; omega) ?_
        refine g_ishrB (a := 63) (by omega) (by omega) (by decide) (fun v75579 ev75579 lv75579 uv75579 => ?_)
        refine ev_iconst ?_
        refine g_iandB (b := 3) (by omega) (by omega) (by decide) (fun v75580 ev75580 lv75580 uv75580 => ?_)
        refine ev_ret rfl (by decide) (by decide) ?_
        show jEv _ _ _ _ _ _ _ (_, [(2, 26), (0, a1), (0, a2), (0, x3), (0, x4), (0, x5), (0, x6), (0, x7)], [(0, v75580)], _, _, _)
        refine ev_iload rfl ?_
        refine ev_icmpne f125_76 (fun c75581 => ?_) (fun c75581 => ?_)
        · refine ev_iinc (w := (x7 + 1)) (L' := [(2, 26), (0, a1), (0, a2), (0, x3), (0, x4), (0, x5), (0, x6), (0, (x7 + 1))]) rfl (by unfold w32; omega) rfl ?_
          refine ev_goto f125_23 ?_
          exact ih.2 _ _ _ _ _ _ g1 k1 (by omega) (by omega) (by omega) (by omega) (by omega) (by omega) (by omega) (by omega) (by omega) (by omega) (by omega) (by omega) (by omega) (by omega) (by omega) (by omega) (by omega) (by omega) (by omega) (by omega) (by omega) (by omega) H0 (s_no (q := x4) (t := x7 + 1) H1 H2 (by omega) (fun z => absurd ((ow_of (n := w0) (s := x7) ev75579 ev75580 (by omega)).symm.trans z) (by omega)) (by omega)).1 (s_no (q := x4) (t := x7 + 1) H1 H2 (by omega) (fun z => absurd ((ow_of (n := w0) (s := x7) ev75579 ev75580 (by omega)).symm.trans z) (by omega)) (by omega)).2 (by omega)
        · refine ev_iload rfl ?_
          refine ev_aload_n rfl ?_
          refine g_getp (r := 26) (c := 28) g1 ad26 (by decide) (by decide) rf26_4 ft9_4 ?_
          refine ev_iload rfl ?_
          refine g_iald g1 ad28 rt28 (by omega) (by omega) (fun v75582 ev75582 lv75582 uv75582 => ?_)
          refine ev_iadd (r := (v75582 + x5)) (by unfold w32; omega) ?_
          refine ev_istore (L' := [(2, 26), (0, a1), (0, a2), (0, x3), (0, x4), (0, (v75582 + x5)), (0, x6), (0, x7)]) (Nat.le_of_ble_eq_true rfl) rfl ?_
          refine ev_iload rfl ?_
          refine ev_aload_n rfl ?_
          refine g_getp (r := 26) (c := 28) g1 ad26 (by decide) (by decide) rf26_4 ft9_4 ?_
          refine ev_iload rfl ?_
          refine g_ialdv (v := v75582) g1 ad28 (by omega) (by omega) (ev75582) ?_
          refine ev_aload_n rfl ?_
          refine g_getp (r := 26) (c := 29) g1 ad26 (by decide) (by decide) rf26_5 ft9_5 ?_
          refine ev_iload rfl ?_
          refine g_iald g1 ad29 rt29 (by omega) (by omega) (fun v75583 ev75583 lv75583 uv75583 => ?_)
          refine g_imulB (a := 9) (b := 99) (a' := 0) (b' := 0) (by omega) (by omega) (by omega) (by omega) (by decide) (lo := 0) (hi := 891) (by decide) (by decide) (fun v75584 ev75584 lv75584 uv75584 => ?_)
          refine ev_iadd (r := (v75584 + x6)) (by unfold w32; omega) ?_
          refine ev_istore (L' := [(2, 26), (0, a1), (0, a2), (0, x3), (0, x4), (0, (v75582 + x5)), (0, (v75584 + x6)), (0, x7)]) (Nat.le_of_ble_eq_true rfl) rfl ?_
          refine ev_iinc (w := (x7 + 1)) (L' := [(2, 26), (0, a1), (0, a2), (0, x3), (0, x4), (0, (v75582 + x5)), (0, (v75584 + x6)), (0, (x7 + 1))]) rfl (by unfold w32; omega) rfl ?_
          refine ev_goto f125_23 ?_
          exact ih.2 _ _ _ _ _ _ g1 k1 (by omega) (by omega) (by omega) (by omega) (by omega) (by omega) (by omega) (by omega) (by omega) (by omega) (by omega) (by omega) (by omega) (by omega) (by omega) (by omega) (by omega) (by omega) (by omega) (by omega) (by omega) (by omega) H0 (s_add (q := x4) (x' := (v75582 + x5)) (y' := (v75584 + x6)) (t := x7 + 1) H1 H2 (by omega) ((ow_of (n := w0) (s := x7) ev75579 ev75580 (by omega)).trans (by omega)) (show (FC h) 0 x7 = v75582 from vw_at (N := 3) k1 (fun _ => rfl) (ev75582) (by omega)) (show (FC h) 1 x7 = v75583 from vw_at (N := 3) k1 (fun _ => rfl) (ev75583) (by omega)) ev75584 (by omega) (by omega) (by omega)).1 (s_add (q := x4) (x' := (v75582 + x5)) (y' := (v75584 + x6)) (t := x7 + 1) H1 H2 (by omega) ((ow_of (n := w0) (s := x7) ev75579 ev75580 (by omega)).trans (by omega)) (show (FC h) 0 x7 = v75582 from vw_at (N := 3) k1 (fun _ => rfl) (ev75582) (by omega)) (show (FC h) 1 x7 = v75583 from vw_at (N := 3) k1 (fun _ => rfl) (ev75583) (by omega)) ev75584 (by omega) (by omega) (by omega)).2 (by omega)
set_option maxHeartbeats 4000000 in
theorem t125 {G : GH} {h : JH} (g : Gd G h) {a1 : Int} (la1 : 0 ≤ a1) (ua1 : a1 ≤ 63) {a2 : Int} (la2 : 0 ≤ a2) (ua2 : a2 ≤ 99) {w0 : Int} (ew0 : h.2.2 26 3 = w0) (lw0 : 1 ≤ w0) (uw0 : w0 ≤ 3) {w1 : Int} (ew1 : h.2.2 26 7 = w1) (lw1 : 0 ≤ w1) (uw1 : w1 ≤ 4) : jOk 3 0 0 125 [(2, 26), (0, a1), (0, a2)] h (fun v h' => ∃ r : Int, v = some (0, r) ∧ Gd G h' ∧ Kp [] h h' ∧ 0 ≤ r ∧ r ≤ 15 ∧ r < jshl 1 w1 ∧ Tk (FC h) w0 a2 a1 r w1) := by
  refine ⟨by decide, by rw [ml125]; exact Nat.le_of_ble_eq_true rfl, ?_⟩
  rw [ml125, pp125]
  show jEv _ none _ c125_0 0 0 _ (c125_0, [(2, 26), (0, a1), (0, a2), (9, 0), (9, 0), (9, 0), (9, 0), (9, 0)], [], h, 0, 0)
  have k0 := Kp.rf [] h
  refine ev_iconst ?_
  refine ev_istore_n (L' := [(2, 26), (0, a1), (0, a2), (0, 0), (9, 0), (9, 0), (9, 0), (9, 0)]) (Nat.le_of_ble_eq_true rfl) rfl ?_
  refine ev_iconst ?_
  refine ev_istore (L' := [(2, 26), (0, a1), (0, a2), (0, 0), (0, 0), (9, 0), (9, 0), (9, 0)]) (Nat.le_of_ble_eq_true rfl) rfl ?_
  exact (t125_l la1 ua1 la2 ua2 ew0 lw0 uw0 ew1 lw1 uw1 80).1 _ _ _ _ _ _ g k0 (by omega) (by omega) (by omega) (by omega) (by omega) (by omega) (by omega) (by omega) (by omega) (by omega) (by omega) Tb.start (by omega)
set_option maxHeartbeats 4000000 in
theorem t128_l {G : GH} {h : JH} {a1 : Int} (la1 : 0 ≤ a1) (ua1 : a1 ≤ 63) {a2 : Int} (la2 : 0 ≤ a2) (ua2 : a2 ≤ 15) {w0 : Int} (ew0 : h.2.2 26 3 = w0) (lw0 : 0 ≤ w0) (uw0 : w0 ≤ 3) {w1 : Int} (ew1 : h.2.2 26 7 = w1) (lw1 : 0 ≤ w1) (uw1 : w1 ≤ 4) : ∀ N : Nat, (∀ (h1 : JH) (x3 : Int) (j4 j5 : AV), Gd G h1 → Kp [] h h1 → 0 ≤ a1 → a1 ≤ 63 → 0 ≤ a2 → a2 ≤ 15 → 0 ≤ x3 → x3 ≤ 3 → ((-w0) + x3) ≤ 0 → Mq (FC h) w0 w1 a1 a2 x3 → ((-10) * x3 + 35) < N → jEv (jOk 1) none (fun _ => 0) c128_0 0 0 (fun v h' => ∃ r : Int, v = some (0, r) ∧ Gd G h' ∧ Kp [] h h' ∧ 0 ≤ r ∧ r ≤ 1 ∧ (r = 1 ↔ Mq (FC h) w0 w1 a1 a2 w0)) (c128_2, [(2, 26), (0, a1), (0, a2), (0, x3), j4, j5], [], h1, 0, 0)) ∧ (∀ (h1 : JH) (x3 x4 x5 : Int), Gd G h1 → Kp [] h h1 → 0 ≤ a1 → a1 ≤ 63 → 0 ≤ a2 → a2 ≤ 15 → 0 ≤ x3 → x3 ≤ 2 → (-99) ≤ x4 → x4 ≤ 99 → 0 ≤ x5 → x5 ≤ 4 → ((-w0) + x3) ≤ (-1) → ((-w1) + x5) ≤ 0 → x4 ≤ 99 → ((-x4)) ≤ 99 → Mq (FC h) w0 w1 a1 a2 x3 → x4 = gt (FC h) x3 (ow w0 a1 x3) a2 → (∀ q, 0 ≤ q → q < x5 → gt (FC h) x3 q a2 ≤ x4) → ((-10) * x3 + (-x5) + 34) < N → jEv (jOk 1) none (fun _ => 0) c128_0 0 0 (fun v h' => ∃ r : Int, v = some (0, r) ∧ Gd G h' ∧ Kp [] h h' ∧ 0 ≤ r ∧ r ≤ 1 ∧ (r = 1 ↔ Mq (FC h) w0 w1 a1 a2 w0)) (c128_27, [(2, 26), (0, a1), (0, a2), (0, x3), (0, x4), (0, x5)], [], h1, 0, 0)) := by
  intro N
  induction N with
  | zero => exact ⟨fun h1 x3 j4 j5 g1 k1 b0 b1 b2 b3 b4 b5 b6 b7 hm => absurd hm (by omega), fun h1 x3 x4 x5 g1 k1 b0 b1 b2 b3 b4 b5 b6 b7 b8 b9 b10 b11 b12 b13 b14 b15 b16 hm => absurd hm (by omega)⟩
  | succ N ih =>
    refine ⟨?_, ?_⟩
    · intro h1 x3 j4 j5 g1 k1 b0 b1 b2 b3 b4 b5 b6 H0 hm
      refine ev_iload_n rfl ?_
      refine ev_aload_n rfl ?_
      refine g_getv (r := 26) (v := w0) g1 ad26 (by decide) ft9_3 (((k1.v (by decide)).trans ew0)) ?_
      refine ev_icmpge f128_63 (fun c75634 => ?_) (fun c75634 => ?_)
      · refine ev_iconst ?_
        exact ev_ret rfl (by decide) (by decide) ⟨_, rfl, g1, k1, by omega, by omega, ⟨fun _ s a b => H0 s a (by omega), fun _ => rfl⟩⟩
      · refine ev_aload_n rfl ?_
        refine ev_iload_n rfl ?_
        refine ev_aload_n rfl ?_
        refine ev_iload_n rfl ?_
        refine ev_iload_n rfl ?_
        refine ev_in (d := 0) (a := 0) (b := 0) (cd' := c123_0) (m := 3) (L0 := [(2, 26), (0, a1), (0, x3)]) (jcall_v (A := [(0, x3), (0, a1)]) (S' := [(0, x3), (2, 26)]) (r := 26) rfl (g1.lt ad26) (g1.tg ad26) (Nat.le_of_ble_eq_true rfl)) (by decide) ml123 pp123 (Nat.le_of_ble_eq_true rfl) rfl (by decide) (by decide) ?_
        refine ev_iload_n rfl ?_
        refine ev_iconst ?_
        refine ev_aload_n rfl ?_
        refine g_getv (r := 26) (v := w0) g1 ad26 (by decide) ft9_3 (((k1.v (by decide)).trans ew0)) ?_
        refine ev_iconst ?_
        refine ev_isub (r := (w0 - 1)) (by unfold w32; omega) ?_
        refine ev_iload_n rfl ?_
        refine ev_isub (r := (w0 + (-x3) - 1)) (by unfold w32; omega) ?_
        refine ev_imul (r := (2 * w0 + (-2) * x3 - 2)) (by unfold w32; omega) ?_
        refine g_ishrB (a := 63) (by omega) (by omega) (by decide) (fun v75635 ev75635 lv75635 uv75635 => ?_)
        refine ev_iconst ?_
        refine g_iandB (b := 3) (by omega) (by omega) (by decide) (fun v75636 ev75636 lv75636 uv75636 => ?_)
        refine ev_ret rfl (by decide) (by decide) ?_
        show jEv _ _ _ _ _ _ _ (_, [(2, 26), (0, a1), (0, a2), (0, x3), j4, j5], [(0, v75636), (0, x3), (2, 26)], _, _, _)
        refine ev_iload_n rfl ?_
        refine ev_call (jcall_v (A := [(0, a2), (0, v75636), (0, x3)]) (S' := []) (r := 26) rfl (g1.lt ad26) (g1.tg ad26) (Nat.le_of_ble_eq_true rfl)) (jOk_le (by decide) (t127 g1 (by omega) (by omega) (by omega) (by omega) (by omega) (by omega))) (by decide) (by decide) (fun w75637 h75637 q75637 => ?_)
        obtain ⟨v75638, rfl, g75637, kk75637, lv75638, uv75638, X75637⟩ := q75637
        have k75637 := k1.tr kk75637 (by decide)
        show jEv _ _ _ _ _ _ _ (_, [(2, 26), (0, a1), (0, a2), (0, x3), j4, j5], [(0, v75638)], _, _, _)
        refine ev_istore (L' := [(2, 26), (0, a1), (0, a2), (0, x3), (0, v75638), j5]) (Nat.le_of_ble_eq_true rfl) rfl ?_
        refine ev_iconst ?_
        refine ev_istore (L' := [(2, 26), (0, a1), (0, a2), (0, x3), (0, v75638), (0, 0)]) (Nat.le_of_ble_eq_true rfl) rfl ?_
        exact ih.2 _ _ _ _ g75637 k75637 (by omega) (by omega) (by omega) (by omega) (by omega) (by omega) (by omega) (by omega) (by omega) (by omega) (by omega) (by omega) (by omega) (by omega) H0 (by rw [(ow_of (n := w0) (s := x3) ev75635 ev75636 (by omega)), ← FC_kp k1]; exact X75637) (fun q a b => by omega) (by omega)
    · intro h1 x3 x4 x5 g1 k1 b0 b1 b2 b3 b4 b5 b6 b7 b8 b9 b10 b11 b12 b13 H0 H1 H2 hm
      refine ev_iload rfl ?_
      refine ev_aload_n rfl ?_
      refine g_getv (r := 26) (v := w1) g1 ad26 (by decide) ft9_7 (((k1.v (by decide)).trans ew1)) ?_
      refine ev_icmpge f128_57 (fun c75639 => ?_) (fun c75639 => ?_)
      · refine ev_iinc (w := (x3 + 1)) (L' := [(2, 26), (0, a1), (0, a2), (0, (x3 + 1)), (0, x4), (0, x5)]) rfl (by unfold w32; omega) rfl ?_
        refine ev_goto f128_2 ?_
        exact ih.1 _ _ _ _ g1 k1 (by omega) (by omega) (by omega) (by omega) (by omega) (by omega) (by omega) (Mq.add H0 (by omega) (fun q a b => by have z := H2 q a (by omega); rw [H1] at z; exact z)) (by omega)
      · refine ev_aload_n rfl ?_
        refine ev_iload_n rfl ?_
        refine ev_iload rfl ?_
        refine ev_iload_n rfl ?_
        refine ev_call (jcall_v (A := [(0, a2), (0, x5), (0, x3)]) (S' := []) (r := 26) rfl (g1.lt ad26) (g1.tg ad26) (Nat.le_of_ble_eq_true rfl)) (jOk_le (by decide) (t127 g1 (by omega) (by omega) (by omega) (by omega) (by omega) (by omega))) (by decide) (by decide) (fun w75640 h75640 q75640 => ?_)
        obtain ⟨v75641, rfl, g75640, kk75640, lv75641, uv75641, X75640⟩ := q75640
        have k75640 := k1.tr kk75640 (by decide)
        show jEv _ _ _ _ _ _ _ (_, [(2, 26), (0, a1), (0, a2), (0, x3), (0, x4), (0, x5)], [(0, v75641)], _, _, _)
        refine ev_iload rfl ?_
        refine ev_icmple f128_51 (fun c75642 => ?_) (fun c75642 => ?_)
        · refine ev_iinc (w := (x5 + 1)) (L' := [(2, 26), (0, a1), (0, a2), (0, x3), (0, x4), (0, (x5 + 1))]) rfl (by unfold w32; omega) rfl ?_
          refine ev_goto f128_27 ?_
          exact ih.2 _ _ _ _ g75640 k75640 (by omega) (by omega) (by omega) (by omega) (by omega) (by omega) (by omega) (by omega) (by omega) (by omega) (by omega) (by omega) (by omega) (by omega) H0 H1 (kq_add H2 (by omega) (by rw [← FC_kp k1, ← X75640]; omega)) (by omega)
        · refine ev_iconst ?_
          exact ev_ret rfl (by decide) (by decide) ⟨_, rfl, g75640, k75640, by omega, by omega, ⟨fun z => absurd z (by decide), fun z => absurd (z x3 (by omega) (by omega) x5 (by omega) (by omega)) (by rw [← H1, ← FC_kp k1, ← X75640]; omega)⟩⟩
set_option maxHeartbeats 4000000 in
theorem t128 {G : GH} {h : JH} (g : Gd G h) {a1 : Int} (la1 : 0 ≤ a1) (ua1 : a1 ≤ 63) {a2 : Int} (la2 : 0 ≤ a2) (ua2 : a2 ≤ 15) {w0 : Int} (ew0 : h.2.2 26 3 = w0) (lw0 : 0 ≤ w0) (uw0 : w0 ≤ 3) {w1 : Int} (ew1 : h.2.2 26 7 = w1) (lw1 : 0 ≤ w1) (uw1 : w1 ≤ 4) : jOk 2 0 0 128 [(2, 26), (0, a1), (0, a2)] h (fun v h' => ∃ r : Int, v = some (0, r) ∧ Gd G h' ∧ Kp [] h h' ∧ 0 ≤ r ∧ r ≤ 1 ∧ (r = 1 ↔ Mq (FC h) w0 w1 a1 a2 w0)) := by
  refine ⟨by decide, by rw [ml128]; exact Nat.le_of_ble_eq_true rfl, ?_⟩
  rw [ml128, pp128]
  show jEv _ none _ c128_0 0 0 _ (c128_0, [(2, 26), (0, a1), (0, a2), (9, 0), (9, 0), (9, 0)], [], h, 0, 0)
  have k0 := Kp.rf [] h
  refine ev_iconst ?_
  refine ev_istore_n (L' := [(2, 26), (0, a1), (0, a2), (0, 0), (9, 0), (9, 0)]) (Nat.le_of_ble_eq_true rfl) rfl ?_
  exact (t128_l la1 ua1 la2 ua2 ew0 lw0 uw0 ew1 lw1 uw1 80).1 _ _ _ _ g k0 (by omega) (by omega) (by omega) (by omega) (by omega) (by omega) (by omega) (fun s a b => by omega) (by omega)
set_option maxHeartbeats 4000000 in
theorem t122_l {G : GH} {h : JH} {a1 : Int} (la1 : 0 ≤ a1) (ua1 : a1 ≤ 99) {a2 : Int} (la2 : 0 ≤ a2) (ua2 : a2 ≤ 2) {w0 : Int} (ew0 : h.2.2 26 3 = w0) (lw0 : 0 ≤ w0) (uw0 : w0 ≤ 3) {w1 : Int} (ew1 : h.2.2 26 7 = w1) (lw1 : 0 ≤ w1) (uw1 : w1 ≤ 4) : ∀ N : Nat, (∀ (h1 : JH) (x3 x4 : Int) (j5 : AV), Gd G h1 → Kp [] h h1 → 0 ≤ a1 → a1 ≤ 99 → 0 ≤ a2 → a2 ≤ 2 → 0 ≤ x3 → x3 ≤ 64 → 0 ≤ x4 → x4 ≤ 64 → x4 ≤ 64 → (x3 + (-x4)) ≤ 0 → ((-x3)) ≤ 0 → ((-w0)) ≤ (-1) → ((-w1)) ≤ (-1) → Lq (PP (FC h) w0 w1 a1) a2 x4 x3 → x4 ≤ jshl 1 (2 * w0) → ((-x4) + 64) < N → jEv (jOk 3) none (fun _ => 0) c122_0 0 0 (fun v h' => ∃ r : Int, v = some (0, r) ∧ Gd G h' ∧ Kp [] h h' ∧ (-5) ≤ r ∧ r ≤ 64 ∧ HoS (FC h) w0 w1 a1 a2 r) (c122_22, [(2, 26), (0, a1), (0, a2), (0, x3), (0, x4), j5], [], h1, 0, 0)) := by
  intro N
  induction N with
  | zero => exact fun h1 x3 x4 j5 g1 k1 b0 b1 b2 b3 b4 b5 b6 b7 b8 b9 b10 b11 b12 b13 b14 hm => absurd hm (by omega)
  | succ N ih =>
    show _
    intro h1 x3 x4 j5 g1 k1 b0 b1 b2 b3 b4 b5 b6 b7 b8 b9 b10 b11 b12 H0 H1 hm
    refine ev_iload rfl ?_
    refine ev_iconst ?_
    refine ev_iconst ?_
    refine ev_aload_n rfl ?_
    refine g_getv (r := 26) (v := w0) g1 ad26 (by decide) ft9_3 (((k1.v (by decide)).trans ew0)) ?_
    refine ev_imul (r := (2 * w0)) (by unfold w32; omega) ?_
    refine g_ishlB (a' := 1) (a := 1) (b := 6) (hi := 64) (by omega) (by omega) (by omega) (by omega) (by decide) (by decide) (fun v76062 ev76062 lv76062 uv76062 => ?_)
    refine ev_icmpge f122_90 (fun c76063 => ?_) (fun c76063 => ?_)
    · refine ev_iload_n rfl ?_
      refine ev_ifne f122_98 (fun c76064 => ?_) (fun c76064 => ?_)
      · refine ev_bipush ?_
        exact ev_ret rfl (by decide) (by decide) ⟨_, rfl, g1, k1, by omega, by omega, H0.end (by omega) (by omega) (by rw [ev76062]; omega) (by omega) (by split <;> omega)⟩
      · refine ev_iload_n rfl ?_
        refine ev_goto f122_100 ?_
        exact ev_ret rfl (by decide) (by decide) ⟨_, rfl, g1, k1, by omega, by omega, H0.end (by omega) (by omega) (by rw [ev76062]; omega) (by omega) (by split <;> omega)⟩
    · refine ev_aload_n rfl ?_
      refine ev_iload rfl ?_
      refine ev_call (jcall_v (A := [(0, x4)]) (S' := []) (r := 26) rfl (g1.lt ad26) (g1.tg ad26) (Nat.le_of_ble_eq_true rfl)) (jOk_le (by decide) (t124 g1 (by omega) (by omega) (((k1.v (by decide)).trans ew0)) (by omega) (by omega) (((k1.v (by decide)).trans ew1)) (by omega) (by omega))) (by decide) (by decide) (fun w76065 h76065 q76065 => ?_)
      obtain ⟨v76066, rfl, g76065, kk76065, lv76066, uv76066, X76065⟩ := q76065
      have k76065 := k1.tr kk76065 (by decide)
      show jEv _ _ _ _ _ _ _ (_, [(2, 26), (0, a1), (0, a2), (0, x3), (0, x4), j5], [(0, v76066)], _, _, _)
      refine ev_ifeq f122_84 (fun c76067 => ?_) (fun c76067 => ?_)
      · refine ev_iinc (w := (x4 + 1)) (L' := [(2, 26), (0, a1), (0, a2), (0, x3), (0, (x4 + 1)), j5]) rfl (by unfold w32; omega) rfl ?_
        refine ev_goto f122_22 ?_
        exact ih _ _ _ _ g76065 k76065 (by omega) (by omega) (by omega) (by omega) (by omega) (by omega) (by omega) (by omega) (by omega) (by omega) (by omega) (by omega) (by omega) (H0.no (by omega) (fun z => by obtain ⟨t, t0, t1, t2⟩ := z; rw [show (((x4).toNat : Nat) : Int) = x4 by omega] at t2; exact absurd (X76065.mpr (fun s a b => (t2.1 s a b).1)) (by omega)) (by omega)) (by rw [ev76062]; omega) (by omega)
      · refine ev_aload_n rfl ?_
        refine ev_iload rfl ?_
        refine ev_iload_n rfl ?_
        refine ev_call (jcall_v (A := [(0, a1), (0, x4)]) (S' := []) (r := 26) rfl (g76065.lt ad26) (g76065.tg ad26) (Nat.le_of_ble_eq_true rfl)) (jOk_le (by decide) (t125 g76065 (by omega) (by omega) (by omega) (by omega) (((kk76065.v (by decide)).trans ((k1.v (by decide)).trans ew0))) (by omega) (by omega) (((kk76065.v (by decide)).trans ((k1.v (by decide)).trans ew1))) (by omega) (by omega))) (by decide) (by decide) (fun w76068 h76068 q76068 => ?_)
        obtain ⟨v76069, rfl, g76068, kk76068, lv76069, uv76069, X76068⟩ := q76068
        have k76068 := k76065.tr kk76068 (by decide)
        show jEv _ _ _ _ _ _ _ (_, [(2, 26), (0, a1), (0, a2), (0, x3), (0, x4), j5], [(0, v76069)], _, _, _)
        refine ev_istore (L' := [(2, 26), (0, a1), (0, a2), (0, x3), (0, x4), (0, v76069)]) (Nat.le_of_ble_eq_true rfl) rfl ?_
        refine ev_aload_n rfl ?_
        refine ev_iload rfl ?_
        refine ev_iload rfl ?_
        refine ev_call (jcall_v (A := [(0, v76069), (0, x4)]) (S' := []) (r := 26) rfl (g76068.lt ad26) (g76068.tg ad26) (Nat.le_of_ble_eq_true rfl)) (jOk_le (by decide) (t128 g76068 (by omega) (by omega) (by omega) (by omega) (((kk76068.v (by decide)).trans ((kk76065.v (by decide)).trans ((k1.v (by decide)).trans ew0)))) (by omega) (by omega) (((kk76068.v (by decide)).trans ((kk76065.v (by decide)).trans ((k1.v (by decide)).trans ew1)))) (by omega) (by omega))) (by decide) (by decide) (fun w76070 h76070 q76070 => ?_)
        obtain ⟨v76071, rfl, g76070, kk76070, lv76071, uv76071, X76070⟩ := q76070
        have k76070 := k76068.tr kk76070 (by decide)
        show jEv _ _ _ _ _ _ _ (_, [(2, 26), (0, a1), (0, a2), (0, x3), (0, x4), (0, v76069)], [(0, v76071)], _, _, _)
        refine ev_ifeq f122_84 (fun c76072 => ?_) (fun c76072 => ?_)
        · refine ev_iinc (w := (x4 + 1)) (L' := [(2, 26), (0, a1), (0, a2), (0, x3), (0, (x4 + 1)), (0, v76069)]) rfl (by unfold w32; omega) rfl ?_
          refine ev_goto f122_22 ?_
          exact ih _ _ _ _ g76070 k76070 (by omega) (by omega) (by omega) (by omega) (by omega) (by omega) (by omega) (by omega) (by omega) (by omega) (by omega) (by omega) (by omega) (H0.no (by omega) (fun z => by obtain ⟨t, t0, t1, t2⟩ := z; rw [show (((x4).toNat : Nat) : Int) = x4 by omega] at t2; have u := tk_uniq t2.2 ((tkc_kp k76065 X76068)).2 t0 t1 (by omega) ((tkc_kp k76065 X76068)).1 (by omega) (by omega); rw [u] at t2; exact absurd ((mqc_kp k76068 X76070).mpr (fun s a b => (t2.1 s a b).2)) (by omega)) (by omega)) (by rw [ev76062]; omega) (by omega)
        · refine ev_iload_n rfl ?_
          refine ev_ifle f122_81 (fun c76073 => ?_) (fun c76073 => ?_)
          · refine ev_iinc (w := (x3 + 1)) (L' := [(2, 26), (0, a1), (0, a2), (0, (x3 + 1)), (0, x4), (0, v76069)]) rfl (by unfold w32; omega) rfl ?_
            refine ev_iinc (w := (x4 + 1)) (L' := [(2, 26), (0, a1), (0, a2), (0, (x3 + 1)), (0, (x4 + 1)), (0, v76069)]) rfl (by unfold w32; omega) rfl ?_
            refine ev_goto f122_22 ?_
            exact ih _ _ _ _ g76070 k76070 (by omega) (by omega) (by omega) (by omega) (by omega) (by omega) (by omega) (by omega) (by omega) (by omega) (by omega) (by omega) (by omega) (H0.yes (by omega) ⟨_, by omega, ((tkc_kp k76065 X76068)).1, by rw [show (((x4).toNat : Nat) : Int) = x4 by omega]; exact ⟨mk_of (X76065.mp (by omega)) ((mqc_kp k76068 X76070).mp (by omega)), ((tkc_kp k76065 X76068)).2⟩⟩ (by omega) (by omega) (by omega)) (by rw [ev76062]; omega) (by omega)
          · refine ev_iload_n rfl ?_
            refine ev_iconst ?_
            refine ev_icmpne f122_78 (fun c76074 => ?_) (fun c76074 => ?_)
            · refine ev_iload rfl ?_
              exact ev_ret rfl (by decide) (by decide) ⟨_, rfl, g76070, k76070, by omega, by omega, H0.hit (y := v76069) (by omega) (by omega) (by omega) (by rw [ev76062]; omega) (by omega) ((tkc_kp k76065 X76068)).1 (by omega) ⟨mk_of (X76065.mp (by omega)) ((mqc_kp k76068 X76070).mp (by omega)), ((tkc_kp k76065 X76068)).2⟩ (by split <;> omega)⟩
            · refine ev_iload rfl ?_
              refine ev_goto f122_80 ?_
              exact ev_ret rfl (by decide) (by decide) ⟨_, rfl, g76070, k76070, by omega, by omega, H0.hit (y := v76069) (by omega) (by omega) (by omega) (by rw [ev76062]; omega) (by omega) ((tkc_kp k76065 X76068)).1 (by omega) ⟨mk_of (X76065.mp (by omega)) ((mqc_kp k76068 X76070).mp (by omega)), ((tkc_kp k76065 X76068)).2⟩ (by split <;> omega)⟩
set_option maxHeartbeats 4000000 in
theorem t122 {G : GH} {h : JH} (g : Gd G h) {a1 : Int} (la1 : 0 ≤ a1) (ua1 : a1 ≤ 99) {a2 : Int} (la2 : 0 ≤ a2) (ua2 : a2 ≤ 2) {w0 : Int} (ew0 : h.2.2 26 3 = w0) (lw0 : 0 ≤ w0) (uw0 : w0 ≤ 3) {w1 : Int} (ew1 : h.2.2 26 7 = w1) (lw1 : 0 ≤ w1) (uw1 : w1 ≤ 4) : jOk 4 0 0 122 [(2, 26), (0, a1), (0, a2)] h (fun v h' => ∃ r : Int, v = some (0, r) ∧ Gd G h' ∧ Kp [] h h' ∧ (-5) ≤ r ∧ r ≤ 64 ∧ HoS (FC h) w0 w1 a1 a2 r) := by
  refine ⟨by decide, by rw [ml122]; exact Nat.le_of_ble_eq_true rfl, ?_⟩
  rw [ml122, pp122]
  show jEv _ none _ c122_0 0 0 _ (c122_0, [(2, 26), (0, a1), (0, a2), (9, 0), (9, 0), (9, 0)], [], h, 0, 0)
  have k0 := Kp.rf [] h
  refine ev_aload_n rfl ?_
  refine g_getv (r := 26) (v := w0) g ad26 (by decide) ft9_3 (ew0) ?_
  refine ev_ifeq f122_14 (fun c76075 => ?_) (fun c76075 => ?_)
  · refine ev_bipush ?_
    exact ev_ret rfl (by decide) (by decide) ⟨_, rfl, g, k0, by omega, by omega, Or.inl ⟨by omega, rfl⟩⟩
  · refine ev_aload_n rfl ?_
    refine g_getv (r := 26) (v := w1) g ad26 (by decide) ft9_7 (ew1) ?_
    refine ev_ifne f122_17 (fun c76076 => ?_) (fun c76076 => ?_)
    · refine ev_iconst ?_
      refine ev_istore_n (L' := [(2, 26), (0, a1), (0, a2), (0, 0), (9, 0), (9, 0)]) (Nat.le_of_ble_eq_true rfl) rfl ?_
      refine ev_iconst ?_
      refine ev_istore (L' := [(2, 26), (0, a1), (0, a2), (0, 0), (0, 0), (9, 0)]) (Nat.le_of_ble_eq_true rfl) rfl ?_
      exact (t122_l la1 ua1 la2 ua2 ew0 lw0 uw0 ew1 lw1 uw1 130) _ _ _ _ g k0 (by omega) (by omega) (by omega) (by omega) (by omega) (by omega) (by omega) (by omega) (by omega) (by omega) (by omega) (by omega) (by omega) Lq.start (sh_pos (by omega) (by omega)) (by omega)
    · refine ev_bipush ?_
      exact ev_ret rfl (by decide) (by decide) ⟨_, rfl, g, k0, by omega, by omega, Or.inl ⟨by omega, rfl⟩⟩
set_option maxHeartbeats 4000000 in
theorem t202 {G : GH} {h : JH} (g : Gd G h) {a1 : Int} (la1 : (-2147483648) ≤ a1) (ua1 : a1 ≤ 2147483647) {a2 : Int} (la2 : (-2147483648) ≤ a2) (ua2 : a2 ≤ 2147483647) {w0 : Int} (ew0 : h.2.2 26 3 = w0) (lw0 : 0 ≤ w0) (uw0 : w0 ≤ 3) {w1 : Int} (ew1 : h.2.2 26 7 = w1) (lw1 : 0 ≤ w1) (uw1 : w1 ≤ 4) : jOk 5 0 0 202 [(2, 0), (0, a1), (0, a2)] h (fun v h' => ∃ r : Int, v = some (0, r) ∧ Gd G h' ∧ Kp [] h h' ∧ (-5) ≤ r ∧ r ≤ 64 ∧ HoA (FC h) w0 w1 a1 a2 r) := by
  refine ⟨by decide, by rw [ml202]; exact Nat.le_of_ble_eq_true rfl, ?_⟩
  rw [ml202, pp202]
  show jEv _ none _ c202_0 0 0 _ (c202_0, [(2, 0), (0, a1), (0, a2)], [], h, 0, 0)
  have k0 := Kp.rf [] h
  refine ev_iload_n rfl ?_
  refine ev_iflt f202_19 (fun c76089 => ?_) (fun c76089 => ?_)
  · refine ev_iconst ?_
    refine ev_goto f202_32 ?_
    exact ev_ret rfl (by decide) (by decide) ⟨_, rfl, g, k0, by omega, by omega, Or.inl ⟨by omega, rfl⟩⟩
  · refine ev_iload_n rfl ?_
    refine ev_bipush ?_
    refine ev_icmpgt f202_19 (fun c76090 => ?_) (fun c76090 => ?_)
    · refine ev_iconst ?_
      refine ev_goto f202_32 ?_
      exact ev_ret rfl (by decide) (by decide) ⟨_, rfl, g, k0, by omega, by omega, Or.inl ⟨by omega, rfl⟩⟩
    · refine ev_iload_n rfl ?_
      refine ev_iflt f202_19 (fun c76091 => ?_) (fun c76091 => ?_)
      · refine ev_iconst ?_
        refine ev_goto f202_32 ?_
        exact ev_ret rfl (by decide) (by decide) ⟨_, rfl, g, k0, by omega, by omega, Or.inl ⟨by omega, rfl⟩⟩
      · refine ev_iload_n rfl ?_
        refine ev_iconst ?_
        refine ev_icmple f202_23 (fun c76092 => ?_) (fun c76092 => ?_)
        · refine ev_aload_n rfl ?_
          refine g_getp (r := 0) (c := 26) g ad0 (by decide) (by decide) rf0_11 ft11_11 ?_
          refine ev_iload_n rfl ?_
          refine ev_iload_n rfl ?_
          refine ev_call (jcall_v (A := [(0, a2), (0, a1)]) (S' := []) (r := 26) rfl (g.lt ad26) (g.tg ad26) (Nat.le_of_ble_eq_true rfl)) (jOk_le (by decide) (t122 g (by omega) (by omega) (by omega) (by omega) (ew0) (by omega) (by omega) (ew1) (by omega) (by omega))) (by decide) (by decide) (fun w76093 h76093 q76093 => ?_)
          obtain ⟨v76094, rfl, g76093, kk76093, lv76094, uv76094, X76093⟩ := q76093
          have k76093 := k0.tr kk76093 (by decide)
          show jEv _ _ _ _ _ _ _ (_, [(2, 0), (0, a1), (0, a2)], [(0, v76094)], _, _, _)
          exact ev_ret rfl (by decide) (by decide) ⟨_, rfl, g76093, k76093, by omega, by omega, Or.inr ⟨by omega, X76093⟩⟩
        · refine ev_iconst ?_
          refine ev_goto f202_32 ?_
          exact ev_ret rfl (by decide) (by decide) ⟨_, rfl, g, k0, by omega, by omega, Or.inl ⟨by omega, rfl⟩⟩
set_option maxHeartbeats 4000000 in
theorem t342_l {G : GH} {h : JH} {a1 : Int} (la1 : 0 ≤ a1) (ua1 : a1 ≤ 3) {a2 : Int} (la2 : 0 ≤ a2) (ua2 : a2 ≤ 63) {a3 : Int} (la3 : 0 ≤ a3) (ua3 : a3 ≤ 99) {w0 : Int} (ew0 : h.2.2 42 47 = w0) (lw0 : 0 ≤ w0) (uw0 : w0 ≤ 3) : ∀ N : Nat, (∀ (h1 : JH) (x4 x5 x6 x7 : Int), Gd G h1 → Kp [] h h1 → 0 ≤ a1 → a1 ≤ 3 → 0 ≤ a2 → a2 ≤ 63 → 0 ≤ a3 → a3 ≤ 99 → 0 ≤ x4 → x4 ≤ 27 → 0 ≤ x5 → x5 ≤ 2800 → 0 ≤ x6 → x6 ≤ 99 → 0 ≤ x7 → x7 ≤ 3 → ((-w0) + x7) ≤ 0 → (x4 + (-9) * x7) ≤ 0 → ((-x4)) ≤ 0 → (x5 + (-891) * x7) ≤ 0 → ((-x5)) ≤ 0 → x6 ≤ 99 → ((-x6)) ≤ 0 → x4 = sW (FR h) w0 a2 a1 (x7).toNat → x5 = sU (FR h) w0 a2 a1 (x7).toNat → x6 = lW (FR h) (x7).toNat → ((-x7) + 3) < N → jEv (jOk 1) none (fun _ => 0) c342_0 0 0 (fun v h' => ∃ r : Int, v = some (0, r) ∧ Gd G h' ∧ Kp [] h h' ∧ 0 ≤ r ∧ r ≤ 1 ∧ (r = 1 ↔ TT (FR h) w0 a3 a2 a1)) (c342_13, [(2, 42), (0, a1), (0, a2), (0, a3), (0, x4), (0, x5), (0, x6), (0, x7)], [], h1, 0, 0)) := by
  intro N
  induction N with
  | zero => exact fun h1 x4 x5 x6 x7 g1 k1 b0 b1 b2 b3 b4 b5 b6 b7 b8 b9 b10 b11 b12 b13 b14 b15 b16 b17 b18 b19 b20 b21 b22 b23 hm => absurd hm (by omega)
  | succ N ih =>
    show _
    intro h1 x4 x5 x6 x7 g1 k1 b0 b1 b2 b3 b4 b5 b6 b7 b8 b9 b10 b11 b12 b13 b14 b15 b16 b17 b18 b19 b20 H0 H1 H2 hm
    refine ev_iload rfl ?_
    refine ev_aload_n rfl ?_
    refine g_getv (r := 42) (v := w0) g1 ad42 (by decide) ft12_47 (((k1.v (by decide)).trans ew0)) ?_
    refine ev_icmpge f342_96 (fun c76186 => ?_) (fun c76186 => ?_)
    · refine ev_iload rfl ?_
      refine ev_ifne f342_122 (fun c76187 => ?_) (fun c76187 => ?_)
      · refine ev_aload_n rfl ?_
        refine g_getp (r := 42) (c := 71) g1 ad42 (by decide) (by decide) rf42_52 ft12_52 ?_
        refine ev_iload_n rfl ?_
        refine g_iald g1 ad71 rt71 (by omega) (by omega) (fun v76188 ev76188 lv76188 uv76188 => ?_)
        refine ev_iload rfl ?_
        refine g_imulB (a := 99) (b := 27) (a' := 0) (b' := 1) (by omega) (by omega) (by omega) (by omega) (by decide) (lo := 0) (hi := 2673) (by decide) (by decide) (fun v76189 ev76189 lv76189 uv76189 => ?_)
        refine ev_iload rfl ?_
        refine ev_iload_n rfl ?_
        refine ev_iload rfl ?_
        refine g_imulB (a := 99) (b := 27) (a' := 0) (b' := 1) (by omega) (by omega) (by omega) (by omega) (by decide) (lo := 0) (hi := 2673) (by decide) (by decide) (fun v76190 ev76190 lv76190 uv76190 => ?_)
        refine ev_iadd (r := (v76190 + x5)) (by unfold w32; omega) ?_
        refine ev_icmpgt f342_145 (fun c76191 => ?_) (fun c76191 => ?_)
        · refine ev_iconst ?_
          exact ev_ret rfl (by decide) (by decide) ⟨_, rfl, g1, k1, by omega, by omega, by unfold TT; rw [show (w0).toNat = (x7).toNat by omega, ← H0, ← H1, ← H2, (show (FR h) 3 a1 = v76188 from vw_at (N := 4) k1 (fun _ => rfl) (ev76188) (by omega))]; rw [if_neg (by omega), ev76189, ev76190]; constructor <;> intro z <;> omega⟩
        · refine ev_iconst ?_
          refine ev_goto f342_146 ?_
          exact ev_ret rfl (by decide) (by decide) ⟨_, rfl, g1, k1, by omega, by omega, by unfold TT; rw [show (w0).toNat = (x7).toNat by omega, ← H0, ← H1, ← H2, (show (FR h) 3 a1 = v76188 from vw_at (N := 4) k1 (fun _ => rfl) (ev76188) (by omega))]; rw [if_neg (by omega), ev76189, ev76190]; constructor <;> intro z <;> omega⟩
      · refine ev_aload_n rfl ?_
        refine g_getp (r := 42) (c := 71) g1 ad42 (by decide) (by decide) rf42_52 ft12_52 ?_
        refine ev_iload_n rfl ?_
        refine g_iald g1 ad71 rt71 (by omega) (by omega) (fun v76192 ev76192 lv76192 uv76192 => ?_)
        refine ev_iload rfl ?_
        refine ev_iload_n rfl ?_
        refine ev_iadd (r := (a3 + x6)) (by unfold w32; omega) ?_
        refine ev_icmpgt f342_118 (fun c76193 => ?_) (fun c76193 => ?_)
        · refine ev_iconst ?_
          refine ev_goto f342_146 ?_
          exact ev_ret rfl (by decide) (by decide) ⟨_, rfl, g1, k1, by omega, by omega, by unfold TT; rw [show (w0).toNat = (x7).toNat by omega, ← H0, ← H1, ← H2, (show (FR h) 3 a1 = v76192 from vw_at (N := 4) k1 (fun _ => rfl) (ev76192) (by omega))]; rw [if_pos (by omega)]; constructor <;> intro z <;> omega⟩
        · refine ev_iconst ?_
          refine ev_goto f342_146 ?_
          exact ev_ret rfl (by decide) (by decide) ⟨_, rfl, g1, k1, by omega, by omega, by unfold TT; rw [show (w0).toNat = (x7).toNat by omega, ← H0, ← H1, ← H2, (show (FR h) 3 a1 = v76192 from vw_at (N := 4) k1 (fun _ => rfl) (ev76192) (by omega))]; rw [if_pos (by omega)]; constructor <;> intro z <;> omega⟩
    · refine ev_iload rfl ?_
      refine ev_aload_n rfl ?_
      refine g_getp (r := 42) (c := 69) g1 ad42 (by decide) (by decide) rf42_49 ft12_49 ?_
      refine ev_iload rfl ?_
      refine g_iald g1 ad69 rt69 (by omega) (by omega) (fun v76194 ev76194 lv76194 uv76194 => ?_)
      refine ev_in (d := 0) (a := 0) (b := 0) (cd' := c334_0) (m := 2) (L0 := [(0, x6), (0, v76194)]) (jcall_s (A := [(0, v76194), (0, x6)]) (S' := []) (by decide) rfl (Nat.le_of_ble_eq_true rfl)) (by decide) ml334 pp334 (Nat.le_of_ble_eq_true rfl) rfl (by decide) (by decide) ?_
      refine ev_iload_n rfl ?_
      refine ev_iload_n rfl ?_
      refine ev_icmpge f334_9 (fun c76195 => ?_) (fun c76195 => ?_)
      · refine ev_iload_n rfl ?_
        refine ev_ret rfl (by decide) (by decide) ?_
        show jEv _ _ _ _ _ _ _ (_, [(2, 42), (0, a1), (0, a2), (0, a3), (0, x4), (0, x5), (0, x6), (0, x7)], [(0, v76194)], _, _, _)
        refine ev_istore (L' := [(2, 42), (0, a1), (0, a2), (0, a3), (0, x4), (0, x5), (0, v76194), (0, x7)]) (Nat.le_of_ble_eq_true rfl) rfl ?_
        refine ev_iload_n rfl ?_
        refine ev_iconst ?_
        refine ev_aload_n rfl ?_
        refine g_getv (r := 42) (v := w0) g1 ad42 (by decide) ft12_47 (((k1.v (by decide)).trans ew0)) ?_
        refine ev_iconst ?_
        refine ev_isub (r := (w0 - 1)) (by unfold w32; omega) ?_
        refine ev_iload rfl ?_
        refine ev_isub (r := (w0 + (-x7) - 1)) (by unfold w32; omega) ?_
        refine ev_imul (r := (2 * w0 + (-2) * x7 - 2)) (by unfold w32; omega) ?_
        refine g_ishrB (a := 63) (by omega) (by omega) (by decide) (fun v76196 ev76196 lv76196 uv76196 => ?_)
        refine ev_iconst ?_
        refine g_iandB (b := 3) (by omega) (by omega) (by decide) (fun v76197 ev76197 lv76197 uv76197 => ?_)
        refine ev_iload_n rfl ?_
        refine ev_icmpeq f342_58 (fun c76198 => ?_) (fun c76198 => ?_)
        · refine ev_iload rfl ?_
          refine ev_aload_n rfl ?_
          refine g_getp (r := 42) (c := 68) g1 ad42 (by decide) (by decide) rf42_48 ft12_48 ?_
          refine ev_iload rfl ?_
          refine g_iald g1 ad68 rt68 (by omega) (by omega) (fun v76199 ev76199 lv76199 uv76199 => ?_)
          refine ev_iadd (r := (v76199 + x4)) (by unfold w32; omega) ?_
          refine ev_istore (L' := [(2, 42), (0, a1), (0, a2), (0, a3), (0, (v76199 + x4)), (0, x5), (0, v76194), (0, x7)]) (Nat.le_of_ble_eq_true rfl) rfl ?_
          refine ev_iload rfl ?_
          refine ev_aload_n rfl ?_
          refine g_getp (r := 42) (c := 68) g1 ad42 (by decide) (by decide) rf42_48 ft12_48 ?_
          refine ev_iload rfl ?_
          refine g_ialdv (v := v76199) g1 ad68 (by omega) (by omega) (ev76199) ?_
          refine ev_aload_n rfl ?_
          refine g_getp (r := 42) (c := 69) g1 ad42 (by decide) (by decide) rf42_49 ft12_49 ?_
          refine ev_iload rfl ?_
          refine g_ialdv (v := v76194) g1 ad69 (by omega) (by omega) (ev76194) ?_
          refine g_imulB (a := 9) (b := 99) (a' := 0) (b' := 0) (by omega) (by omega) (by omega) (by omega) (by decide) (lo := 0) (hi := 891) (by decide) (by decide) (fun v76200 ev76200 lv76200 uv76200 => ?_)
          refine ev_iadd (r := (v76200 + x5)) (by unfold w32; omega) ?_
          refine ev_istore (L' := [(2, 42), (0, a1), (0, a2), (0, a3), (0, (v76199 + x4)), (0, (v76200 + x5)), (0, v76194), (0, x7)]) (Nat.le_of_ble_eq_true rfl) rfl ?_
          refine ev_iinc (w := (x7 + 1)) (L' := [(2, 42), (0, a1), (0, a2), (0, a3), (0, (v76199 + x4)), (0, (v76200 + x5)), (0, v76194), (0, (x7 + 1))]) rfl (by unfold w32; omega) rfl ?_
          refine ev_goto f342_13 ?_
          exact ih _ _ _ _ _ g1 k1 (by omega) (by omega) (by omega) (by omega) (by omega) (by omega) (by omega) (by omega) (by omega) (by omega) (by omega) (by omega) (by omega) (by omega) (by omega) (by omega) (by omega) (by omega) (by omega) (by omega) (by omega) (s_add (q := a1) (x' := (v76199 + x4)) (y' := (v76200 + x5)) (t := x7 + 1) H0 H1 (by omega) ((ow_of (n := w0) (s := x7) ev76196 ev76197 (by omega)).trans (by omega)) (show (FR h) 0 x7 = v76199 from vw_at (N := 3) k1 (fun _ => rfl) (ev76199) (by omega)) (show (FR h) 1 x7 = v76194 from vw_at (N := 3) k1 (fun _ => rfl) (ev76194) (by omega)) ev76200 (by omega) (by omega) (by omega)).1 (s_add (q := a1) (x' := (v76199 + x4)) (y' := (v76200 + x5)) (t := x7 + 1) H0 H1 (by omega) ((ow_of (n := w0) (s := x7) ev76196 ev76197 (by omega)).trans (by omega)) (show (FR h) 0 x7 = v76199 from vw_at (N := 3) k1 (fun _ => rfl) (ev76199) (by omega)) (show (FR h) 1 x7 = v76194 from vw_at (N := 3) k1 (fun _ => rfl) (ev76194) (by omega)) ev76200 (by omega) (by omega) (by omega)).2 (l_add (v := v76194) H2 (by omega) (show (FR h) 1 x7 = v76194 from vw_at (N := 3) k1 (fun _ => rfl) (ev76194) (by omega)) (by omega) (by split <;> omega)) (by omega)
        · refine ev_goto f342_90 ?_
          refine ev_iinc (w := (x7 + 1)) (L' := [(2, 42), (0, a1), (0, a2), (0, a3), (0, x4), (0, x5), (0, v76194), (0, (x7 + 1))]) rfl (by unfold w32; omega) rfl ?_
          refine ev_goto f342_13 ?_
          exact ih _ _ _ _ _ g1 k1 (by omega) (by omega) (by omega) (by omega) (by omega) (by omega) (by omega) (by omega) (by omega) (by omega) (by omega) (by omega) (by omega) (by omega) (by omega) (by omega) (by omega) (by omega) (by omega) (by omega) (by omega) (s_no (q := a1) (t := x7 + 1) H0 H1 (by omega) (fun z => absurd ((ow_of (n := w0) (s := x7) ev76196 ev76197 (by omega)).symm.trans z) (by omega)) (by omega)).1 (s_no (q := a1) (t := x7 + 1) H0 H1 (by omega) (fun z => absurd ((ow_of (n := w0) (s := x7) ev76196 ev76197 (by omega)).symm.trans z) (by omega)) (by omega)).2 (l_add (v := v76194) H2 (by omega) (show (FR h) 1 x7 = v76194 from vw_at (N := 3) k1 (fun _ => rfl) (ev76194) (by omega)) (by omega) (by split <;> omega)) (by omega)
      · refine ev_iload_n rfl ?_
        refine ev_goto f334_10 ?_
        refine ev_ret rfl (by decide) (by decide) ?_
        show jEv _ _ _ _ _ _ _ (_, [(2, 42), (0, a1), (0, a2), (0, a3), (0, x4), (0, x5), (0, x6), (0, x7)], [(0, x6)], _, _, _)
        refine ev_istore (L' := [(2, 42), (0, a1), (0, a2), (0, a3), (0, x4), (0, x5), (0, x6), (0, x7)]) (Nat.le_of_ble_eq_true rfl) rfl ?_
        refine ev_iload_n rfl ?_
        refine ev_iconst ?_
        refine ev_aload_n rfl ?_
        refine g_getv (r := 42) (v := w0) g1 ad42 (by decide) ft12_47 (((k1.v (by decide)).trans ew0)) ?_
        refine ev_iconst ?_
        refine ev_isub (r := (w0 - 1)) (by unfold w32; omega) ?_
        refine ev_iload rfl ?_
        refine ev_isub (r := (w0 + (-x7) - 1)) (by unfold w32; omega) ?_
        refine ev_imul (r := (2 * w0 + (-2) * x7 - 2)) (by unfold w32; omega) ?_
        refine g_ishrB (a := 63) (by omega) (by omega) (by decide) (fun v76201 ev76201 lv76201 uv76201 => ?_)
        refine ev_iconst ?_
        refine g_iandB (b := 3) (by omega) (by omega) (by decide) (fun v76202 ev76202 lv76202 uv76202 => ?_)
        refine ev_iload_n rfl ?_
        refine ev_icmpeq f342_58 (fun c76203 => ?_) (fun c76203 => ?_)
        · refine ev_iload rfl ?_
          refine ev_aload_n rfl ?_
          refine g_getp (r := 42) (c := 68) g1 ad42 (by decide) (by decide) rf42_48 ft12_48 ?_
          refine ev_iload rfl ?_
          refine g_iald g1 ad68 rt68 (by omega) (by omega) (fun v76204 ev76204 lv76204 uv76204 => ?_)
          refine ev_iadd (r := (v76204 + x4)) (by unfold w32; omega) ?_
          refine ev_istore (L' := [(2, 42), (0, a1), (0, a2), (0, a3), (0, (v76204 + x4)), (0, x5), (0, x6), (0, x7)]) (Nat.le_of_ble_eq_true rfl) rfl ?_
          refine ev_iload rfl ?_
          refine ev_aload_n rfl ?_
          refine g_getp (r := 42) (c := 68) g1 ad42 (by decide) (by decide) rf42_48 ft12_48 ?_
          refine ev_iload rfl ?_
          refine g_ialdv (v := v76204) g1 ad68 (by omega) (by omega) (ev76204) ?_
          refine ev_aload_n rfl ?_
          refine g_getp (r := 42) (c := 69) g1 ad42 (by decide) (by decide) rf42_49 ft12_49 ?_
          refine ev_iload rfl ?_
          refine g_ialdv (v := v76194) g1 ad69 (by omega) (by omega) (ev76194) ?_
          refine g_imulB (a := 9) (b := 99) (a' := 0) (b' := 1) (by omega) (by omega) (by omega) (by omega) (by decide) (lo := 0) (hi := 891) (by decide) (by decide) (fun v76205 ev76205 lv76205 uv76205 => ?_)
          refine ev_iadd (r := (v76205 + x5)) (by unfold w32; omega) ?_
          refine ev_istore (L' := [(2, 42), (0, a1), (0, a2), (0, a3), (0, (v76204 + x4)), (0, (v76205 + x5)), (0, x6), (0, x7)]) (Nat.le_of_ble_eq_true rfl) rfl ?_
          refine ev_iinc (w := (x7 + 1)) (L' := [(2, 42), (0, a1), (0, a2), (0, a3), (0, (v76204 + x4)), (0, (v76205 + x5)), (0, x6), (0, (x7 + 1))]) rfl (by unfold w32; omega) rfl ?_
          refine ev_goto f342_13 ?_
          exact ih _ _ _ _ _ g1 k1 (by omega) (by omega) (by omega) (by omega) (by omega) (by omega) (by omega) (by omega) (by omega) (by omega) (by omega) (by omega) (by omega) (by omega) (by omega) (by omega) (by omega) (by omega) (by omega) (by omega) (by omega) (s_add (q := a1) (x' := (v76204 + x4)) (y' := (v76205 + x5)) (t := x7 + 1) H0 H1 (by omega) ((ow_of (n := w0) (s := x7) ev76201 ev76202 (by omega)).trans (by omega)) (show (FR h) 0 x7 = v76204 from vw_at (N := 3) k1 (fun _ => rfl) (ev76204) (by omega)) (show (FR h) 1 x7 = v76194 from vw_at (N := 3) k1 (fun _ => rfl) (ev76194) (by omega)) ev76205 (by omega) (by omega) (by omega)).1 (s_add (q := a1) (x' := (v76204 + x4)) (y' := (v76205 + x5)) (t := x7 + 1) H0 H1 (by omega) ((ow_of (n := w0) (s := x7) ev76201 ev76202 (by omega)).trans (by omega)) (show (FR h) 0 x7 = v76204 from vw_at (N := 3) k1 (fun _ => rfl) (ev76204) (by omega)) (show (FR h) 1 x7 = v76194 from vw_at (N := 3) k1 (fun _ => rfl) (ev76194) (by omega)) ev76205 (by omega) (by omega) (by omega)).2 (l_add (v := v76194) H2 (by omega) (show (FR h) 1 x7 = v76194 from vw_at (N := 3) k1 (fun _ => rfl) (ev76194) (by omega)) (by omega) (by split <;> omega)) (by omega)
        · refine ev_goto f342_90 ?_
          refine ev_iinc (w := (x7 + 1)) (L' := [(2, 42), (0, a1), (0, a2), (0, a3), (0, x4), (0, x5), (0, x6), (0, (x7 + 1))]) rfl (by unfold w32; omega) rfl ?_
          refine ev_goto f342_13 ?_
          exact ih _ _ _ _ _ g1 k1 (by omega) (by omega) (by omega) (by omega) (by omega) (by omega) (by omega) (by omega) (by omega) (by omega) (by omega) (by omega) (by omega) (by omega) (by omega) (by omega) (by omega) (by omega) (by omega) (by omega) (by omega) (s_no (q := a1) (t := x7 + 1) H0 H1 (by omega) (fun z => absurd ((ow_of (n := w0) (s := x7) ev76201 ev76202 (by omega)).symm.trans z) (by omega)) (by omega)).1 (s_no (q := a1) (t := x7 + 1) H0 H1 (by omega) (fun z => absurd ((ow_of (n := w0) (s := x7) ev76201 ev76202 (by omega)).symm.trans z) (by omega)) (by omega)).2 (l_add (v := v76194) H2 (by omega) (show (FR h) 1 x7 = v76194 from vw_at (N := 3) k1 (fun _ => rfl) (ev76194) (by omega)) (by omega) (by split <;> omega)) (by omega)
set_option maxHeartbeats 4000000 in
theorem t342 {G : GH} {h : JH} (g : Gd G h) {a1 : Int} (la1 : 0 ≤ a1) (ua1 : a1 ≤ 3) {a2 : Int} (la2 : 0 ≤ a2) (ua2 : a2 ≤ 63) {a3 : Int} (la3 : 0 ≤ a3) (ua3 : a3 ≤ 99) {w0 : Int} (ew0 : h.2.2 42 47 = w0) (lw0 : 0 ≤ w0) (uw0 : w0 ≤ 3) : jOk 2 0 0 342 [(2, 42), (0, a1), (0, a2), (0, a3)] h (fun v h' => ∃ r : Int, v = some (0, r) ∧ Gd G h' ∧ Kp [] h h' ∧ 0 ≤ r ∧ r ≤ 1 ∧ (r = 1 ↔ TT (FR h) w0 a3 a2 a1)) := by
  refine ⟨by decide, by rw [ml342]; exact Nat.le_of_ble_eq_true rfl, ?_⟩
  rw [ml342, pp342]
  show jEv _ none _ c342_0 0 0 _ (c342_0, [(2, 42), (0, a1), (0, a2), (0, a3), (9, 0), (9, 0), (9, 0), (9, 0)], [], h, 0, 0)
  have k0 := Kp.rf [] h
  refine ev_iconst ?_
  refine ev_istore (L' := [(2, 42), (0, a1), (0, a2), (0, a3), (0, 0), (9, 0), (9, 0), (9, 0)]) (Nat.le_of_ble_eq_true rfl) rfl ?_
  refine ev_iconst ?_
  refine ev_istore (L' := [(2, 42), (0, a1), (0, a2), (0, a3), (0, 0), (0, 0), (9, 0), (9, 0)]) (Nat.le_of_ble_eq_true rfl) rfl ?_
  refine ev_bipush ?_
  refine ev_istore (L' := [(2, 42), (0, a1), (0, a2), (0, a3), (0, 0), (0, 0), (0, 99), (9, 0)]) (Nat.le_of_ble_eq_true rfl) rfl ?_
  refine ev_iconst ?_
  refine ev_istore (L' := [(2, 42), (0, a1), (0, a2), (0, a3), (0, 0), (0, 0), (0, 99), (0, 0)]) (Nat.le_of_ble_eq_true rfl) rfl ?_
  exact (t342_l la1 ua1 la2 ua2 la3 ua3 ew0 lw0 uw0 8) _ _ _ _ _ g k0 (by omega) (by omega) (by omega) (by omega) (by omega) (by omega) (by omega) (by omega) (by omega) (by omega) (by omega) (by omega) (by omega) (by omega) (by omega) (by omega) (by omega) (by omega) (by omega) (by omega) (by omega) rfl rfl rfl (by omega)
set_option maxHeartbeats 4000000 in
theorem t343_l {G : GH} {h : JH} {a1 : Int} (la1 : 0 ≤ a1) (ua1 : a1 ≤ 63) {a2 : Int} (la2 : 0 ≤ a2) (ua2 : a2 ≤ 15) {a3 : Int} (la3 : 0 ≤ a3) (ua3 : a3 ≤ 99) {w0 : Int} (ew0 : h.2.2 42 47 = w0) (lw0 : 0 ≤ w0) (uw0 : w0 ≤ 3) {w1 : Int} (ew1 : h.2.2 42 51 = w1) (lw1 : 0 ≤ w1) (uw1 : w1 ≤ 4) : ∀ N : Nat, (∀ (h1 : JH) (x4 : Int) (j5 j6 : AV), Gd G h1 → Kp [] h h1 → 0 ≤ a1 → a1 ≤ 63 → 0 ≤ a2 → a2 ≤ 15 → 0 ≤ a3 → a3 ≤ 99 → 0 ≤ x4 → x4 ≤ 3 → ((-w0) + x4) ≤ 0 → Mk (FR h) w0 w1 a1 a2 x4 → ((-10) * x4 + 85) < N → jEv (jOk 2) none (fun _ => 0) c343_0 0 0 (fun v h' => ∃ r : Int, v = some (0, r) ∧ Gd G h' ∧ Kp [] h h' ∧ 0 ≤ r ∧ r ≤ 1 ∧ (r = 1 ↔ HH (FR h) w0 w1 a3 a1 a2)) (c343_3, [(2, 42), (0, a1), (0, a2), (0, a3), (0, x4), j5, j6], [], h1, 0, 0)) ∧ (∀ (h1 : JH) (x4 x5 x6 : Int), Gd G h1 → Kp [] h h1 → 0 ≤ a1 → a1 ≤ 63 → 0 ≤ a2 → a2 ≤ 15 → 0 ≤ a3 → a3 ≤ 99 → 0 ≤ x4 → x4 ≤ 2 → 0 ≤ x5 → x5 ≤ 3 → 0 ≤ x6 → x6 ≤ 4 → ((-w0) + x4) ≤ (-1) → ((-w1) + x5) ≤ (-1) → x5 ≤ 3 → ((-x5)) ≤ 0 → ((-w1) + x6) ≤ 0 → Mk (FR h) w0 w1 a1 a2 x4 → x5 = ow w0 a1 x4 → True → (∀ q, 0 ≤ q → q < x6 → gt (FR h) x4 q a2 ≤ gt (FR h) x4 x5 a2) → ((-10) * x4 + (-x6) + 84) < N → jEv (jOk 2) none (fun _ => 0) c343_0 0 0 (fun v h' => ∃ r : Int, v = some (0, r) ∧ Gd G h' ∧ Kp [] h h' ∧ 0 ≤ r ∧ r ≤ 1 ∧ (r = 1 ↔ HH (FR h) w0 w1 a3 a1 a2)) (c343_43, [(2, 42), (0, a1), (0, a2), (0, a3), (0, x4), (0, x5), (0, x6)], [], h1, 0, 0)) ∧ (∀ (h1 : JH) (x4 : Int) (j5 j6 : AV), Gd G h1 → Kp [] h h1 → 0 ≤ a1 → a1 ≤ 63 → 0 ≤ a2 → a2 ≤ 15 → 0 ≤ a3 → a3 ≤ 99 → 0 ≤ x4 → x4 ≤ 4 → ((-w1) + x4) ≤ 0 → Mk (FR h) w0 w1 a1 a2 w0 → Tk (FR h) w0 a3 a1 a2 x4 → ((-10) * x4 + 45) < N → jEv (jOk 2) none (fun _ => 0) c343_0 0 0 (fun v h' => ∃ r : Int, v = some (0, r) ∧ Gd G h' ∧ Kp [] h h' ∧ 0 ≤ r ∧ r ≤ 1 ∧ (r = 1 ↔ HH (FR h) w0 w1 a3 a1 a2)) (c343_90, [(2, 42), (0, a1), (0, a2), (0, a3), (0, x4), j5, j6], [], h1, 0, 0)) := by
  intro N
  induction N with
  | zero => exact ⟨fun h1 x4 j5 j6 g1 k1 b0 b1 b2 b3 b4 b5 b6 b7 b8 b9 hm => absurd hm (by omega), fun h1 x4 x5 x6 g1 k1 b0 b1 b2 b3 b4 b5 b6 b7 b8 b9 b10 b11 b12 b13 b14 b15 b16 b17 b18 b19 b20 hm => absurd hm (by omega), fun h1 x4 j5 j6 g1 k1 b0 b1 b2 b3 b4 b5 b6 b7 b8 b9 b10 hm => absurd hm (by omega)⟩
  | succ N ih =>
    refine ⟨?_, ?_, ?_⟩
    · intro h1 x4 j5 j6 g1 k1 b0 b1 b2 b3 b4 b5 b6 b7 b8 H0 hm
      refine ev_iload rfl ?_
      refine ev_aload_n rfl ?_
      refine g_getv (r := 42) (v := w0) g1 ad42 (by decide) ft12_47 (((k1.v (by decide)).trans ew0)) ?_
      refine ev_icmpge f343_87 (fun c76309 => ?_) (fun c76309 => ?_)
      · refine ev_iconst ?_
        refine ev_istore (L' := [(2, 42), (0, a1), (0, a2), (0, a3), (0, 0), j5, j6]) (Nat.le_of_ble_eq_true rfl) rfl ?_
        exact ih.2.2 _ _ _ _ g1 k1 (by omega) (by omega) (by omega) (by omega) (by omega) (by omega) (by omega) (by omega) (by omega) (fun s a b => H0 s a (by omega)) (fun q a b => by omega) (by omega)
      · refine ev_iload_n rfl ?_
        refine ev_iconst ?_
        refine ev_aload_n rfl ?_
        refine g_getv (r := 42) (v := w0) g1 ad42 (by decide) ft12_47 (((k1.v (by decide)).trans ew0)) ?_
        refine ev_iconst ?_
        refine ev_isub (r := (w0 - 1)) (by unfold w32; omega) ?_
        refine ev_iload rfl ?_
        refine ev_isub (r := (w0 + (-x4) - 1)) (by unfold w32; omega) ?_
        refine ev_imul (r := (2 * w0 + (-2) * x4 - 2)) (by unfold w32; omega) ?_
        refine g_ishrB (a := 63) (by omega) (by omega) (by decide) (fun v76310 ev76310 lv76310 uv76310 => ?_)
        refine ev_iconst ?_
        refine g_iandB (b := 3) (by omega) (by omega) (by decide) (fun v76311 ev76311 lv76311 uv76311 => ?_)
        refine ev_istore (L' := [(2, 42), (0, a1), (0, a2), (0, a3), (0, x4), (0, v76311), j6]) (Nat.le_of_ble_eq_true rfl) rfl ?_
        refine ev_iload rfl ?_
        refine ev_aload_n rfl ?_
        refine g_getv (r := 42) (v := w1) g1 ad42 (by decide) ft12_51 (((k1.v (by decide)).trans ew1)) ?_
        refine ev_icmplt f343_40 (fun c76312 => ?_) (fun c76312 => ?_)
        · refine ev_iconst ?_
          refine ev_istore (L' := [(2, 42), (0, a1), (0, a2), (0, a3), (0, x4), (0, v76311), (0, 0)]) (Nat.le_of_ble_eq_true rfl) rfl ?_
          exact ih.2.1 _ _ _ _ g1 k1 (by omega) (by omega) (by omega) (by omega) (by omega) (by omega) (by omega) (by omega) (by omega) (by omega) (by omega) (by omega) (by omega) (by omega) (by omega) (by omega) (by omega) H0 ((ow_of (n := w0) (s := x4) ev76310 ev76311 (by omega))).symm trivial (fun q a b => by omega) (by omega)
        · refine ev_iconst ?_
          exact ev_ret rfl (by decide) (by decide) ⟨_, rfl, g1, k1, by omega, by omega, ⟨fun z => absurd z (by decide), fun z => absurd (z.1 x4 (by omega) (by omega)).1 (by rw [(ow_of (n := w0) (s := x4) ev76310 ev76311 (by omega))]; omega)⟩⟩
    · intro h1 x4 x5 x6 g1 k1 b0 b1 b2 b3 b4 b5 b6 b7 b8 b9 b10 b11 b12 b13 b14 b15 b16 H0 H1 H2 H3 hm
      refine ev_iload rfl ?_
      refine ev_aload_n rfl ?_
      refine g_getv (r := 42) (v := w1) g1 ad42 (by decide) ft12_51 (((k1.v (by decide)).trans ew1)) ?_
      refine ev_icmpge f343_81 (fun c76313 => ?_) (fun c76313 => ?_)
      · refine ev_iinc (w := (x4 + 1)) (L' := [(2, 42), (0, a1), (0, a2), (0, a3), (0, (x4 + 1)), (0, x5), (0, x6)]) rfl (by unfold w32; omega) rfl ?_
        refine ev_goto f343_3 ?_
        exact ih.1 _ _ _ _ g1 k1 (by omega) (by omega) (by omega) (by omega) (by omega) (by omega) (by omega) (by omega) (by omega) (H0.add (by omega) ⟨by rw [← H1]; omega, fun q a b => by rw [← H1]; exact H3 q a (by omega)⟩) (by omega)
      · refine ev_aload_n rfl ?_
        refine ev_iload rfl ?_
        refine ev_iload rfl ?_
        refine ev_iload_n rfl ?_
        refine ev_call (jcall_v (A := [(0, a2), (0, x6), (0, x4)]) (S' := []) (r := 42) rfl (g1.lt ad42) (g1.tg ad42) (Nat.le_of_ble_eq_true rfl)) (jOk_le (by decide) (t341 g1 (by omega) (by omega) (by omega) (by omega) (by omega) (by omega))) (by decide) (by decide) (fun w76314 h76314 q76314 => ?_)
        obtain ⟨v76315, rfl, g76314, kk76314, lv76315, uv76315, X76314⟩ := q76314
        have k76314 := k1.tr kk76314 (by decide)
        show jEv _ _ _ _ _ _ _ (_, [(2, 42), (0, a1), (0, a2), (0, a3), (0, x4), (0, x5), (0, x6)], [(0, v76315)], _, _, _)
        refine ev_aload_n rfl ?_
        refine ev_iload rfl ?_
        refine ev_iload rfl ?_
        refine ev_iload_n rfl ?_
        refine ev_call (jcall_v (A := [(0, a2), (0, x5), (0, x4)]) (S' := [(0, v76315)]) (r := 42) rfl (g76314.lt ad42) (g76314.tg ad42) (Nat.le_of_ble_eq_true rfl)) (jOk_le (by decide) (t341 g76314 (by omega) (by omega) (by omega) (by omega) (by omega) (by omega))) (by decide) (by decide) (fun w76316 h76316 q76316 => ?_)
        obtain ⟨v76317, rfl, g76316, kk76316, lv76317, uv76317, X76316⟩ := q76316
        have k76316 := k76314.tr kk76316 (by decide)
        show jEv _ _ _ _ _ _ _ (_, [(2, 42), (0, a1), (0, a2), (0, a3), (0, x4), (0, x5), (0, x6)], [(0, v76317), (0, v76315)], _, _, _)
        refine ev_icmple f343_75 (fun c76318 => ?_) (fun c76318 => ?_)
        · refine ev_iinc (w := (x6 + 1)) (L' := [(2, 42), (0, a1), (0, a2), (0, a3), (0, x4), (0, x5), (0, (x6 + 1))]) rfl (by unfold w32; omega) rfl ?_
          refine ev_goto f343_43 ?_
          exact ih.2.1 _ _ _ _ g76316 k76316 (by omega) (by omega) (by omega) (by omega) (by omega) (by omega) (by omega) (by omega) (by omega) (by omega) (by omega) (by omega) (by omega) (by omega) (by omega) (by omega) (by omega) H0 H1 trivial (kq_add2 H3 (by omega) (frg_kp k1 X76314) (frg_kp k76314 X76316) (by omega)) (by omega)
        · refine ev_iconst ?_
          exact ev_ret rfl (by decide) (by decide) ⟨_, rfl, g76316, k76316, by omega, by omega, ⟨fun z => absurd z (by decide), fun z => absurd ((z.1 x4 (by omega) (by omega)).2 x6 (by omega) (by omega)) (by rw [← H1, ← (frg_kp k1 X76314), ← (frg_kp k76314 X76316)]; omega)⟩⟩
    · intro h1 x4 j5 j6 g1 k1 b0 b1 b2 b3 b4 b5 b6 b7 b8 H0 H1 hm
      refine ev_iload rfl ?_
      refine ev_aload_n rfl ?_
      refine g_getv (r := 42) (v := w1) g1 ad42 (by decide) ft12_51 (((k1.v (by decide)).trans ew1)) ?_
      refine ev_icmpge f343_133 (fun c76319 => ?_) (fun c76319 => ?_)
      · refine ev_iconst ?_
        exact ev_ret rfl (by decide) (by decide) ⟨_, rfl, g1, k1, by omega, by omega, ⟨fun _ => ⟨H0, fun q a b => H1 q a (by omega)⟩, fun _ => rfl⟩⟩
      · refine ev_aload_n rfl ?_
        refine ev_iload rfl ?_
        refine ev_iload_n rfl ?_
        refine ev_iload_n rfl ?_
        refine ev_call (jcall_v (A := [(0, a3), (0, a1), (0, x4)]) (S' := []) (r := 42) rfl (g1.lt ad42) (g1.tg ad42) (Nat.le_of_ble_eq_true rfl)) (jOk_le (by decide) (t342 g1 (by omega) (by omega) (by omega) (by omega) (by omega) (by omega) (((k1.v (by decide)).trans ew0)) (by omega) (by omega))) (by decide) (by decide) (fun w76320 h76320 q76320 => ?_)
        obtain ⟨v76321, rfl, g76320, kk76320, lv76321, uv76321, X76320⟩ := q76320
        have k76320 := k1.tr kk76320 (by decide)
        show jEv _ _ _ _ _ _ _ (_, [(2, 42), (0, a1), (0, a2), (0, a3), (0, x4), j5, j6], [(0, v76321)], _, _, _)
        refine ev_iload_n rfl ?_
        refine ev_iload rfl ?_
        refine g_ishrB (a := 15) (by omega) (by omega) (by decide) (fun v76322 ev76322 lv76322 uv76322 => ?_)
        refine ev_iconst ?_
        refine g_iandB (b := 1) (by omega) (by omega) (by decide) (fun v76323 ev76323 lv76323 uv76323 => ?_)
        refine ev_iconst ?_
        refine ev_icmpne f343_121 (fun c76324 => ?_) (fun c76324 => ?_)
        · refine ev_iconst ?_
          refine ev_icmpeq f343_127 (fun c76325 => ?_) (fun c76325 => ?_)
          · refine ev_iinc (w := (x4 + 1)) (L' := [(2, 42), (0, a1), (0, a2), (0, a3), (0, (x4 + 1)), j5, j6]) rfl (by unfold w32; omega) rfl ?_
            refine ev_goto f343_90 ?_
            exact ih.2.2 _ _ _ _ g76320 k76320 (by omega) (by omega) (by omega) (by omega) (by omega) (by omega) (by omega) (by omega) (by omega) H0 (H1.add (by omega) (tk_of (bt_of ev76322 ev76323) (frt_kp k1 X76320) (by omega))) (by omega)
          · refine ev_iconst ?_
            exact ev_ret rfl (by decide) (by decide) ⟨_, rfl, g76320, k76320, by omega, by omega, ⟨fun z => absurd z (by decide), fun z => tk_no (bt_of ev76322 ev76323) (frt_kp k1 X76320) (by omega) (by omega) (z.2 x4 (by omega) (by omega))⟩⟩
        · refine ev_iconst ?_
          refine ev_goto f343_122 ?_
          refine ev_icmpeq f343_127 (fun c76326 => ?_) (fun c76326 => ?_)
          · refine ev_iinc (w := (x4 + 1)) (L' := [(2, 42), (0, a1), (0, a2), (0, a3), (0, (x4 + 1)), j5, j6]) rfl (by unfold w32; omega) rfl ?_
            refine ev_goto f343_90 ?_
            exact ih.2.2 _ _ _ _ g76320 k76320 (by omega) (by omega) (by omega) (by omega) (by omega) (by omega) (by omega) (by omega) (by omega) H0 (H1.add (by omega) (tk_of (bt_of ev76322 ev76323) (frt_kp k1 X76320) (by omega))) (by omega)
          · refine ev_iconst ?_
            exact ev_ret rfl (by decide) (by decide) ⟨_, rfl, g76320, k76320, by omega, by omega, ⟨fun z => absurd z (by decide), fun z => tk_no (bt_of ev76322 ev76323) (frt_kp k1 X76320) (by omega) (by omega) (z.2 x4 (by omega) (by omega))⟩⟩
set_option maxHeartbeats 4000000 in
theorem t343 {G : GH} {h : JH} (g : Gd G h) {a1 : Int} (la1 : 0 ≤ a1) (ua1 : a1 ≤ 63) {a2 : Int} (la2 : 0 ≤ a2) (ua2 : a2 ≤ 15) {a3 : Int} (la3 : 0 ≤ a3) (ua3 : a3 ≤ 99) {w0 : Int} (ew0 : h.2.2 42 47 = w0) (lw0 : 0 ≤ w0) (uw0 : w0 ≤ 3) {w1 : Int} (ew1 : h.2.2 42 51 = w1) (lw1 : 0 ≤ w1) (uw1 : w1 ≤ 4) : jOk 3 0 0 343 [(2, 42), (0, a1), (0, a2), (0, a3)] h (fun v h' => ∃ r : Int, v = some (0, r) ∧ Gd G h' ∧ Kp [] h h' ∧ 0 ≤ r ∧ r ≤ 1 ∧ (r = 1 ↔ HH (FR h) w0 w1 a3 a1 a2)) := by
  refine ⟨by decide, by rw [ml343]; exact Nat.le_of_ble_eq_true rfl, ?_⟩
  rw [ml343, pp343]
  show jEv _ none _ c343_0 0 0 _ (c343_0, [(2, 42), (0, a1), (0, a2), (0, a3), (9, 0), (9, 0), (9, 0)], [], h, 0, 0)
  have k0 := Kp.rf [] h
  refine ev_iconst ?_
  refine ev_istore (L' := [(2, 42), (0, a1), (0, a2), (0, a3), (0, 0), (9, 0), (9, 0)]) (Nat.le_of_ble_eq_true rfl) rfl ?_
  exact (t343_l la1 ua1 la2 ua2 la3 ua3 ew0 lw0 uw0 ew1 lw1 uw1 150).1 _ _ _ _ g k0 (by omega) (by omega) (by omega) (by omega) (by omega) (by omega) (by omega) (by omega) (by omega) (fun s a b => by omega) (by omega)
set_option maxHeartbeats 4000000 in
theorem t344_l {G : GH} {h : JH} {a0 : Int} (la0 : 0 ≤ a0) (ua0 : a0 ≤ 63) {a1 : Int} (la1 : 1 ≤ a1) (ua1 : a1 ≤ 3) (hD : a0 < jshl 1 (2 * a1)) : ∀ N : Nat, (∀ (h1 : JH) (x2 x3 : Int), Gd G h1 → Kp [] h h1 → 0 ≤ a0 → a0 ≤ 63 → 1 ≤ a1 → a1 ≤ 3 → 0 ≤ x2 → x2 ≤ 63 → 0 ≤ x3 → x3 ≤ 3 → ((-a1) + x3) ≤ 0 → x2 ≤ 63 → ((-x2)) ≤ 0 → x2 = jshr a0 (2 * (a1 - x3)) → ((-x3) + 3) < N → jEv (jOk 0) none (fun _ => 0) c344_0 0 0 (fun v h' => ∃ r : Int, v = some (0, r) ∧ Gd G h' ∧ Kp [] h h' ∧ 0 ≤ r ∧ r ≤ 63 ∧ r = a0) (c344_4, [(0, a0), (0, a1), (0, x2), (0, x3)], [], h1, 0, 0)) := by
  intro N
  induction N with
  | zero => exact fun h1 x2 x3 g1 k1 b0 b1 b2 b3 b4 b5 b6 b7 b8 b9 b10 b11 hm => absurd hm (by omega)
  | succ N ih =>
    show _
    intro h1 x2 x3 g1 k1 b0 b1 b2 b3 b4 b5 b6 b7 b8 b9 b10 H0 hm
    refine ev_iload_n rfl ?_
    refine ev_iload_n rfl ?_
    refine ev_icmpge f344_31 (fun c76342 => ?_) (fun c76342 => ?_)
    · refine ev_iload_n rfl ?_
      exact ev_ret rfl (by decide) (by decide) ⟨_, rfl, g1, k1, by omega, by omega, H0.trans (by rw [show 2 * (a1 - x3) = 0 by omega]; exact jshr_0 (by omega) (by omega))⟩
    · refine ev_iconst ?_
      refine ev_iload_n rfl ?_
      refine ev_imul (r := (4 * x2)) (by unfold w32; omega) ?_
      refine ev_iload_n rfl ?_
      refine ev_iconst ?_
      refine ev_iload_n rfl ?_
      refine ev_iconst ?_
      refine ev_isub (r := (a1 - 1)) (by unfold w32; omega) ?_
      refine ev_iload_n rfl ?_
      refine ev_isub (r := (a1 + (-x3) - 1)) (by unfold w32; omega) ?_
      refine ev_imul (r := (2 * a1 + (-2) * x3 - 2)) (by unfold w32; omega) ?_
      refine g_ishrB (a := 63) (by omega) (by omega) (by decide) (fun v76343 ev76343 lv76343 uv76343 => ?_)
      refine ev_iconst ?_
      refine g_iandB (b := 3) (by omega) (by omega) (by decide) (fun v76344 ev76344 lv76344 uv76344 => ?_)
      have q := (dg_f (b := a0) (k := a1) (s := x3) (by omega) (by omega) (by omega) (by omega) (by omega) (by omega) hD).1
      rw [← H0, show 2 * (a1 - 1 - x3) = (2 * a1 + (-2) * x3 - 2) by omega, ev76343, ev76344] at q
      refine ev_iadd (r := v76343) (by unfold w32; omega) ?_
      refine ev_istore_n (L' := [(0, a0), (0, a1), (0, v76343), (0, x3)]) (Nat.le_of_ble_eq_true rfl) rfl ?_
      refine ev_iinc (w := (x3 + 1)) (L' := [(0, a0), (0, a1), (0, v76343), (0, (x3 + 1))]) rfl (by unfold w32; omega) rfl ?_
      refine ev_goto f344_4 ?_
      exact ih _ _ _ g1 k1 (by omega) (by omega) (by omega) (by omega) (by omega) (by omega) (by omega) (by omega) (by omega) (by omega) (by omega) (by rw [show 2 * (a1 - (x3 + 1)) = (2 * a1 + (-2) * x3 - 2) by omega, ev76343]) (by omega)
set_option maxHeartbeats 4000000 in
theorem t344 {G : GH} {h : JH} (g : Gd G h) {a0 : Int} (la0 : 0 ≤ a0) (ua0 : a0 ≤ 63) {a1 : Int} (la1 : 1 ≤ a1) (ua1 : a1 ≤ 3) (hD : a0 < jshl 1 (2 * a1)) : jOk 1 0 0 344 [(0, a0), (0, a1)] h (fun v h' => ∃ r : Int, v = some (0, r) ∧ Gd G h' ∧ Kp [] h h' ∧ 0 ≤ r ∧ r ≤ 63 ∧ r = a0) := by
  refine ⟨by decide, by rw [ml344]; exact Nat.le_of_ble_eq_true rfl, ?_⟩
  rw [ml344, pp344]
  show jEv _ none _ c344_0 0 0 _ (c344_0, [(0, a0), (0, a1), (9, 0), (9, 0)], [], h, 0, 0)
  have k0 := Kp.rf [] h
  refine ev_iconst ?_
  refine ev_istore_n (L' := [(0, a0), (0, a1), (0, 0), (9, 0)]) (Nat.le_of_ble_eq_true rfl) rfl ?_
  refine ev_iconst ?_
  refine ev_istore_n (L' := [(0, a0), (0, a1), (0, 0), (0, 0)]) (Nat.le_of_ble_eq_true rfl) rfl ?_
  exact (t344_l la0 ua0 la1 ua1 hD 8) _ _ _ g k0 (by omega) (by omega) (by omega) (by omega) (by omega) (by omega) (by omega) (by omega) (by omega) (by omega) (by omega) (by rw [show 2 * (a1 - 0) = 2 * a1 by omega]; exact (dg_f (b := a0) (k := a1) (s := 0) (by omega) (by omega) (by omega) (by omega) (by omega) (by omega) hD).2.1.symm) (by omega)
set_option maxHeartbeats 4000000 in
theorem t345_l {G : GH} {h : JH} {a1 : Int} (la1 : (-2147483648) ≤ a1) (ua1 : a1 ≤ 2147483647) {a2 : Int} (la2 : (-2147483648) ≤ a2) (ua2 : a2 ≤ 2147483647) {w0 : Int} (ew0 : h.2.2 42 47 = w0) (lw0 : 0 ≤ w0) (uw0 : w0 ≤ 3) {w1 : Int} (ew1 : h.2.2 42 51 = w1) (lw1 : 0 ≤ w1) (uw1 : w1 ≤ 4) : ∀ N : Nat, (∀ (h1 : JH) (x3 x4 : Int) (j5 : AV), Gd G h1 → Kp [] h h1 → 0 ≤ a1 → a1 ≤ 99 → 0 ≤ a2 → a2 ≤ 2 → 0 ≤ x3 → x3 ≤ 2400 → 0 ≤ x4 → x4 ≤ 64 → a1 ≤ 99 → ((-a1)) ≤ 0 → a2 ≤ 2 → ((-a2)) ≤ 0 → ((-w0)) ≤ (-1) → ((-w1)) ≤ (-1) → x4 ≤ 64 → (x3 + (-16) * x4) ≤ 0 → ((-x3)) ≤ 0 → Lq (PP (FR h) w0 w1 a1) a2 x4 x3 → x4 ≤ jshl 1 (2 * w0) → ((-34) * x4 + 2193) < N → jEv (jOk 3) none (fun _ => 0) c345_0 0 0 (fun v h' => ∃ r : Int, v = some (0, r) ∧ Gd G h' ∧ Kp [] h h' ∧ (-5) ≤ r ∧ r ≤ 1024 ∧ HoA (FR h) w0 w1 a1 a2 r) (c345_43, [(2, 42), (0, a1), (0, a2), (0, x3), (0, x4), j5], [], h1, 0, 0)) ∧ (∀ (h1 : JH) (x3 x4 x5 : Int), Gd G h1 → Kp [] h h1 → 0 ≤ a1 → a1 ≤ 99 → 0 ≤ a2 → a2 ≤ 2 → 0 ≤ x3 → x3 ≤ 2400 → 0 ≤ x4 → x4 ≤ 63 → 0 ≤ x5 → x5 ≤ 16 → a1 ≤ 99 → ((-a1)) ≤ 0 → a2 ≤ 2 → ((-a2)) ≤ 0 → ((-w0)) ≤ (-1) → ((-w1)) ≤ (-1) → x4 ≤ 63 → x5 ≤ 16 → (x3 + (-16) * x4 + (-x5)) ≤ 0 → ((-x3)) ≤ 0 → Li (FR h) w0 w1 a1 a2 x4 x5 x3 → x4 < jshl 1 (2 * w0) → x5 ≤ jshl 1 w1 → ((-34) * x4 + (-x5) + 2192) < N → jEv (jOk 3) none (fun _ => 0) c345_0 0 0 (fun v h' => ∃ r : Int, v = some (0, r) ∧ Gd G h' ∧ Kp [] h h' ∧ (-5) ≤ r ∧ r ≤ 1024 ∧ HoA (FR h) w0 w1 a1 a2 r) (c345_59, [(2, 42), (0, a1), (0, a2), (0, x3), (0, x4), (0, x5)], [], h1, 0, 0)) := by
  intro N
  induction N with
  | zero => exact ⟨fun h1 x3 x4 j5 g1 k1 b0 b1 b2 b3 b4 b5 b6 b7 b8 b9 b10 b11 b12 b13 b14 b15 b16 b17 b18 hm => absurd hm (by omega), fun h1 x3 x4 x5 g1 k1 b0 b1 b2 b3 b4 b5 b6 b7 b8 b9 b10 b11 b12 b13 b14 b15 b16 b17 b18 b19 b20 b21 b22 hm => absurd hm (by omega)⟩
  | succ N ih =>
    refine ⟨?_, ?_⟩
    · intro h1 x3 x4 j5 g1 k1 b0 b1 b2 b3 b4 b5 b6 b7 b8 b9 b10 b11 b12 b13 b14 b15 b16 H0 H1 hm
      refine ev_iload rfl ?_
      refine ev_iconst ?_
      refine ev_iconst ?_
      refine ev_aload_n rfl ?_
      refine g_getv (r := 42) (v := w0) g1 ad42 (by decide) ft12_47 (((k1.v (by decide)).trans ew0)) ?_
      refine ev_imul (r := (2 * w0)) (by unfold w32; omega) ?_
      refine g_ishlB (a' := 1) (a := 1) (b := 6) (hi := 64) (by omega) (by omega) (by omega) (by omega) (by decide) (by decide) (fun v77172 ev77172 lv77172 uv77172 => ?_)
      refine ev_icmpge f345_124 (fun c77173 => ?_) (fun c77173 => ?_)
      · refine ev_iload_n rfl ?_
        refine ev_ifne f345_132 (fun c77174 => ?_) (fun c77174 => ?_)
        · refine ev_bipush ?_
          exact ev_ret rfl (by decide) (by decide) ⟨_, rfl, g1, k1, by omega, by omega, Or.inr ⟨by omega, H0.end (by omega) (by omega) (by have := H1; rw [ev77172] at this ⊢; omega) (by omega) (by split <;> omega)⟩⟩
        · refine ev_iload_n rfl ?_
          refine ev_goto f345_134 ?_
          exact ev_ret rfl (by decide) (by decide) ⟨_, rfl, g1, k1, by omega, by omega, Or.inr ⟨by omega, H0.end (by omega) (by omega) (by have := H1; rw [ev77172] at this ⊢; omega) (by omega) (by split <;> omega)⟩⟩
      · refine ev_iconst ?_
        refine ev_istore (L' := [(2, 42), (0, a1), (0, a2), (0, x3), (0, x4), (0, 0)]) (Nat.le_of_ble_eq_true rfl) rfl ?_
        exact ih.2 _ _ _ _ g1 k1 (by omega) (by omega) (by omega) (by omega) (by omega) (by omega) (by omega) (by omega) (by omega) (by omega) (by omega) (by omega) (by omega) (by omega) (by omega) (by omega) (by omega) (by omega) (by omega) (by omega) (Li.start H0) (by rw [ev77172]; omega) (sm_pos (by omega) (by omega)) (by omega)
    · intro h1 x3 x4 x5 g1 k1 b0 b1 b2 b3 b4 b5 b6 b7 b8 b9 b10 b11 b12 b13 b14 b15 b16 b17 b18 b19 H0 H1 H2 hm
      refine ev_iload rfl ?_
      refine ev_iconst ?_
      refine ev_aload_n rfl ?_
      refine g_getv (r := 42) (v := w1) g1 ad42 (by decide) ft12_51 (((k1.v (by decide)).trans ew1)) ?_
      refine g_ishlB (a' := 1) (a := 1) (b := 4) (hi := 16) (by omega) (by omega) (by omega) (by omega) (by decide) (by decide) (fun v77175 ev77175 lv77175 uv77175 => ?_)
      refine ev_icmpge f345_118 (fun c77176 => ?_) (fun c77176 => ?_)
      · refine ev_iinc (w := (x4 + 1)) (L' := [(2, 42), (0, a1), (0, a2), (0, x3), (0, (x4 + 1)), (0, x5)]) rfl (by unfold w32; omega) rfl ?_
        refine ev_goto f345_43 ?_
        exact ih.1 _ _ _ _ g1 k1 (by omega) (by omega) (by omega) (by omega) (by omega) (by omega) (by omega) (by omega) (by omega) (by omega) (by omega) (by omega) (by omega) (by omega) (by omega) (by omega) (by omega) (H0.fin (by omega) (by rw [ev77175]; have := H2; rw [ev77175] at this; omega) (by omega)) (by have := H1; omega) (by omega)
      · refine ev_aload_n rfl ?_
        refine ev_iload rfl ?_
        refine ev_iload rfl ?_
        refine ev_iload_n rfl ?_
        refine ev_call (jcall_v (A := [(0, a1), (0, x5), (0, x4)]) (S' := []) (r := 42) rfl (g1.lt ad42) (g1.tg ad42) (Nat.le_of_ble_eq_true rfl)) (jOk_le (by decide) (t343 g1 (by omega) (by omega) (by omega) (by omega) (by omega) (by omega) (((k1.v (by decide)).trans ew0)) (by omega) (by omega) (((k1.v (by decide)).trans ew1)) (by omega) (by omega))) (by decide) (by decide) (fun w77177 h77177 q77177 => ?_)
        obtain ⟨v77178, rfl, g77177, kk77177, lv77178, uv77178, X77177⟩ := q77177
        have k77177 := k1.tr kk77177 (by decide)
        show jEv _ _ _ _ _ _ _ (_, [(2, 42), (0, a1), (0, a2), (0, x3), (0, x4), (0, x5)], [(0, v77178)], _, _, _)
        refine ev_ifne f345_85 (fun c77179 => ?_) (fun c77179 => ?_)
        · refine ev_iload_n rfl ?_
          refine ev_ifle f345_109 (fun c77180 => ?_) (fun c77180 => ?_)
          · refine ev_iinc (w := (x3 + 1)) (L' := [(2, 42), (0, a1), (0, a2), (0, (x3 + 1)), (0, x4), (0, x5)]) rfl (by unfold w32; omega) rfl ?_
            refine ev_iinc (w := (x5 + 1)) (L' := [(2, 42), (0, a1), (0, a2), (0, (x3 + 1)), (0, x4), (0, (x5 + 1))]) rfl (by unfold w32; omega) rfl ?_
            refine ev_goto f345_59 ?_
            exact ih.2 _ _ _ _ g77177 k77177 (by omega) (by omega) (by omega) (by omega) (by omega) (by omega) (by omega) (by omega) (by omega) (by omega) (by omega) (by omega) (by omega) (by omega) (by omega) (by omega) (by omega) (by omega) (by omega) (by omega) (H0.yes ((frh_kp k1 X77177).mp (by omega)) (by omega) (by omega) (by rw [ev77175]; omega) (by omega) (by omega) (by omega) (by omega)) H1 (by rw [ev77175]; omega) (by omega)
          · refine ev_iload_n rfl ?_
            refine ev_iconst ?_
            refine ev_icmpne f345_106 (fun c77181 => ?_) (fun c77181 => ?_)
            · refine ev_iload rfl ?_
              exact ev_ret rfl (by decide) (by decide) ⟨_, rfl, g77177, k77177, by omega, by omega, Or.inr ⟨by omega, H0.hit (by omega) (by omega) (by omega) H1 (by omega) (by rw [ev77175]; omega) (by omega) ((frh_kp k1 X77177).mp (by omega)) (by split <;> omega)⟩⟩
            · refine ev_iload rfl ?_
              refine ev_aload_n rfl ?_
              refine g_getv (r := 42) (v := w0) g77177 ad42 (by decide) ft12_47 (((kk77177.v (by decide)).trans ((k1.v (by decide)).trans ew0))) ?_
              refine ev_call (jcall_s (A := [(0, w0), (0, x4)]) (S' := []) (by decide) rfl (Nat.le_of_ble_eq_true rfl)) (jOk_le (by decide) (t344 g77177 (by omega) (by omega) (by omega) (by omega) H1)) (by decide) (by decide) (fun w77182 h77182 q77182 => ?_)
              obtain ⟨v77183, rfl, g77182, kk77182, lv77183, uv77183, X77182⟩ := q77182
              have k77182 := k77177.tr kk77182 (by decide)
              show jEv _ _ _ _ _ _ _ (_, [(2, 42), (0, a1), (0, a2), (0, x3), (0, x4), (0, x5)], [(0, v77183)], _, _, _)
              refine ev_goto f345_108 ?_
              exact ev_ret rfl (by decide) (by decide) ⟨_, rfl, g77182, k77182, by omega, by omega, Or.inr ⟨by omega, H0.hit (by omega) (by omega) (by omega) H1 (by omega) (by rw [ev77175]; omega) (by omega) ((frh_kp k1 X77177).mp (by omega)) (by split <;> (have := X77182; omega))⟩⟩
        · refine ev_goto f345_112 ?_
          refine ev_iinc (w := (x5 + 1)) (L' := [(2, 42), (0, a1), (0, a2), (0, x3), (0, x4), (0, (x5 + 1))]) rfl (by unfold w32; omega) rfl ?_
          refine ev_goto f345_59 ?_
          exact ih.2 _ _ _ _ g77177 k77177 (by omega) (by omega) (by omega) (by omega) (by omega) (by omega) (by omega) (by omega) (by omega) (by omega) (by omega) (by omega) (by omega) (by omega) (by omega) (by omega) (by omega) (by omega) (by omega) (by omega) (H0.no (fun z => absurd ((frh_kp k1 X77177).mpr z) (by omega)) (by omega)) H1 (by rw [ev77175]; omega) (by omega)
set_option maxHeartbeats 4000000 in
theorem t345 {G : GH} {h : JH} (g : Gd G h) {a1 : Int} (la1 : (-2147483648) ≤ a1) (ua1 : a1 ≤ 2147483647) {a2 : Int} (la2 : (-2147483648) ≤ a2) (ua2 : a2 ≤ 2147483647) {w0 : Int} (ew0 : h.2.2 42 47 = w0) (lw0 : 0 ≤ w0) (uw0 : w0 ≤ 3) {w1 : Int} (ew1 : h.2.2 42 51 = w1) (lw1 : 0 ≤ w1) (uw1 : w1 ≤ 4) : jOk 4 0 0 345 [(2, 42), (0, a1), (0, a2)] h (fun v h' => ∃ r : Int, v = some (0, r) ∧ Gd G h' ∧ Kp [] h h' ∧ (-5) ≤ r ∧ r ≤ 1024 ∧ HoA (FR h) w0 w1 a1 a2 r) := by
  refine ⟨by decide, by rw [ml345]; exact Nat.le_of_ble_eq_true rfl, ?_⟩
  rw [ml345, pp345]
  show jEv _ none _ c345_0 0 0 _ (c345_0, [(2, 42), (0, a1), (0, a2), (9, 0), (9, 0), (9, 0)], [], h, 0, 0)
  have k0 := Kp.rf [] h
  refine ev_iload_n rfl ?_
  refine ev_iconst ?_
  refine ev_bipush ?_
  refine ev_in (d := 2) (a := 0) (b := 0) (cd' := c242_0) (m := 3) (L0 := [(0, a1), (0, 0), (0, 99)]) (jcall_s (A := [(0, 99), (0, 0), (0, a1)]) (S' := []) (by decide) rfl (Nat.le_of_ble_eq_true rfl)) (by decide) ml242 pp242 (Nat.le_of_ble_eq_true rfl) rfl (by decide) (by decide) ?_
  refine ev_iload_n rfl ?_
  refine ev_iload_n rfl ?_
  refine ev_icmplt f242_14 (fun c77184 => ?_) (fun c77184 => ?_)
  · refine ev_iconst ?_
    refine ev_ret rfl (by decide) (by decide) ?_
    show jEv _ _ _ _ _ _ _ (_, [(2, 42), (0, a1), (0, a2), (9, 0), (9, 0), (9, 0)], [(0, 0)], _, _, _)
    refine ev_ifeq f345_19 (fun c77185 => ?_) (fun c77185 => absurd c77185 (by omega))
    refine ev_iconst ?_
    exact ev_ret rfl (by decide) (by decide) ⟨_, rfl, g, k0, by omega, by omega, Or.inl ⟨by omega, rfl⟩⟩
  · refine ev_iload_n rfl ?_
    refine ev_iload_n rfl ?_
    refine ev_icmpgt f242_14 (fun c77186 => ?_) (fun c77186 => ?_)
    · refine ev_iconst ?_
      refine ev_ret rfl (by decide) (by decide) ?_
      show jEv _ _ _ _ _ _ _ (_, [(2, 42), (0, a1), (0, a2), (9, 0), (9, 0), (9, 0)], [(0, 0)], _, _, _)
      refine ev_ifeq f345_19 (fun c77187 => ?_) (fun c77187 => absurd c77187 (by omega))
      refine ev_iconst ?_
      exact ev_ret rfl (by decide) (by decide) ⟨_, rfl, g, k0, by omega, by omega, Or.inl ⟨by omega, rfl⟩⟩
    · refine ev_iconst ?_
      refine ev_goto f242_15 ?_
      refine ev_ret rfl (by decide) (by decide) ?_
      show jEv _ _ _ _ _ _ _ (_, [(2, 42), (0, a1), (0, a2), (9, 0), (9, 0), (9, 0)], [(0, 1)], _, _, _)
      refine ev_ifeq f345_19 (fun c77188 => absurd c77188 (by omega)) (fun c77188 => ?_)
      refine ev_iload_n rfl ?_
      refine ev_iconst ?_
      refine ev_iconst ?_
      refine ev_in (d := 2) (a := 0) (b := 0) (cd' := c242_0) (m := 3) (L0 := [(0, a2), (0, 0), (0, 2)]) (jcall_s (A := [(0, 2), (0, 0), (0, a2)]) (S' := []) (by decide) rfl (Nat.le_of_ble_eq_true rfl)) (by decide) ml242 pp242 (Nat.le_of_ble_eq_true rfl) rfl (by decide) (by decide) ?_
      refine ev_iload_n rfl ?_
      refine ev_iload_n rfl ?_
      refine ev_icmplt f242_14 (fun c77189 => ?_) (fun c77189 => ?_)
      · refine ev_iconst ?_
        refine ev_ret rfl (by decide) (by decide) ?_
        show jEv _ _ _ _ _ _ _ (_, [(2, 42), (0, a1), (0, a2), (9, 0), (9, 0), (9, 0)], [(0, 0)], _, _, _)
        refine ev_ifne f345_21 (fun c77190 => absurd c77190 (by omega)) (fun c77190 => ?_)
        refine ev_iconst ?_
        exact ev_ret rfl (by decide) (by decide) ⟨_, rfl, g, k0, by omega, by omega, Or.inl ⟨by omega, rfl⟩⟩
      · refine ev_iload_n rfl ?_
        refine ev_iload_n rfl ?_
        refine ev_icmpgt f242_14 (fun c77191 => ?_) (fun c77191 => ?_)
        · refine ev_iconst ?_
          refine ev_ret rfl (by decide) (by decide) ?_
          show jEv _ _ _ _ _ _ _ (_, [(2, 42), (0, a1), (0, a2), (9, 0), (9, 0), (9, 0)], [(0, 0)], _, _, _)
          refine ev_ifne f345_21 (fun c77192 => absurd c77192 (by omega)) (fun c77192 => ?_)
          refine ev_iconst ?_
          exact ev_ret rfl (by decide) (by decide) ⟨_, rfl, g, k0, by omega, by omega, Or.inl ⟨by omega, rfl⟩⟩
        · refine ev_iconst ?_
          refine ev_goto f242_15 ?_
          refine ev_ret rfl (by decide) (by decide) ?_
          show jEv _ _ _ _ _ _ _ (_, [(2, 42), (0, a1), (0, a2), (9, 0), (9, 0), (9, 0)], [(0, 1)], _, _, _)
          refine ev_ifne f345_21 (fun c77193 => ?_) (fun c77193 => absurd c77193 (by omega))
          refine ev_aload_n rfl ?_
          refine g_getv (r := 42) (v := w0) g ad42 (by decide) ft12_47 (ew0) ?_
          refine ev_ifeq f345_35 (fun c77194 => ?_) (fun c77194 => ?_)
          · refine ev_bipush ?_
            exact ev_ret rfl (by decide) (by decide) ⟨_, rfl, g, k0, by omega, by omega, Or.inr ⟨by omega, Or.inl ⟨by omega, rfl⟩⟩⟩
          · refine ev_aload_n rfl ?_
            refine g_getv (r := 42) (v := w1) g ad42 (by decide) ft12_51 (ew1) ?_
            refine ev_ifne f345_38 (fun c77195 => ?_) (fun c77195 => ?_)
            · refine ev_iconst ?_
              refine ev_istore_n (L' := [(2, 42), (0, a1), (0, a2), (0, 0), (9, 0), (9, 0)]) (Nat.le_of_ble_eq_true rfl) rfl ?_
              refine ev_iconst ?_
              refine ev_istore (L' := [(2, 42), (0, a1), (0, a2), (0, 0), (0, 0), (9, 0)]) (Nat.le_of_ble_eq_true rfl) rfl ?_
              exact (t345_l la1 ua1 la2 ua2 ew0 lw0 uw0 ew1 lw1 uw1 4420).1 _ _ _ _ g k0 (by omega) (by omega) (by omega) (by omega) (by omega) (by omega) (by omega) (by omega) (by omega) (by omega) (by omega) (by omega) (by omega) (by omega) (by omega) (by omega) (by omega) Lq.start (sh_pos (by omega) (by omega)) (by omega)
            · refine ev_bipush ?_
              exact ev_ret rfl (by decide) (by decide) ⟨_, rfl, g, k0, by omega, by omega, Or.inr ⟨by omega, Or.inl ⟨by omega, rfl⟩⟩⟩
theorem jn11 : jN 11 = 17 := by decide +kernel
theorem jn12 : jN 12 = 66 := by decide +kernel
theorem ml384 : jML jnM = 4 := by decide +kernel
theorem pp384 : jP jnM = c384_0 := rfl
set_option maxRecDepth 100000 in
theorem jlawN : jchkN jnM = true := jchkNF_ok (by decide +kernel)
set_option maxRecDepth 100000 in
theorem f384_18 : jfind c384_0 18 = some c384_18 := rfl
set_option maxRecDepth 100000 in
theorem f384_260 : jfind c384_0 260 = some c384_260 := rfl
set_option maxRecDepth 100000 in
theorem f384_283 : jfind c384_0 283 = some c384_283 := rfl
set_option maxRecDepth 100000 in
theorem f384_316 : jfind c384_0 316 = some c384_316 := rfl
set_option maxRecDepth 100000 in
theorem f384_369 : jfind c384_0 369 = some c384_369 := rfl
set_option maxRecDepth 100000 in
theorem f384_382 : jfind c384_0 382 = some c384_382 := rfl
set_option maxRecDepth 100000 in
theorem f384_405 : jfind c384_0 405 = some c384_405 := rfl
set_option maxRecDepth 100000 in
theorem f384_448 : jfind c384_0 448 = some c384_448 := rfl
set_option maxRecDepth 100000 in
theorem f384_481 : jfind c384_0 481 = some c384_481 := rfl
set_option maxRecDepth 100000 in
theorem f384_494 : jfind c384_0 494 = some c384_494 := rfl
set_option maxRecDepth 100000 in
theorem f384_537 : jfind c384_0 537 = some c384_537 := rfl
set_option maxRecDepth 100000 in
theorem f384_590 : jfind c384_0 590 = some c384_590 := rfl
set_option maxRecDepth 100000 in
theorem f384_603 : jfind c384_0 603 = some c384_603 := rfl
set_option maxRecDepth 100000 in
theorem f384_616 : jfind c384_0 616 = some c384_616 := rfl
set_option maxRecDepth 100000 in
theorem f384_649 : jfind c384_0 649 = some c384_649 := rfl
set_option maxRecDepth 100000 in
theorem f384_682 : jfind c384_0 682 = some c384_682 := rfl
set_option maxRecDepth 100000 in
theorem f384_715 : jfind c384_0 715 = some c384_715 := rfl
set_option maxRecDepth 100000 in
theorem f384_758 : jfind c384_0 758 = some c384_758 := rfl
set_option maxRecDepth 100000 in
theorem f384_801 : jfind c384_0 801 = some c384_801 := rfl
set_option maxRecDepth 100000 in
theorem f384_844 : jfind c384_0 844 = some c384_844 := rfl
set_option maxRecDepth 100000 in
theorem f384_877 : jfind c384_0 877 = some c384_877 := rfl
set_option maxRecDepth 100000 in
theorem f384_930 : jfind c384_0 930 = some c384_930 := rfl
set_option maxRecDepth 100000 in
theorem f384_963 : jfind c384_0 963 = some c384_963 := rfl
set_option maxRecDepth 100000 in
theorem f384_1006 : jfind c384_0 1006 = some c384_1006 := rfl
set_option maxRecDepth 100000 in
theorem f384_1059 : jfind c384_0 1059 = some c384_1059 := rfl
set_option maxRecDepth 100000 in
theorem f384_1082 : jfind c384_0 1082 = some c384_1082 := rfl
set_option maxRecDepth 100000 in
theorem f384_1125 : jfind c384_0 1125 = some c384_1125 := rfl
set_option maxRecDepth 100000 in
theorem f384_1178 : jfind c384_0 1178 = some c384_1178 := rfl
set_option maxRecDepth 100000 in
theorem f384_1201 : jfind c384_0 1201 = some c384_1201 := rfl
set_option maxRecDepth 100000 in
theorem f384_1254 : jfind c384_0 1254 = some c384_1254 := rfl
set_option maxRecDepth 100000 in
theorem f384_1307 : jfind c384_0 1307 = some c384_1307 := rfl
set_option maxRecDepth 100000 in
theorem f384_1340 : jfind c384_0 1340 = some c384_1340 := rfl
set_option maxRecDepth 100000 in
theorem f384_1383 : jfind c384_0 1383 = some c384_1383 := rfl
set_option maxRecDepth 100000 in
theorem f384_1406 : jfind c384_0 1406 = some c384_1406 := rfl
set_option maxRecDepth 100000 in
theorem f384_1429 : jfind c384_0 1429 = some c384_1429 := rfl
set_option maxRecDepth 100000 in
theorem f384_1452 : jfind c384_0 1452 = some c384_1452 := rfl
set_option maxRecDepth 100000 in
theorem f384_1495 : jfind c384_0 1495 = some c384_1495 := rfl
set_option maxRecDepth 100000 in
theorem f384_1518 : jfind c384_0 1518 = some c384_1518 := rfl
set_option maxRecDepth 100000 in
theorem f384_1551 : jfind c384_0 1551 = some c384_1551 := rfl
set_option maxRecDepth 100000 in
theorem f384_1564 : jfind c384_0 1564 = some c384_1564 := rfl
set_option maxRecDepth 100000 in
theorem f384_1597 : jfind c384_0 1597 = some c384_1597 := rfl
set_option maxRecDepth 100000 in
theorem f384_1630 : jfind c384_0 1630 = some c384_1630 := rfl
set_option maxRecDepth 100000 in
theorem f384_1683 : jfind c384_0 1683 = some c384_1683 := rfl
set_option maxRecDepth 100000 in
theorem f384_1726 : jfind c384_0 1726 = some c384_1726 := rfl
set_option maxRecDepth 100000 in
theorem f384_1769 : jfind c384_0 1769 = some c384_1769 := rfl
set_option maxRecDepth 100000 in
theorem f384_1812 : jfind c384_0 1812 = some c384_1812 := rfl
set_option maxRecDepth 100000 in
theorem f384_1855 : jfind c384_0 1855 = some c384_1855 := rfl
set_option maxRecDepth 100000 in
theorem f384_1878 : jfind c384_0 1878 = some c384_1878 := rfl
set_option maxRecDepth 100000 in
theorem f384_1911 : jfind c384_0 1911 = some c384_1911 := rfl
set_option maxRecDepth 100000 in
theorem f384_1954 : jfind c384_0 1954 = some c384_1954 := rfl
set_option maxRecDepth 100000 in
theorem f384_2027 : jfind c384_0 2027 = some c384_2027 := rfl
set_option maxRecDepth 100000 in
theorem f384_2060 : jfind c384_0 2060 = some c384_2060 := rfl
set_option maxRecDepth 100000 in
theorem f384_2123 : jfind c384_0 2123 = some c384_2123 := rfl
set_option maxRecDepth 100000 in
theorem f384_2156 : jfind c384_0 2156 = some c384_2156 := rfl
set_option maxRecDepth 100000 in
theorem f384_2179 : jfind c384_0 2179 = some c384_2179 := rfl
set_option maxRecDepth 100000 in
theorem f384_2185 : jfind c384_0 2185 = some c384_2185 := rfl

