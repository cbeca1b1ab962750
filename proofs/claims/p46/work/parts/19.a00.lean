def Up (h h' : JH) (a : Nat) (i v : Int) : Prop := h'.2.2 a i.toNat = v ∧ ∀ j : Nat, j ≠ i.toNat → h'.2.2 a j = h.2.2 a j
theorem Up.mk2 {h h' : JH} {a : Nat} {i i' v v' : Int} (e : h' = jwr h a i.toNat v) (hi : i' = i) (hv : v' = v) : Up h h' a i' v' := by
  subst hi
  subst hv
  exact ⟨jw_eq e, fun j hj => jw_ne e (Or.inr hj)⟩
theorem Up.kp {W : List (Nat × Nat)} {h h1 h2 : JH} {a : Nat} {i v : Int} (u : Up h h1 a i v) (k : Kp W h1 h2) (c : ∀ j, inW W a j = false) : Up h h2 a i v := ⟨(k.v (c _)).trans u.1, fun j hj => (k.v (c _)).trans (u.2 j hj)⟩
theorem Up.pk {W : List (Nat × Nat)} {h h1 h2 : JH} {a : Nat} {i v : Int} (k : Kp W h h1) (c : ∀ j, inW W a j = false) (u : Up h1 h2 a i v) : Up h h2 a i v := ⟨u.1, fun j hj => (u.2 j hj).trans (k.v (c _))⟩
def Sm (h h' : JH) (a : Nat) : Prop := ∀ j : Nat, h'.2.2 a j = h.2.2 a j
def kdT (t : Nat) : Int := if t = 0 then 0 else if t = 1 then 1 else if t = 2 then 2 else if t = 3 then 4 else if t = 6 then 3 else 5
def pyF (k n s x : Int) : Int := if k = 5 then w32 (-(w32 (w32 (x + n) + s))) else if k = 4 then w32 (w32 (x + n) + s) else w32 (x + n)
def faF (k n s x : Int) : Int := if k = 2 then w32 (jxor x n * 3) else if k = 5 then w32 (jxor x n + pyF k n s 1) else jxor x n
def flF (k n s x : Int) : Int := if k = 3 then w32 (w32 (w32 (pyF k n s x * 2) - 1) + faF k n s 2) else if k = 1 then w32 (w32 (pyF k n s x * 2) - 1) else w32 (pyF k n s x * 2)
def tlF (k n s x : Int) : Int := if k = 3 then w32 (flF k n s (w32 (x + 1)) - faF k n s 1) else w32 (flF k n s x - faF k n s 1)
def acF (k a n s x : Int) : Int := if a = 0 then pyF k n s x else if a = 1 then flF k n s x else if a = 2 then faF k n s x else tlF k n s x
def trL (k a : Int) : List Int := if k = 0 ∧ a = 0 then [1] else if k = 0 ∧ a = 1 then [10, 1] else if k = 0 ∧ a = 2 then [11] else if k = 0 ∧ a = 3 then [2, 10, 1, 11] else if k = 1 ∧ a = 0 then [1] else if k = 1 ∧ a = 1 then [20, 10, 1] else if k = 1 ∧ a = 2 then [11] else if k = 1 ∧ a = 3 then [2, 20, 10, 1, 11] else if k = 2 ∧ a = 0 then [1] else if k = 2 ∧ a = 1 then [10, 1] else if k = 2 ∧ a = 2 then [30, 11] else if k = 2 ∧ a = 3 then [2, 10, 1, 30, 11] else if k = 3 ∧ a = 0 then [1] else if k = 3 ∧ a = 1 then [40, 20, 10, 1, 11] else if k = 3 ∧ a = 2 then [11] else if k = 3 ∧ a = 3 then [41, 2, 40, 20, 10, 1, 11, 11] else if k = 4 ∧ a = 0 then [50, 1] else if k = 4 ∧ a = 1 then [10, 50, 1] else if k = 4 ∧ a = 2 then [11] else if k = 4 ∧ a = 3 then [2, 10, 50, 1, 11] else if k = 5 ∧ a = 0 then [60, 50, 1] else if k = 5 ∧ a = 1 then [10, 60, 50, 1] else if k = 5 ∧ a = 2 then [61, 11, 60, 50, 1] else if k = 5 ∧ a = 3 then [2, 10, 60, 50, 1, 61, 11, 60, 50, 1] else []
theorem ac_0_0 (n s x : Int) : acF 0 0 n s x = w32 (x + n) := by
  simp only [acF, pyF, faF, flF, tlF]
  (try simp)
theorem tr_0_0 : trL 0 0 = [1] := by decide
theorem ac_0_1 (n s x : Int) : acF 0 1 n s x = w32 (w32 (x + n) * 2) := by
  simp only [acF, pyF, faF, flF, tlF]
  (try simp)
theorem tr_0_1 : trL 0 1 = [10, 1] := by decide
theorem ac_0_2 (n s x : Int) : acF 0 2 n s x = jxor x n := by
  simp only [acF, pyF, faF, flF, tlF]
  (try simp)
theorem tr_0_2 : trL 0 2 = [11] := by decide
theorem ac_0_3 (n s x : Int) : acF 0 3 n s x = w32 (w32 (w32 (x + n) * 2) - jxor 1 n) := by
  simp only [acF, pyF, faF, flF, tlF]
  (try simp)
theorem tr_0_3 : trL 0 3 = [2, 10, 1, 11] := by decide
theorem ac_1_0 (n s x : Int) : acF 1 0 n s x = w32 (x + n) := by
  simp only [acF, pyF, faF, flF, tlF]
  (try simp)
theorem tr_1_0 : trL 1 0 = [1] := by decide
theorem ac_1_1 (n s x : Int) : acF 1 1 n s x = w32 (w32 (w32 (x + n) * 2) - 1) := by
  simp only [acF, pyF, faF, flF, tlF]
  (try simp)
theorem tr_1_1 : trL 1 1 = [20, 10, 1] := by decide
theorem ac_1_2 (n s x : Int) : acF 1 2 n s x = jxor x n := by
  simp only [acF, pyF, faF, flF, tlF]
  (try simp)
theorem tr_1_2 : trL 1 2 = [11] := by decide
theorem ac_1_3 (n s x : Int) : acF 1 3 n s x = w32 (w32 (w32 (w32 (x + n) * 2) - 1) - jxor 1 n) := by
  simp only [acF, pyF, faF, flF, tlF]
  (try simp)
theorem tr_1_3 : trL 1 3 = [2, 20, 10, 1, 11] := by decide
theorem ac_2_0 (n s x : Int) : acF 2 0 n s x = w32 (x + n) := by
  simp only [acF, pyF, faF, flF, tlF]
  (try simp)
theorem tr_2_0 : trL 2 0 = [1] := by decide
theorem ac_2_1 (n s x : Int) : acF 2 1 n s x = w32 (w32 (x + n) * 2) := by
  simp only [acF, pyF, faF, flF, tlF]
  (try simp)
theorem tr_2_1 : trL 2 1 = [10, 1] := by decide
theorem ac_2_2 (n s x : Int) : acF 2 2 n s x = w32 (jxor x n * 3) := by
  simp only [acF, pyF, faF, flF, tlF]
  (try simp)
theorem tr_2_2 : trL 2 2 = [30, 11] := by decide
theorem ac_2_3 (n s x : Int) : acF 2 3 n s x = w32 (w32 (w32 (x + n) * 2) - w32 (jxor 1 n * 3)) := by
  simp only [acF, pyF, faF, flF, tlF]
  (try simp)
theorem tr_2_3 : trL 2 3 = [2, 10, 1, 30, 11] := by decide
theorem ac_3_0 (n s x : Int) : acF 3 0 n s x = w32 (x + n) := by
  simp only [acF, pyF, faF, flF, tlF]
  (try simp)
theorem tr_3_0 : trL 3 0 = [1] := by decide
theorem ac_3_1 (n s x : Int) : acF 3 1 n s x = w32 (w32 (w32 (w32 (x + n) * 2) - 1) + jxor 2 n) := by
  simp only [acF, pyF, faF, flF, tlF]
  (try simp)
theorem tr_3_1 : trL 3 1 = [40, 20, 10, 1, 11] := by decide
theorem ac_3_2 (n s x : Int) : acF 3 2 n s x = jxor x n := by
  simp only [acF, pyF, faF, flF, tlF]
  (try simp)
theorem tr_3_2 : trL 3 2 = [11] := by decide
theorem ac_3_3 (n s x : Int) : acF 3 3 n s x = w32 (w32 (w32 (w32 (w32 ((w32 (x + 1)) + n) * 2) - 1) + jxor 2 n) - jxor 1 n) := by
  simp only [acF, pyF, faF, flF, tlF]
  (try simp)
theorem tr_3_3 : trL 3 3 = [41, 2, 40, 20, 10, 1, 11, 11] := by decide
theorem ac_4_0 (n s x : Int) : acF 4 0 n s x = w32 (w32 (x + n) + s) := by
  simp only [acF, pyF, faF, flF, tlF]
  (try simp)
theorem tr_4_0 : trL 4 0 = [50, 1] := by decide
theorem ac_4_1 (n s x : Int) : acF 4 1 n s x = w32 (w32 (w32 (x + n) + s) * 2) := by
  simp only [acF, pyF, faF, flF, tlF]
  (try simp)
theorem tr_4_1 : trL 4 1 = [10, 50, 1] := by decide
theorem ac_4_2 (n s x : Int) : acF 4 2 n s x = jxor x n := by
  simp only [acF, pyF, faF, flF, tlF]
  (try simp)
theorem tr_4_2 : trL 4 2 = [11] := by decide
theorem ac_4_3 (n s x : Int) : acF 4 3 n s x = w32 (w32 (w32 (w32 (x + n) + s) * 2) - jxor 1 n) := by
  simp only [acF, pyF, faF, flF, tlF]
  (try simp)
theorem tr_4_3 : trL 4 3 = [2, 10, 50, 1, 11] := by decide
theorem ac_5_0 (n s x : Int) : acF 5 0 n s x = w32 (-(w32 (w32 (x + n) + s))) := by
  simp only [acF, pyF, faF, flF, tlF]
  (try simp)
theorem tr_5_0 : trL 5 0 = [60, 50, 1] := by decide
theorem ac_5_1 (n s x : Int) : acF 5 1 n s x = w32 (w32 (-(w32 (w32 (x + n) + s))) * 2) := by
  simp only [acF, pyF, faF, flF, tlF]
  (try simp)
theorem tr_5_1 : trL 5 1 = [10, 60, 50, 1] := by decide
theorem ac_5_2 (n s x : Int) : acF 5 2 n s x = w32 (jxor x n + w32 (-(w32 (w32 (1 + n) + s)))) := by
  simp only [acF, pyF, faF, flF, tlF]
  (try simp)
theorem tr_5_2 : trL 5 2 = [61, 11, 60, 50, 1] := by decide
theorem ac_5_3 (n s x : Int) : acF 5 3 n s x = w32 (w32 (w32 (-(w32 (w32 (x + n) + s))) * 2) - w32 (jxor 1 n + w32 (-(w32 (w32 (1 + n) + s))))) := by
  simp only [acF, pyF, faF, flF, tlF]
  (try simp)
theorem tr_5_3 : trL 5 3 = [2, 10, 60, 50, 1, 61, 11, 60, 50, 1] := by decide
def lsE (h : JH) (b : Nat) : Nat → List Int → Prop
  | _, [] => True
  | o, x :: r => h.2.2 b o = x ∧ lsE h b (o + 1) r
theorem lsE.at {h : JH} {b : Nat} : ∀ (l : List Int) (o : Nat), lsE h b o l → ∀ i, i < l.length → h.2.2 b (o + i) = l.getD i 0 := by
  intro l
  induction l with
  | nil => intro o _ i hi; simp at hi
  | cons y r ih =>
    intro o hl i hi
    match i, hi with
    | 0, _ => exact hl.1
    | i + 1, hi =>
      have := ih (o + 1) hl.2 i (by simp only [List.length_cons] at hi; omega)
      rw [show o + (i + 1) = o + 1 + i by omega, this]
      rfl
def AcT (h : JH) (a i b : Nat) (l : List Int) : Prop := h.2.2 a i = (l.length : Int) ∧ lsE h b 0 l
def X3 (h : JH) : Prop := h.2.2 19 5 = h.2.2 42 60 ∧ ∀ i : Nat, (i : Int) < h.2.2 19 5 → i < 24 → h.2.2 22 i = h.2.2 78 i
def C3 : List (Nat × Nat) := [(19, 6), (22, 0), (42, 61), (78, 0)]
theorem X3.fr {h h' : JH} (x : X3 h) (e : ∀ a i, inW C3 a i = true → h'.2.2 a i = h.2.2 a i) : X3 h' := by
  refine ⟨by rw [e 19 5 rfl, e 42 60 rfl]; exact x.1, fun i hi i24 => ?_⟩
  rw [e 19 5 rfl] at hi
  rw [e 22 _ rfl, e 78 _ rfl]
  exact x.2 i hi i24
def Kd (h : JH) : Prop := ∀ j : Nat, (j : Int) < h.2.2 0 7 → ∃ r : Nat, h.2.2 24 j = (r : Int) ∧ 83 ≤ r ∧ r < h.1 ∧ kdT (h.2.1 r).1 = h.2.2 60 j ∧ h.2.2 r 1 = (j : Int) ∧ h.2.2 r 2 = h.2.2 61 j
def Cc : List (Nat × Nat) := [(0, 8), (42, 29), (24, 0), (60, 0), (61, 0)] ++ C3
def Rl (h : JH) : Prop := h.2.2 0 7 = h.2.2 42 28 ∧ Kd h ∧ X3 h
theorem C3_in {a i : Nat} (h : inW C3 a i = true) : inW Cc a i = true := by
  unfold Cc
  unfold inW at h ⊢
  rw [List.any_append, h, Bool.or_true]
theorem Rl.fr {h h' : JH} (x : Rl h) (e : ∀ a i, inW Cc a i = true → h'.2.2 a i = h.2.2 a i) (hl : h.1 ≤ h'.1) (ht : ∀ a, a < h.1 → h'.2.1 a = h.2.1 a) (hd : ∀ j r : Nat, (j : Int) < h.2.2 0 7 → h.2.2 24 j = (r : Int) → h'.2.2 r 1 = h.2.2 r 1 ∧ h'.2.2 r 2 = h.2.2 r 2) : Rl h' := by
  refine ⟨by rw [e 0 7 rfl, e 42 28 rfl]; exact x.1, fun j hj => ?_, x.2.2.fr (fun a i hc => e a i (C3_in hc))⟩
  rw [e 0 7 rfl] at hj
  obtain ⟨r, r1, r2, r3, r4, r5, r6⟩ := x.2.1 j hj
  obtain ⟨d1, d2⟩ := hd j r hj r1
  exact ⟨r, by rw [e 24 _ rfl]; exact r1, r2, by omega, by rw [ht r r3, e 60 _ rfl]; exact r4, d1.trans r5, by rw [d2, e 61 _ rfl]; exact r6⟩
def FeS (G : GH) (h h' : JH) : Prop := ∀ a, 83 ≤ a → a < G.1 → (G.2 a).1 = 0 → h'.2.2 a 1 = h.2.2 a 1 ∧ h'.2.2 a 2 = h.2.2 a 2
theorem Gd.fe {G : GH} {h : JH} (g : Gd G h) {a : Nat} (a0 : 83 ≤ a) (a1 : a < G.1) (e : (G.2 a).1 = 0) : h.2.2 a 1 = (G.2 a).2.1 ∧ h.2.2 a 2 = (G.2 a).2.2 := by
  rcases g.2.2.2.1 a a0 a1 with d | d | d
  · exact ⟨d.2.2.2.2.1, d.2.2.2.2.2.1⟩
  · have := d.1
    omega
  · have := d.1
    omega
theorem fe_same {G G' : GH} {h h' : JH} (g : Gd G h) (g' : Gd G' h') (he : ∀ a, a < G.1 → G'.2 a = G.2 a) (hl : G.1 ≤ G'.1) : FeS G h h' := fun a a0 a1 e => by
  have x := g.fe a0 a1 e
  have y := g'.fe a0 (by omega) (by rw [he a a1]; exact e)
  rw [he a a1] at y
  exact ⟨y.1.trans x.1.symm, y.2.trans x.2.symm⟩
theorem FeS.at {G : GH} {h h' : JH} (s : FeS G h h') (g : Gd G h) (j r : Nat) (hj : (j : Int) < h.2.2 0 7) (hr : h.2.2 24 j = (r : Int)) : h'.2.2 r 1 = h.2.2 r 1 ∧ h'.2.2 r 2 = h.2.2 r 2 := by
  obtain ⟨q, e1, e2, e3, e4, -⟩ := g.2.2.2.2.2.1 j hj
  have : q = r := by omega
  subst this
  exact s q e2 e3 e4
def dsj (C W : List (Nat × Nat)) : Bool := C.all (fun c => decide (c.1 < 83) && W.all (fun w => w.1 != c.1 || (w.2 != 0 && c.2 != 0 && w.2 != c.2)))
theorem dsj_at {C W : List (Nat × Nat)} (h : dsj C W = true) {a i : Nat} (hc : inW C a i = true) : a < 83 ∧ inW W a i = false := by
  unfold inW at hc
  obtain ⟨c, hm, hq⟩ := List.any_eq_true.mp hc
  have h1 := List.all_eq_true.mp h c hm
  rw [Bool.and_eq_true, decide_eq_true_eq] at h1
  simp only [Bool.or_eq_true, Bool.and_eq_true, beq_iff_eq, decide_eq_true_eq] at hq
  have ha : a < 83 := by omega
  refine ⟨ha, ?_⟩
  unfold inW
  rw [List.any_eq_false]
  intro w hw hx
  have h2 := List.all_eq_true.mp h1.2 w hw
  simp only [Bool.or_eq_true, Bool.and_eq_true, bne_iff_ne] at h2
  simp only [Bool.or_eq_true, Bool.and_eq_true, beq_iff_eq, decide_eq_true_eq] at hx
  omega
theorem Rl.kp {G : GH} {W : List (Nat × Nat)} {h h' : JH} (x : Rl h) (g : Gd G h) (g' : Gd G h') (k : Kp W h h') (hd : dsj Cc W = true) : Rl h' := x.fr (fun a i hc => k.v (dsj_at hd hc).2) (by rw [k.1]; exact Nat.le_refl _) (fun a _ => by rw [k.2.1]) (fun j r hj hr => (fe_same g g' (fun _ _ => rfl) (Nat.le_refl _)).at g j r hj hr)
theorem Rl.kxq {G : GH} {W : List (Nat × Nat)} {h h' : JH} (x : Rl h) (g : Gd G h) (k : Kx W h h') (s : FeS G h h') (hd : dsj Cc W = true) (h83 : 83 ≤ h.1) : Rl h' := x.fr (fun a i hc => k.2.2 a i (Nat.lt_of_lt_of_le (dsj_at hd hc).1 h83) (dsj_at hd hc).2) k.1 k.2.1 (fun j r hj hr => s.at g j r hj hr)
def FV (k p n : Int) : Prop := 0 ≤ k ∧ k ≤ 5 ∧ (k < 4 ∨ (0 ≤ p ∧ p ≤ 100)) ∧ n ≠ 20
def prF (k p : Int) : Int := if 4 ≤ k then p else 0
def feG (k p n : Int) : Int := if 0 ≤ k ∧ k ≤ 5 ∧ (k < 4 ∨ (0 ≤ p ∧ p ≤ 100)) ∧ n ≠ 20 then n + 1 else n
def FeK (h h' : JH) (k p n : Int) : Prop := h'.2.2 24 n.toNat = (h.1 : Int) ∧ h.1 < h'.1 ∧ kdT (h'.2.1 h.1).1 = k ∧ (∀ j : Nat, j ≠ n.toNat → h'.2.2 24 j = h.2.2 24 j) ∧ (∀ a, a < h.1 → h'.2.1 a = h.2.1 a) ∧ h'.2.2 h.1 1 = n ∧ h'.2.2 h.1 2 = prF k p
theorem kd_fe {k : Int} (k0 : 0 ≤ k) (k5 : k ≤ 5) : kdT (feelT k) = k := by
  rcases (show k = 0 ∨ k = 1 ∨ k = 2 ∨ k = 3 ∨ k = 4 ∨ k = 5 by omega) with z | z | z | z | z | z <;> subst z <;> rfl
theorem FeK.mk {h hN hA h' : JH} {k n p q w s : Int} (z : hN = jwr (jwr (jwr (jnew h (feelT k) 3) h.1 0 19) h.1 1 q) h.1 2 p) (h83 : 83 ≤ h.1) (k0 : 0 ≤ k) (k5 : k ≤ 5) (ea : hA = jwr hN 24 n.toNat (h.1 : Int)) (e : h' = jwr hA 0 7 w) (hq : q = n) (hp : p = prF k s) : FeK h h' k s n := by
  have t1 : h'.1 = h.1 + 1 := by rw [(jwr_ty e).1, (jwr_ty ea).1, z]; rfl
  have t2 : ∀ a, h'.2.1 a = if a = h.1 then (feelT k, 3) else h.2.1 a := fun a => by rw [(jwr_ty e).2, (jwr_ty ea).2, z]; rfl
  have v24 : ∀ j, hN.2.2 24 j = h.2.2 24 j := fun j => by
    rw [z]
    show (if 24 = h.1 ∧ j = 2 then p else if 24 = h.1 ∧ j = 1 then q else if 24 = h.1 ∧ j = 0 then 19 else if 24 = h.1 then jdef (feelT k) j else h.2.2 24 j) = _
    rw [if_neg (by omega), if_neg (by omega), if_neg (by omega), if_neg (by omega)]
  have n1 : hN.2.2 h.1 1 = q := by
    rw [z]
    show (if h.1 = h.1 ∧ 1 = 2 then p else if h.1 = h.1 ∧ 1 = 1 then q else _) = _
    rw [if_neg (by omega), if_pos (by omega)]
  have n2 : hN.2.2 h.1 2 = p := by
    rw [z]
    show (if h.1 = h.1 ∧ 2 = 2 then p else _) = _
    rw [if_pos (by omega)]
  refine ⟨by rw [jw_ne e (Or.inl (by decide)), jw_eq ea], by omega, ?_, fun j hj => by rw [jw_ne e (Or.inl (by decide)), jw_ne ea (Or.inr hj), v24], fun a ha => by rw [t2, if_neg (by omega)], by rw [jw_ne e (Or.inl (by omega)), jw_ne ea (Or.inl (by omega)), n1, hq], by rw [jw_ne e (Or.inl (by omega)), jw_ne ea (Or.inl (by omega)), n2, hp]⟩
  rw [t2, if_pos rfl]
  exact kd_fe k0 k5
def FeC (h h' : JH) (k p n : Int) : Prop := (¬ FV k p n ∧ h' = h) ∨ (FV k p n ∧ FeK h h' k p n)
def FeR (h h' : JH) (k p n : Int) : Prop := (¬ FV k p n ∧ Sm h h' 60 ∧ Sm h h' 61) ∨ (FV k p n ∧ Up h h' 60 n k ∧ Up h h' 61 n (prF k p))
theorem Rl.feel {h h1 h2 : JH} {k p : Int} (x : Rl h) (h83 : 83 ≤ h.1) (hn : 0 ≤ h.2.2 0 7) (k1 : Kx [(0, 8), (24, 0)] h h1) (k2 : Kp [(42, 29), (60, 0), (61, 0)] h1 h2) (f1 : FeC h h1 k p (h.2.2 0 7)) (f2 : FeR h1 h2 k p (h.2.2 0 7)) (e : h2.2.2 0 7 = h2.2.2 42 28) (en : FV k p (h.2.2 0 7) → h2.2.2 0 7 = h.2.2 0 7 + 1) (e0 : ¬ FV k p (h.2.2 0 7) → h2.2.2 0 7 = h.2.2 0 7) : Rl h2 := by
  have f : ∀ a j, a < 83 → inW [(0, 8), (24, 0)] a j = false → inW [(42, 29), (60, 0), (61, 0)] a j = false → h2.2.2 a j = h.2.2 a j := fun a j ha c1 c2 => (k2.v c2).trans (k1.2.2 a j (by omega) c1)
  have e24 : ∀ j, h2.2.2 24 j = h1.2.2 24 j := fun j => k2.v rfl
  have e60 : ∀ j, h1.2.2 60 j = h.2.2 60 j := fun j => k1.2.2 60 j (by omega) rfl
  have e61 : ∀ j, h1.2.2 61 j = h.2.2 61 j := fun j => k1.2.2 61 j (by omega) rfl
  have hi : ∀ a i, 83 ≤ a → h2.2.2 a i = h1.2.2 a i := fun a i ha => k2.v (inW_hi (by decide) ha)
  have lo : ∀ a i, 83 ≤ a → a < h.1 → h1.2.2 a i = h.2.2 a i := fun a i ha hb => k1.2.2 a i hb (inW_hi (by decide) ha)
  refine ⟨e, fun j hj => ?_, x.2.2.fr (fun a i hc => f a i (dsj_at (show dsj C3 [(0, 8), (24, 0)] = true by decide) hc).1 (dsj_at (show dsj C3 [(0, 8), (24, 0)] = true by decide) hc).2 (dsj_at (show dsj C3 [(42, 29), (60, 0), (61, 0)] = true by decide) hc).2)⟩
  rw [e24, k2.1, k2.2.1]
  rcases f1 with ⟨n1, m1⟩ | ⟨t1, m1⟩
  · rcases f2 with ⟨_, m2, m3⟩ | ⟨t2, _⟩
    · rw [e0 n1] at hj
      obtain ⟨r, r1, r2, r3, r4, r5, r6⟩ := x.2.1 j hj
      rw [m2, m3]
      refine ⟨r, ?_, r2, ?_, ?_, ?_, ?_⟩
      · rw [m1]; exact r1
      · rw [m1]; exact r3
      · rw [m1]; exact r4
      · rw [hi r 1 r2, m1]; exact r5
      · rw [hi r 2 r2, m1]; exact r6
    · exact absurd t2 n1
  · rcases f2 with ⟨n2, _⟩ | ⟨_, m2, m3⟩
    · exact absurd t1 n2
    · rw [en t1] at hj
      obtain ⟨a1, a2, a3, a4, a5, a6, a7⟩ := m1
      rcases Decidable.em (j = (h.2.2 0 7).toNat) with z | z
      · rw [z, a1, m2.1, m3.1]
        exact ⟨h.1, rfl, h83, a2, a3, by rw [hi _ _ h83, a6]; omega, by rw [hi _ _ h83, a7]⟩
      · obtain ⟨r, r1, r2, r3, r4, r5, r6⟩ := x.2.1 j (by omega)
        rw [a4 j z, m2.2 j z, m3.2 j z, e60, e61]
        exact ⟨r, r1, r2, by omega, by rw [a5 r r3]; exact r4, by rw [hi r 1 r2, lo r 1 r2 r3]; exact r5, by rw [hi r 2 r2, lo r 2 r2 r3]; exact r6⟩
def AV0 (f a n : Int) : Prop := 0 ≤ f ∧ f < n ∧ 0 ≤ a ∧ a ≤ 3
def AcC (h h' : JH) (f a x r : Int) : Prop := (¬ AV0 f a (h.2.2 0 7) ∧ r = 0 ∧ h'.2.2 19 5 = 0) ∨ (AV0 f a (h.2.2 0 7) ∧ ∃ o : Nat, h.2.2 24 f.toNat = (o : Int) ∧ r = acF (kdT (h.2.1 o).1) a (h.2.2 o 1) (h.2.2 o 2) x ∧ AcT h' 19 5 22 (trL (kdT (h.2.1 o).1) a))
def AcR (h h' : JH) (f a x r : Int) : Prop := (¬ AV0 f a (h.2.2 42 28) ∧ r = 0 ∧ h'.2.2 42 60 = 0) ∨ (AV0 f a (h.2.2 42 28) ∧ r = acF (h.2.2 60 f.toNat) a f (h.2.2 61 f.toNat) x ∧ AcT h' 42 60 78 (trL (h.2.2 60 f.toNat) a))
theorem Rl.act {G : GH} {h h1 h2 : JH} {f a y r1 r2 : Int} (x : Rl h) (g : Gd G h) (g2 : Gd G h2) (k1 : Kp [(19, 6), (22, 0)] h h1) (k2 : Kp [(42, 61), (78, 0)] h1 h2) (f1 : AcC h h1 f a y r1) (f2 : AcR h1 h2 f a y r2) : r1 = r2 ∧ Rl h2 := by
  have e : ∀ a j, inW [(19, 6), (22, 0)] a j = false → inW [(42, 61), (78, 0)] a j = false → h2.2.2 a j = h.2.2 a j := fun a j c1 c2 => (k2.v c2).trans (k1.v c1)
  have kd : Kd h2 := fun j hj => by
    rw [e 0 7 rfl rfl] at hj
    obtain ⟨r, q1, q2, q3, q4, q5, q6⟩ := x.2.1 j hj
    have d := (fe_same g g2 (fun _ _ => rfl) (Nat.le_refl _)).at g j r hj q1
    exact ⟨r, by rw [e 24 _ rfl rfl]; exact q1, q2, by rw [k2.1, k1.1]; exact q3, by rw [k2.2.1, k1.2.1, e 60 _ rfl rfl]; exact q4, d.1.trans q5, by rw [d.2, e 61 _ rfl rfl]; exact q6⟩
  have c0 : h2.2.2 0 7 = h2.2.2 42 28 := by rw [e 0 7 rfl rfl, e 42 28 rfl rfl]; exact x.1
  have e5 : h2.2.2 19 5 = h1.2.2 19 5 := k2.v rfl
  have e22 : ∀ j, h2.2.2 22 j = h1.2.2 22 j := fun j => k2.v rfl
  have n28 : h1.2.2 42 28 = h.2.2 0 7 := (k1.v rfl).trans x.1.symm
  unfold AcR at f2
  rw [n28] at f2
  rcases f1 with ⟨n1, q1, q2⟩ | ⟨t1, o, q1, q2, q3⟩
  · rcases f2 with ⟨_, p1, p2⟩ | ⟨t2, _⟩
    · refine ⟨q1.trans p1.symm, c0, kd, by rw [e5, q2, p2], fun i hi => ?_⟩
      rw [e5, q2] at hi
      omega
    · exact absurd t2 n1
  · rcases f2 with ⟨n2, _⟩ | ⟨_, p1, p2⟩
    · exact absurd t1 n2
    · unfold AV0 at t1
      obtain ⟨r, b1, b2, b3, b4, b5, b6⟩ := x.2.1 f.toNat (by omega)
      have eo : r = o := by omega
      subst eo
      have e60 : h1.2.2 60 f.toNat = h.2.2 60 f.toNat := k1.v rfl
      have e61 : h1.2.2 61 f.toNat = h.2.2 61 f.toNat := k1.v rfl
      rw [e60, e61, ← b4, ← b6] at p1
      rw [e60, ← b4] at p2
      rw [b5, show ((f.toNat : Nat) : Int) = f by omega] at q2
      refine ⟨q2.trans p1.symm, c0, kd, by rw [e5, q3.1, p2.1], fun i hi i24 => ?_⟩
      rw [e5, q3.1] at hi
      have u := lsE.at _ 0 q3.2 i (by omega)
      have w := lsE.at _ 0 p2.2 i (by omega)
      rw [Nat.zero_add] at u w
      rw [e22, u, w]
def tcF (i n v : Int) : Int := if 0 ≤ i ∧ i < n ∧ i < 24 then v else -1
theorem Rl.tc {h : JH} (x : Rl h) (i : Int) : tcF i (h.2.2 19 5) (h.2.2 22 i.toNat) = tcF i (h.2.2 42 60) (h.2.2 78 i.toNat) := by
  unfold tcF
  rw [← x.2.2.1]
  split
  · exact x.2.2.2 i.toNat (by omega) (by omega)
  · rfl
theorem ne83 {k a : Nat} (h : 83 ≤ k) (ha : a < 83) : k ≠ a := by omega
theorem gQ_lo {G : GH} {r a : Nat} {m : Int} (h : a < r) : (gQ G r m).2 a = G.2 a := by
  show (if a < r then G.2 a else _) = _
  rw [if_pos h]
section FaF
variable {ok : Nat → Nat → Nat → List AV → JH → (Option AV → JH → Prop) → Prop} {xl : Option Nat} {xs : Nat → Int} {cd : List JE} {mc ms : Nat} {Q : Option AV → JH → Prop} {K : List JE} {L S : List AV} {h : JH} {cu su pc n' : Nat} {ps : List Nat} {z i : Int} {G : GH}
theorem g_faaldF (g : Gd G h) {cn : Int} (hc : h.2.2 0 7 = cn) (h0 : 0 ≤ i) (h1 : i < cn) (kk : ∀ (r : Nat), IsF G r → 83 ≤ r → h.2.2 24 i.toNat = (r : Int) → jEv ok xl xs cd mc ms Q (K, L, (2, (r : Int)) :: S, h, cu, su)) : jEv ok xl xs cd mc ms Q ((pc, .aaload, n', [25], z) :: K, L, (0, i) :: (2, 24) :: S, h, cu, su) := by
  have b := g.rg ad0 (i := 7) (by decide) rf0_7
  obtain ⟨r, e1, e2, e3, e4, -⟩ := g.2.2.2.2.2.1 i.toNat (by omega)
  exact ev_aald (r := 24) (g.lt ad24) (g.tg ad24) (Or.inr rfl) (j := i.toNat) (by omega) (by rw [g.ln ad24]; omega) e1 (kk r (Or.inr ⟨e2, e3, e4⟩) e2 e1)
end FaF
theorem jcall_F {pc x n na k0 k1 k2 k3 k4 k5 k r : Nat} {z : Int} {ps : List Nat} {K : List JE} {A S' : List AV} {h : JH} (hA : A.length = na) (h1 : r < h.1) (h2 : jfam 0 (h.2.1 r).1 = true) (e1 : [k0, k1, k2, k3, k4, k5].getD (jpos (h.2.1 r).1) 0 = k) (e2 : k ≠ 9999) (hw : jwid S' ≤ 8) : jcall ((pc, .invokevirtual x, n, 9 :: na :: k0 :: k1 :: k2 :: k3 :: k4 :: k5 :: ps, z) :: K) (A ++ (2, (r : Int)) :: S') h = some (k, (2, (r : Int)) :: A.reverse, S') := by
  subst hA
  have e3 := jks (k0 := k0) (k1 := k1) (k2 := k2) (k3 := k3) (k4 := k4) (k5 := k5) (ps := ps) (jpos_le (h.2.1 r).1) 9 A.length
  rw [e1] at e3
  simp only [jcall]
  rw [show (9 :: A.length :: k0 :: k1 :: k2 :: k3 :: k4 :: k5 :: ps).getD 1 0 = A.length from rfl]
  rw [show (A ++ (2, (r : Int)) :: S')[A.length]? = some (2, (r : Int)) by simp]
  simp only [jhd, Int.toNat_natCast]
  rw [if_neg (by simp), e3]
  rw [show (A ++ (2, (r : Int)) :: S').drop (A.length + 1) = S' by simp, show (A ++ (2, (r : Int)) :: S').take A.length = A by simp]
  rw [if_pos ⟨by trivial, by trivial, by omega, h1, h2, e2, hw⟩]
set_option maxHeartbeats 4000000 in
theorem t178 {G : GH} {h : JH} (g : Gd G h) {a1 : Int} (la1 : (-2147483648) ≤ a1) (ua1 : a1 ≤ 2147483647) {a2 : Int} (la2 : (-2147483648) ≤ a2) (ua2 : a2 ≤ 2147483647) {w0 : Int} (ew0 : h.2.2 0 7 = w0) (lw0 : 0 ≤ w0) (uw0 : w0 ≤ 20) (hB : h.1 ≤ 1000000) : jOk 5 1 3 178 [(2, 0), (0, a1), (0, a2)] h (fun v h' => PN [(0, 8), (24, 0)] h 0 (-3) 19 v h' ∧ h'.2.2 0 7 = feG a1 a2 w0 ∧ FeC h h' a1 a2 w0) := by
  refine ⟨by decide, by rw [ml178]; exact Nat.le_of_ble_eq_true rfl, ?_⟩
  rw [ml178, pp178]
  show jEv _ none _ c178_0 1 3 _ (c178_0, [(2, 0), (0, a1), (0, a2), (9, 0)], [], h, 0, 0)
  have k0 := Kp.rf [(0, 8), (24, 0)] h
  refine ev_iload_n rfl ?_
  refine ev_iconst ?_
  refine ev_icmpeq f178_10 (fun c75156 => ?_) (fun c75156 => ?_)
  · refine ev_iconst ?_
    refine ev_goto f178_15 ?_
    refine ev_istore_n (L' := [(2, 0), (0, a1), (0, a2), (0, 1)]) (Nat.le_of_ble_eq_true rfl) rfl ?_
    refine ev_iload_n rfl ?_
    refine ev_iflt f178_39 (fun c75157 => absurd c75157 (by omega)) (fun c75157 => ?_)
    refine ev_iload_n rfl ?_
    refine ev_iconst ?_
    refine ev_icmpgt f178_39 (fun c75158 => absurd c75158 (by omega)) (fun c75158 => ?_)
    refine ev_iload_n rfl ?_
    refine ev_ifeq f178_41 (fun c75159 => absurd c75159 (by omega)) (fun c75159 => ?_)
    refine ev_iload_n rfl ?_
    refine ev_iflt f178_39 (fun c75160 => ?_) (fun c75160 => ?_)
    · refine ev_iconst ?_
      exact ev_ret rfl (by decide) (by decide) ⟨⟨_, rfl, by omega, by omega, ⟨_, g⟩, k0.x, by rw [k0.1]; omega⟩, ((ew0)).trans (by (try unfold feG); (repeat' split) <;> omega), Or.inl ⟨by unfold FV; omega, rfl⟩⟩
    · refine ev_iload_n rfl ?_
      refine ev_bipush ?_
      refine ev_icmple f178_41 (fun c75161 => ?_) (fun c75161 => ?_)
      · refine ev_aload_n rfl ?_
        refine g_getv (r := 0) (v := w0) g ad0 (by decide) ft11_7 (ew0) ?_
        refine ev_bipush ?_
        refine ev_icmplt f178_53 (fun c75162 => ?_) (fun c75162 => ?_)
        · refine ev_aload_n rfl ?_
          refine g_getp (r := 0) (c := 24) g ad0 (by decide) (by decide) rf0_6 ft11_6 ?_
          refine ev_aload_n rfl ?_
          refine g_getv (r := 0) (v := w0) g ad0 (by decide) ft11_7 (ew0) ?_
          refine ev_aload_n rfl ?_
          refine ev_iload_n rfl ?_
          refine ev_aload_n rfl ?_
          refine g_getv (r := 0) (v := w0) g ad0 (by decide) ft11_7 (ew0) ?_
          refine ev_iload_n rfl ?_
          refine ev_ifeq f178_75 (fun c75163 => absurd c75163 (by omega)) (fun c75163 => ?_)
          refine ev_iload_n rfl ?_
          refine ev_goto f178_76 ?_
          refine ev_call (jcall_v (A := [(0, a2), (0, w0), (0, a1)]) (S' := [(0, w0), (2, 24)]) (r := 0) rfl (g.lt ad0) (g.tg ad0) (Nat.le_of_ble_eq_true rfl)) (jOk_le (by decide) (newFeel (d := 0) (s := 19) (g.lt ad0) (g.fam ad0 (by decide)) (g.pt ad0 (i := 4) (by decide) rf0_4) (g.lt ad19))) (by decide) (by decide) (fun w75164 h75164 z75164 => ?_)
          obtain ⟨rfl, z75164⟩ := z75164
          obtain ⟨g75164, es75164, x75164⟩ := g.newF (feelT_fam _) (by omega) (by omega) (by omega) (by omega) z75164
          have hz75164 := k0.1
          have k75164 := Kx.tx k0 x75164 (by decide)
          have fz75164 := g.2.1.1
          show jEv _ _ _ _ _ _ _ (_, [(2, 0), (0, a1), (0, a2), (0, 1)], [(2, (h.1 : Int)), (0, w0), (2, 24)], _, _, _)
          have ff75165 := gF_at (n := w0) (p := a2) g
          refine ev_astoG (r := 24) (j := (w0).toNat) (v := h.1) (g75164.lt ad24) (g75164.tg ad24) (by omega) (by rw [g75164.ln ad24]; omega) (by rw [es75164]; omega) (newF_ty (feelT_fam _) z75164) (fun h75165a e75165a => ?_)
          refine ev_aload_n rfl ?_
          refine ev_dup (by decide) ?_
          refine ev_getf (r := 0) (v := w0) (by rw [(jwr_ty e75165a).1]; exact g75164.lt ad0) (by rw [(jwr_ty e75165a).2]; exact g75164.fam ad0 (by decide)) ft11_7 ((jw_ne e75165a (Or.inl (by decide))).trans (((x75164.2.2 0 7 (g.lt ad0) (by decide)).trans ew0))) ?_
          refine ev_iconst ?_
          refine ev_iadd (r := (w0 + 1)) (by unfold w32; omega) ?_
          refine ev_putfG (r := 0) (by rw [(jwr_ty e75165a).1]; exact g75164.lt ad0) (by rw [(jwr_ty e75165a).2]; exact g75164.fam ad0 (by decide)) ft11_7 (fun e => absurd e nz11_7) (fun e => absurd e (by decide)) (fun h75165 e75165 => ?_)
          have g75165 := g75164.putF ff75165 (((x75164.2.2 0 7 (g.lt ad0) (by decide)).trans ew0)) e75165a e75165 (by omega) (by omega) (by omega)
          have k75165 := (k75164.wr e75165a rfl).wr e75165 rfl
          refine ev_aload_n rfl ?_
          refine g_getv (r := 0) (v := (w0 + 1)) g75165 ad0 (by decide) ft11_7 ((jw_eq e75165)) ?_
          refine ev_iconst ?_
          refine ev_isub (r := w0) (by unfold w32; omega) ?_
          exact ev_ret rfl (by decide) (by decide) ⟨⟨_, rfl, by omega, by omega, ⟨_, g75165⟩, k75165, by rw [(jwr_ty e75165).1, (jwr_ty e75165a).1, es75164]; omega⟩, (((jw_eq e75165))).trans (by (try unfold feG); (repeat' split) <;> omega), Or.inr ⟨by unfold FV; omega, FeK.mk z75164 g.2.1.1 (by omega) (by omega) e75165a e75165 (by omega) (by unfold prF; split <;> omega)⟩⟩
        · refine ev_bipush ?_
          exact ev_ret rfl (by decide) (by decide) ⟨⟨_, rfl, by omega, by omega, ⟨_, g⟩, k0.x, by rw [k0.1]; omega⟩, ((ew0)).trans (by (try unfold feG); (repeat' split) <;> omega), Or.inl ⟨by unfold FV; omega, rfl⟩⟩
      · refine ev_iconst ?_
        exact ev_ret rfl (by decide) (by decide) ⟨⟨_, rfl, by omega, by omega, ⟨_, g⟩, k0.x, by rw [k0.1]; omega⟩, ((ew0)).trans (by (try unfold feG); (repeat' split) <;> omega), Or.inl ⟨by unfold FV; omega, rfl⟩⟩
  · refine ev_iload_n rfl ?_
    refine ev_iconst ?_
    refine ev_icmpne f178_14 (fun c75166 => ?_) (fun c75166 => ?_)
    · refine ev_iconst ?_
      refine ev_istore_n (L' := [(2, 0), (0, a1), (0, a2), (0, 0)]) (Nat.le_of_ble_eq_true rfl) rfl ?_
      refine ev_iload_n rfl ?_
      refine ev_iflt f178_39 (fun c75167 => ?_) (fun c75167 => ?_)
      · refine ev_iconst ?_
        exact ev_ret rfl (by decide) (by decide) ⟨⟨_, rfl, by omega, by omega, ⟨_, g⟩, k0.x, by rw [k0.1]; omega⟩, ((ew0)).trans (by (try unfold feG); (repeat' split) <;> omega), Or.inl ⟨by unfold FV; omega, rfl⟩⟩
      · refine ev_iload_n rfl ?_
        refine ev_iconst ?_
        refine ev_icmpgt f178_39 (fun c75168 => ?_) (fun c75168 => ?_)
        · refine ev_iconst ?_
          exact ev_ret rfl (by decide) (by decide) ⟨⟨_, rfl, by omega, by omega, ⟨_, g⟩, k0.x, by rw [k0.1]; omega⟩, ((ew0)).trans (by (try unfold feG); (repeat' split) <;> omega), Or.inl ⟨by unfold FV; omega, rfl⟩⟩
        · refine ev_iload_n rfl ?_
          refine ev_ifeq f178_41 (fun c75169 => ?_) (fun c75169 => absurd c75169 (by omega))
          refine ev_aload_n rfl ?_
          refine g_getv (r := 0) (v := w0) g ad0 (by decide) ft11_7 (ew0) ?_
          refine ev_bipush ?_
          refine ev_icmplt f178_53 (fun c75170 => ?_) (fun c75170 => ?_)
          · refine ev_aload_n rfl ?_
            refine g_getp (r := 0) (c := 24) g ad0 (by decide) (by decide) rf0_6 ft11_6 ?_
            refine ev_aload_n rfl ?_
            refine g_getv (r := 0) (v := w0) g ad0 (by decide) ft11_7 (ew0) ?_
            refine ev_aload_n rfl ?_
            refine ev_iload_n rfl ?_
            refine ev_aload_n rfl ?_
            refine g_getv (r := 0) (v := w0) g ad0 (by decide) ft11_7 (ew0) ?_
            refine ev_iload_n rfl ?_
            refine ev_ifeq f178_75 (fun c75171 => ?_) (fun c75171 => absurd c75171 (by omega))
            refine ev_iconst ?_
            refine ev_call (jcall_v (A := [(0, 0), (0, w0), (0, a1)]) (S' := [(0, w0), (2, 24)]) (r := 0) rfl (g.lt ad0) (g.tg ad0) (Nat.le_of_ble_eq_true rfl)) (jOk_le (by decide) (newFeel (d := 0) (s := 19) (g.lt ad0) (g.fam ad0 (by decide)) (g.pt ad0 (i := 4) (by decide) rf0_4) (g.lt ad19))) (by decide) (by decide) (fun w75172 h75172 z75172 => ?_)
            obtain ⟨rfl, z75172⟩ := z75172
            obtain ⟨g75172, es75172, x75172⟩ := g.newF (feelT_fam _) (by omega) (by omega) (by omega) (by omega) z75172
            have hz75172 := k0.1
            have k75172 := Kx.tx k0 x75172 (by decide)
            have fz75172 := g.2.1.1
            show jEv _ _ _ _ _ _ _ (_, [(2, 0), (0, a1), (0, a2), (0, 0)], [(2, (h.1 : Int)), (0, w0), (2, 24)], _, _, _)
            have ff75173 := gF_at (n := w0) (p := 0) g
            refine ev_astoG (r := 24) (j := (w0).toNat) (v := h.1) (g75172.lt ad24) (g75172.tg ad24) (by omega) (by rw [g75172.ln ad24]; omega) (by rw [es75172]; omega) (newF_ty (feelT_fam _) z75172) (fun h75173a e75173a => ?_)
            refine ev_aload_n rfl ?_
            refine ev_dup (by decide) ?_
            refine ev_getf (r := 0) (v := w0) (by rw [(jwr_ty e75173a).1]; exact g75172.lt ad0) (by rw [(jwr_ty e75173a).2]; exact g75172.fam ad0 (by decide)) ft11_7 ((jw_ne e75173a (Or.inl (by decide))).trans (((x75172.2.2 0 7 (g.lt ad0) (by decide)).trans ew0))) ?_
            refine ev_iconst ?_
            refine ev_iadd (r := (w0 + 1)) (by unfold w32; omega) ?_
            refine ev_putfG (r := 0) (by rw [(jwr_ty e75173a).1]; exact g75172.lt ad0) (by rw [(jwr_ty e75173a).2]; exact g75172.fam ad0 (by decide)) ft11_7 (fun e => absurd e nz11_7) (fun e => absurd e (by decide)) (fun h75173 e75173 => ?_)
            have g75173 := g75172.putF ff75173 (((x75172.2.2 0 7 (g.lt ad0) (by decide)).trans ew0)) e75173a e75173 (by omega) (by omega) (by omega)
            have k75173 := (k75172.wr e75173a rfl).wr e75173 rfl
            refine ev_aload_n rfl ?_
            refine g_getv (r := 0) (v := (w0 + 1)) g75173 ad0 (by decide) ft11_7 ((jw_eq e75173)) ?_
            refine ev_iconst ?_
            refine ev_isub (r := w0) (by unfold w32; omega) ?_
            exact ev_ret rfl (by decide) (by decide) ⟨⟨_, rfl, by omega, by omega, ⟨_, g75173⟩, k75173, by rw [(jwr_ty e75173).1, (jwr_ty e75173a).1, es75172]; omega⟩, (((jw_eq e75173))).trans (by (try unfold feG); (repeat' split) <;> omega), Or.inr ⟨by unfold FV; omega, FeK.mk z75172 g.2.1.1 (by omega) (by omega) e75173a e75173 (by omega) (by unfold prF; split <;> omega)⟩⟩
          · refine ev_bipush ?_
            exact ev_ret rfl (by decide) (by decide) ⟨⟨_, rfl, by omega, by omega, ⟨_, g⟩, k0.x, by rw [k0.1]; omega⟩, ((ew0)).trans (by (try unfold feG); (repeat' split) <;> omega), Or.inl ⟨by unfold FV; omega, rfl⟩⟩
    · refine ev_iconst ?_
      refine ev_goto f178_15 ?_
      refine ev_istore_n (L' := [(2, 0), (0, a1), (0, a2), (0, 1)]) (Nat.le_of_ble_eq_true rfl) rfl ?_
      refine ev_iload_n rfl ?_
      refine ev_iflt f178_39 (fun c75174 => absurd c75174 (by omega)) (fun c75174 => ?_)
      refine ev_iload_n rfl ?_
      refine ev_iconst ?_
      refine ev_icmpgt f178_39 (fun c75175 => absurd c75175 (by omega)) (fun c75175 => ?_)
      refine ev_iload_n rfl ?_
      refine ev_ifeq f178_41 (fun c75176 => absurd c75176 (by omega)) (fun c75176 => ?_)
      refine ev_iload_n rfl ?_
      refine ev_iflt f178_39 (fun c75177 => ?_) (fun c75177 => ?_)
      · refine ev_iconst ?_
        exact ev_ret rfl (by decide) (by decide) ⟨⟨_, rfl, by omega, by omega, ⟨_, g⟩, k0.x, by rw [k0.1]; omega⟩, ((ew0)).trans (by (try unfold feG); (repeat' split) <;> omega), Or.inl ⟨by unfold FV; omega, rfl⟩⟩
      · refine ev_iload_n rfl ?_
        refine ev_bipush ?_
        refine ev_icmple f178_41 (fun c75178 => ?_) (fun c75178 => ?_)
        · refine ev_aload_n rfl ?_
          refine g_getv (r := 0) (v := w0) g ad0 (by decide) ft11_7 (ew0) ?_
          refine ev_bipush ?_
          refine ev_icmplt f178_53 (fun c75179 => ?_) (fun c75179 => ?_)
          · refine ev_aload_n rfl ?_
            refine g_getp (r := 0) (c := 24) g ad0 (by decide) (by decide) rf0_6 ft11_6 ?_
            refine ev_aload_n rfl ?_
            refine g_getv (r := 0) (v := w0) g ad0 (by decide) ft11_7 (ew0) ?_
            refine ev_aload_n rfl ?_
            refine ev_iload_n rfl ?_
            refine ev_aload_n rfl ?_
            refine g_getv (r := 0) (v := w0) g ad0 (by decide) ft11_7 (ew0) ?_
            refine ev_iload_n rfl ?_
            refine ev_ifeq f178_75 (fun c75180 => absurd c75180 (by omega)) (fun c75180 => ?_)
            refine ev_iload_n rfl ?_
            refine ev_goto f178_76 ?_
            refine ev_call (jcall_v (A := [(0, a2), (0, w0), (0, a1)]) (S' := [(0, w0), (2, 24)]) (r := 0) rfl (g.lt ad0) (g.tg ad0) (Nat.le_of_ble_eq_true rfl)) (jOk_le (by decide) (newFeel (d := 0) (s := 19) (g.lt ad0) (g.fam ad0 (by decide)) (g.pt ad0 (i := 4) (by decide) rf0_4) (g.lt ad19))) (by decide) (by decide) (fun w75181 h75181 z75181 => ?_)
            obtain ⟨rfl, z75181⟩ := z75181
            obtain ⟨g75181, es75181, x75181⟩ := g.newF (feelT_fam _) (by omega) (by omega) (by omega) (by omega) z75181
            have hz75181 := k0.1
            have k75181 := Kx.tx k0 x75181 (by decide)
            have fz75181 := g.2.1.1
            show jEv _ _ _ _ _ _ _ (_, [(2, 0), (0, a1), (0, a2), (0, 1)], [(2, (h.1 : Int)), (0, w0), (2, 24)], _, _, _)
            have ff75182 := gF_at (n := w0) (p := a2) g
            refine ev_astoG (r := 24) (j := (w0).toNat) (v := h.1) (g75181.lt ad24) (g75181.tg ad24) (by omega) (by rw [g75181.ln ad24]; omega) (by rw [es75181]; omega) (newF_ty (feelT_fam _) z75181) (fun h75182a e75182a => ?_)
            refine ev_aload_n rfl ?_
            refine ev_dup (by decide) ?_
            refine ev_getf (r := 0) (v := w0) (by rw [(jwr_ty e75182a).1]; exact g75181.lt ad0) (by rw [(jwr_ty e75182a).2]; exact g75181.fam ad0 (by decide)) ft11_7 ((jw_ne e75182a (Or.inl (by decide))).trans (((x75181.2.2 0 7 (g.lt ad0) (by decide)).trans ew0))) ?_
            refine ev_iconst ?_
            refine ev_iadd (r := (w0 + 1)) (by unfold w32; omega) ?_
            refine ev_putfG (r := 0) (by rw [(jwr_ty e75182a).1]; exact g75181.lt ad0) (by rw [(jwr_ty e75182a).2]; exact g75181.fam ad0 (by decide)) ft11_7 (fun e => absurd e nz11_7) (fun e => absurd e (by decide)) (fun h75182 e75182 => ?_)
            have g75182 := g75181.putF ff75182 (((x75181.2.2 0 7 (g.lt ad0) (by decide)).trans ew0)) e75182a e75182 (by omega) (by omega) (by omega)
            have k75182 := (k75181.wr e75182a rfl).wr e75182 rfl
            refine ev_aload_n rfl ?_
            refine g_getv (r := 0) (v := (w0 + 1)) g75182 ad0 (by decide) ft11_7 ((jw_eq e75182)) ?_
            refine ev_iconst ?_
            refine ev_isub (r := w0) (by unfold w32; omega) ?_
            exact ev_ret rfl (by decide) (by decide) ⟨⟨_, rfl, by omega, by omega, ⟨_, g75182⟩, k75182, by rw [(jwr_ty e75182).1, (jwr_ty e75182a).1, es75181]; omega⟩, (((jw_eq e75182))).trans (by (try unfold feG); (repeat' split) <;> omega), Or.inr ⟨by unfold FV; omega, FeK.mk z75181 g.2.1.1 (by omega) (by omega) e75182a e75182 (by omega) (by unfold prF; split <;> omega)⟩⟩
          · refine ev_bipush ?_
            exact ev_ret rfl (by decide) (by decide) ⟨⟨_, rfl, by omega, by omega, ⟨_, g⟩, k0.x, by rw [k0.1]; omega⟩, ((ew0)).trans (by (try unfold feG); (repeat' split) <;> omega), Or.inl ⟨by unfold FV; omega, rfl⟩⟩
        · refine ev_iconst ?_
          exact ev_ret rfl (by decide) (by decide) ⟨⟨_, rfl, by omega, by omega, ⟨_, g⟩, k0.x, by rw [k0.1]; omega⟩, ((ew0)).trans (by (try unfold feG); (repeat' split) <;> omega), Or.inl ⟨by unfold FV; omega, rfl⟩⟩
set_option maxHeartbeats 4000000 in
theorem t285 {G : GH} {h : JH} (g : Gd G h) {a1 : Int} (la1 : (-2147483648) ≤ a1) (ua1 : a1 ≤ 2147483647) {a2 : Int} (la2 : (-2147483648) ≤ a2) (ua2 : a2 ≤ 2147483647) {w0 : Int} (ew0 : h.2.2 42 28 = w0) (lw0 : 0 ≤ w0) (uw0 : w0 ≤ 20) : jOk 2 0 0 285 [(2, 42), (0, a1), (0, a2)] h (fun v h' => ∃ r : Int, v = some (0, r) ∧ Gd G h' ∧ Kp [(42, 29), (60, 0), (61, 0)] h h' ∧ h'.2.2 42 28 = feG a1 a2 w0 ∧ FeR h h' a1 a2 w0) := by
  refine ⟨by decide, by rw [ml285]; exact Nat.le_of_ble_eq_true rfl, ?_⟩
  rw [ml285, pp285]
  show jEv _ none _ c285_0 0 0 _ (c285_0, [(2, 42), (0, a1), (0, a2)], [], h, 0, 0)
  have k0 := Kp.rf [(42, 29), (60, 0), (61, 0)] h
  refine ev_iload_n rfl ?_
  refine ev_iconst ?_
  refine ev_iconst ?_
  refine ev_in (d := 0) (a := 0) (b := 0) (cd' := c242_0) (m := 3) (L0 := [(0, a1), (0, 0), (0, 5)]) (jcall_s (A := [(0, 5), (0, 0), (0, a1)]) (S' := []) (by decide) rfl (Nat.le_of_ble_eq_true rfl)) (by decide) ml242 pp242 (Nat.le_of_ble_eq_true rfl) rfl (by decide) (by decide) ?_
  refine ev_iload_n rfl ?_
  refine ev_iload_n rfl ?_
  refine ev_icmplt f242_14 (fun c75225 => ?_) (fun c75225 => ?_)
  · refine ev_iconst ?_
    refine ev_ret rfl (by decide) (by decide) ?_
    show jEv _ _ _ _ _ _ _ (_, [(2, 42), (0, a1), (0, a2)], [(0, 0)], _, _, _)
    refine ev_ifeq f285_24 (fun c75226 => ?_) (fun c75226 => absurd c75226 (by omega))
    refine ev_iconst ?_
    exact ev_ret rfl (by decide) (by decide) ⟨_, rfl, g, k0, ((ew0)).trans (by (try unfold feG); (repeat' split) <;> omega), Or.inl ⟨by unfold FV; omega, fun _ => rfl, fun _ => rfl⟩⟩
  · refine ev_iload_n rfl ?_
    refine ev_iload_n rfl ?_
    refine ev_icmpgt f242_14 (fun c75227 => ?_) (fun c75227 => ?_)
    · refine ev_iconst ?_
      refine ev_ret rfl (by decide) (by decide) ?_
      show jEv _ _ _ _ _ _ _ (_, [(2, 42), (0, a1), (0, a2)], [(0, 0)], _, _, _)
      refine ev_ifeq f285_24 (fun c75228 => ?_) (fun c75228 => absurd c75228 (by omega))
      refine ev_iconst ?_
      exact ev_ret rfl (by decide) (by decide) ⟨_, rfl, g, k0, ((ew0)).trans (by (try unfold feG); (repeat' split) <;> omega), Or.inl ⟨by unfold FV; omega, fun _ => rfl, fun _ => rfl⟩⟩
    · refine ev_iconst ?_
      refine ev_goto f242_15 ?_
      refine ev_ret rfl (by decide) (by decide) ?_
      show jEv _ _ _ _ _ _ _ (_, [(2, 42), (0, a1), (0, a2)], [(0, 1)], _, _, _)
      refine ev_ifeq f285_24 (fun c75229 => absurd c75229 (by omega)) (fun c75229 => ?_)
      refine ev_iload_n rfl ?_
      refine ev_iconst ?_
      refine ev_icmplt f285_26 (fun c75230 => ?_) (fun c75230 => ?_)
      · refine ev_aload_n rfl ?_
        refine g_getv (r := 42) (v := w0) g ad42 (by decide) ft12_28 (ew0) ?_
        refine ev_bipush ?_
        refine ev_icmpne f285_38 (fun c75231 => ?_) (fun c75231 => ?_)
        · refine ev_aload_n rfl ?_
          refine g_getp (r := 42) (c := 60) g ad42 (by decide) (by decide) rf42_29 ft12_29 ?_
          refine ev_aload_n rfl ?_
          refine g_getv (r := 42) (v := w0) g ad42 (by decide) ft12_28 (ew0) ?_
          refine ev_iload_n rfl ?_
          refine g_iast g ad60 rt60 (fun _ => rfl) (by omega) (by omega) (by omega) (by omega) (fun h75232 e75232 g75232 => ?_)
          have k75232 := k0.wr e75232 rfl
          refine ev_aload_n rfl ?_
          refine g_getp (r := 42) (c := 61) g75232 ad42 (by decide) (by decide) rf42_30 ft12_30 ?_
          refine ev_aload_n rfl ?_
          refine g_getv (r := 42) (v := w0) g75232 ad42 (by decide) ft12_28 (((jw_ne e75232 (Or.inl (by decide))).trans ew0)) ?_
          refine ev_iload_n rfl ?_
          refine ev_iconst ?_
          refine ev_icmplt f285_65 (fun c75233 => ?_) (fun c75233 => absurd c75233 (by omega))
          refine ev_iconst ?_
          refine g_iast g75232 ad61 rt61 (fun _ => rfl) (by omega) (by omega) (by omega) (by omega) (fun h75234 e75234 g75234 => ?_)
          have k75234 := k75232.wr e75234 rfl
          refine ev_aload_n rfl ?_
          refine ev_dup (by decide) ?_
          refine g_getv (r := 42) (v := w0) g75234 ad42 (by decide) ft12_28 (((jw_ne e75234 (Or.inl (by decide))).trans ((jw_ne e75232 (Or.inl (by decide))).trans ew0))) ?_
          refine ev_iconst ?_
          refine ev_iadd (r := (w0 + 1)) (by unfold w32; omega) ?_
          refine g_putf (r := 42) g75234 ad42 (by decide) ft12_28 (by decide) (fun e => absurd e nz12_28) rf42_28 (by decide) (by omega) (by omega) (fun h75235 e75235 g75235 => ?_)
          have k75235 := k75234.wr e75235 rfl
          refine ev_aload_n rfl ?_
          refine g_getv (r := 42) (v := (w0 + 1)) g75235 ad42 (by decide) ft12_28 ((jw_eq e75235)) ?_
          refine ev_iconst ?_
          refine ev_isub (r := w0) (by unfold w32; omega) ?_
          exact ev_ret rfl (by decide) (by decide) ⟨_, rfl, g75235, k75235, (((jw_eq e75235))).trans (by (try unfold feG); (repeat' split) <;> omega), Or.inr ⟨by unfold FV; omega, (Up.kp (Up.kp (Up.mk2 (i := w0) (i' := w0) (v' := a1) e75232 (by omega) (by omega)) ((Kp.rf [(61, 0)] _).wr e75234 rfl) (fun _ => rfl)) ((Kp.rf [(42, 0)] _).wr e75235 rfl) (fun _ => rfl)), (Up.kp (Up.pk ((Kp.rf [(60, 0)] _).wr e75232 rfl) (fun _ => rfl) (Up.mk2 (i := w0) (i' := w0) (v' := prF a1 a2) e75234 (by omega) (by unfold prF; split <;> omega))) ((Kp.rf [(42, 0)] _).wr e75235 rfl) (fun _ => rfl))⟩⟩
        · refine ev_bipush ?_
          exact ev_ret rfl (by decide) (by decide) ⟨_, rfl, g, k0, ((ew0)).trans (by (try unfold feG); (repeat' split) <;> omega), Or.inl ⟨by unfold FV; omega, fun _ => rfl, fun _ => rfl⟩⟩
      · refine ev_iload_n rfl ?_
        refine ev_iconst ?_
        refine ev_bipush ?_
        refine ev_in (d := 0) (a := 0) (b := 0) (cd' := c242_0) (m := 3) (L0 := [(0, a2), (0, 0), (0, 100)]) (jcall_s (A := [(0, 100), (0, 0), (0, a2)]) (S' := []) (by decide) rfl (Nat.le_of_ble_eq_true rfl)) (by decide) ml242 pp242 (Nat.le_of_ble_eq_true rfl) rfl (by decide) (by decide) ?_
        refine ev_iload_n rfl ?_
        refine ev_iload_n rfl ?_
        refine ev_icmplt f242_14 (fun c75236 => ?_) (fun c75236 => ?_)
        · refine ev_iconst ?_
          refine ev_ret rfl (by decide) (by decide) ?_
          show jEv _ _ _ _ _ _ _ (_, [(2, 42), (0, a1), (0, a2)], [(0, 0)], _, _, _)
          refine ev_ifne f285_26 (fun c75237 => absurd c75237 (by omega)) (fun c75237 => ?_)
          refine ev_iconst ?_
          exact ev_ret rfl (by decide) (by decide) ⟨_, rfl, g, k0, ((ew0)).trans (by (try unfold feG); (repeat' split) <;> omega), Or.inl ⟨by unfold FV; omega, fun _ => rfl, fun _ => rfl⟩⟩
        · refine ev_iload_n rfl ?_
          refine ev_iload_n rfl ?_
          refine ev_icmpgt f242_14 (fun c75238 => ?_) (fun c75238 => ?_)
          · refine ev_iconst ?_
            refine ev_ret rfl (by decide) (by decide) ?_
            show jEv _ _ _ _ _ _ _ (_, [(2, 42), (0, a1), (0, a2)], [(0, 0)], _, _, _)
            refine ev_ifne f285_26 (fun c75239 => absurd c75239 (by omega)) (fun c75239 => ?_)
            refine ev_iconst ?_
            exact ev_ret rfl (by decide) (by decide) ⟨_, rfl, g, k0, ((ew0)).trans (by (try unfold feG); (repeat' split) <;> omega), Or.inl ⟨by unfold FV; omega, fun _ => rfl, fun _ => rfl⟩⟩
          · refine ev_iconst ?_
            refine ev_goto f242_15 ?_
            refine ev_ret rfl (by decide) (by decide) ?_
            show jEv _ _ _ _ _ _ _ (_, [(2, 42), (0, a1), (0, a2)], [(0, 1)], _, _, _)
            refine ev_ifne f285_26 (fun c75240 => ?_) (fun c75240 => absurd c75240 (by omega))
            refine ev_aload_n rfl ?_
            refine g_getv (r := 42) (v := w0) g ad42 (by decide) ft12_28 (ew0) ?_
            refine ev_bipush ?_
            refine ev_icmpne f285_38 (fun c75241 => ?_) (fun c75241 => ?_)
            · refine ev_aload_n rfl ?_
              refine g_getp (r := 42) (c := 60) g ad42 (by decide) (by decide) rf42_29 ft12_29 ?_
              refine ev_aload_n rfl ?_
              refine g_getv (r := 42) (v := w0) g ad42 (by decide) ft12_28 (ew0) ?_
              refine ev_iload_n rfl ?_
              refine g_iast g ad60 rt60 (fun _ => rfl) (by omega) (by omega) (by omega) (by omega) (fun h75242 e75242 g75242 => ?_)
              have k75242 := k0.wr e75242 rfl
              refine ev_aload_n rfl ?_
              refine g_getp (r := 42) (c := 61) g75242 ad42 (by decide) (by decide) rf42_30 ft12_30 ?_
              refine ev_aload_n rfl ?_
              refine g_getv (r := 42) (v := w0) g75242 ad42 (by decide) ft12_28 (((jw_ne e75242 (Or.inl (by decide))).trans ew0)) ?_
              refine ev_iload_n rfl ?_
              refine ev_iconst ?_
              refine ev_icmplt f285_65 (fun c75243 => absurd c75243 (by omega)) (fun c75243 => ?_)
              refine ev_iload_n rfl ?_
              refine ev_goto f285_66 ?_
              refine g_iast g75242 ad61 rt61 (fun _ => rfl) (by omega) (by omega) (by omega) (by omega) (fun h75244 e75244 g75244 => ?_)
              have k75244 := k75242.wr e75244 rfl
              refine ev_aload_n rfl ?_
              refine ev_dup (by decide) ?_
              refine g_getv (r := 42) (v := w0) g75244 ad42 (by decide) ft12_28 (((jw_ne e75244 (Or.inl (by decide))).trans ((jw_ne e75242 (Or.inl (by decide))).trans ew0))) ?_
              refine ev_iconst ?_
              refine ev_iadd (r := (w0 + 1)) (by unfold w32; omega) ?_
              refine g_putf (r := 42) g75244 ad42 (by decide) ft12_28 (by decide) (fun e => absurd e nz12_28) rf42_28 (by decide) (by omega) (by omega) (fun h75245 e75245 g75245 => ?_)
              have k75245 := k75244.wr e75245 rfl
              refine ev_aload_n rfl ?_
              refine g_getv (r := 42) (v := (w0 + 1)) g75245 ad42 (by decide) ft12_28 ((jw_eq e75245)) ?_
              refine ev_iconst ?_
              refine ev_isub (r := w0) (by unfold w32; omega) ?_
              exact ev_ret rfl (by decide) (by decide) ⟨_, rfl, g75245, k75245, (((jw_eq e75245))).trans (by (try unfold feG); (repeat' split) <;> omega), Or.inr ⟨by unfold FV; omega, (Up.kp (Up.kp (Up.mk2 (i := w0) (i' := w0) (v' := a1) e75242 (by omega) (by omega)) ((Kp.rf [(61, 0)] _).wr e75244 rfl) (fun _ => rfl)) ((Kp.rf [(42, 0)] _).wr e75245 rfl) (fun _ => rfl)), (Up.kp (Up.pk ((Kp.rf [(60, 0)] _).wr e75242 rfl) (fun _ => rfl) (Up.mk2 (i := w0) (i' := w0) (v' := prF a1 a2) e75244 (by omega) (by unfold prF; split <;> omega))) ((Kp.rf [(42, 0)] _).wr e75245 rfl) (fun _ => rfl))⟩⟩
            · refine ev_bipush ?_
              exact ev_ret rfl (by decide) (by decide) ⟨_, rfl, g, k0, ((ew0)).trans (by (try unfold feG); (repeat' split) <;> omega), Or.inl ⟨by unfold FV; omega, fun _ => rfl, fun _ => rfl⟩⟩
set_option maxHeartbeats 4000000 in
theorem t81 {G : GH} {h : JH} (g : Gd G h) {a1 : Int} (la1 : 0 ≤ a1) (ua1 : a1 ≤ 199) : jOk 16 13 1814 81 [(2, 7), (0, a1)] h (fun v h' => ∃ (G' : GH) (r : Nat) (m : Int), v = some (2, (r : Int)) ∧ Gd G' h' ∧ IsQ G' r m ∧ Kx [(1000000, 0)] h h' ∧ r = h.1 ∧ h'.1 = h.1 + 13 ∧ (∀ a, a < r → G'.2 a = G.2 a) ∧ r ≤ G'.1) := by
  refine ⟨by decide, by rw [ml81]; exact Nat.le_of_ble_eq_true rfl, ?_⟩
  rw [ml81, pp81]
  show jEv _ none _ c81_0 13 1814 _ (c81_0, [(2, 7), (0, a1), (9, 0), (9, 0)], [], h, 0, 0)
  have k0 := Kp.rf [(1000000, 0)] h
  refine ev_aload_n rfl ?_
  refine ev_iload_n rfl ?_
  refine ev_in (d := 14) (a := 0) (b := 0) (cd' := c66_0) (m := 2) (L0 := [(2, 7), (0, a1)]) (jcall_v (A := [(0, a1)]) (S' := []) (r := 7) rfl (g.lt ad7) (g.tg ad7) (Nat.le_of_ble_eq_true rfl)) (by decide) ml66 pp66 (Nat.le_of_ble_eq_true rfl) rfl (by decide) (by decide) ?_
  refine ev_iload_n rfl ?_
  refine ev_iflt f66_12 (fun c75300 => absurd c75300 (by omega)) (fun c75300 => ?_)
  refine ev_iload_n rfl ?_
  refine ev_aload_n rfl ?_
  obtain ⟨v75301, ev75301, lv75301, uv75301⟩ := g.rd ad7 (show 3 < 15 by decide) rf7_3
  refine g_getv (r := 7) (v := v75301) g ad7 (by decide) ft5_3 ev75301 ?_
  refine ev_icmplt f66_16 (fun c75302 => ?_) (fun c75302 => ?_)
  · refine ev_aload_n rfl ?_
    refine g_getp (r := 7) (c := 17) g ad7 (by decide) (by decide) rf7_14 ft5_14 ?_
    refine ev_iload_n rfl ?_
    refine g_iald g ad17 rt17 (by omega) (by omega) (fun v75303 ev75303 lv75303 uv75303 => ?_)
    refine ev_ret rfl (by decide) (by decide) ?_
    show jEv _ _ _ _ _ _ _ (_, [(2, 7), (0, a1), (9, 0), (9, 0)], [(0, v75303)], _, _, _)
    refine ev_istore_n (L' := [(2, 7), (0, a1), (0, v75303), (9, 0)]) (Nat.le_of_ble_eq_true rfl) rfl ?_
    refine ev_new jn4 (by decide) (by decide) ?_
    refine ev_dup (by decide) ?_
    refine ev_iload_n rfl ?_
    refine ev_iconst ?_
    refine ev_icmplt f81_21 (fun c75304 => ?_) (fun c75304 => ?_)
    · refine ev_iconst ?_
      refine ev_goto f81_26 ?_
      refine ev_call (jcall_i (A := [(0, 1)]) (S' := [(2, (h.1 : Int))]) (r := h.1) (by decide) rfl (Nat.le_of_ble_eq_true rfl)) (jOk_le (by decide) (s21 g (by omega) (by omega))) (by decide) (by decide) (fun w75305 h75305 z75305 => ?_)
      obtain ⟨rfl, z75305⟩ := z75305
      have s75305 : h75305.1 = h.1 + 13 := z75305.1
      obtain ⟨g75305, qr75306, x75305⟩ := z75305.gd g rfl (by omega) (by omega)
      obtain ⟨r75306, er75306⟩ : ∃ x : Nat, x = h.1 := ⟨_, rfl⟩
      obtain ⟨m75307, em75307⟩ : ∃ x : Int, x = 1 := ⟨_, rfl⟩
      rw [← er75306, ← em75307] at g75305 qr75306
      rw [← er75306]
      have wr75306 := g75305.qb qr75306
      have zr75306 := qr75306.1
      have k75305 : Kx [(1000000, 0)] h h75305 := ⟨x75305.1, x75305.2.1, fun a i ha hw => x75305.2.2 a i ha rfl⟩
      show jEv _ _ _ _ _ _ _ (_, [(2, 7), (0, a1), (0, v75303), (9, 0)], [(2, (r75306 : Int))], _, _, _)
      refine ev_astore_n (L' := [(2, 7), (0, a1), (0, v75303), (2, (r75306 : Int))]) (Nat.le_of_ble_eq_true rfl) rfl ?_
      refine ev_aload_n rfl ?_
      refine ev_aload_n rfl ?_
      refine ev_iload_n rfl ?_
      refine ev_iconst ?_
      refine ev_iconst ?_
      refine ev_iconst ?_
      refine ev_call (jcall_v (A := [(0, 0), (0, 0), (0, (-1)), (0, a1), (2, (r75306 : Int))]) (S' := []) (r := 7) rfl (g75305.lt ad7) (g75305.tg ad7) (Nat.le_of_ble_eq_true rfl)) (jOk_le (by decide) (s82_0 g75305 qr75306 (by omega) (by omega) (by omega) (by omega) (by omega) (by omega))) (by decide) (by decide) (fun w75308 h75308 q75308 => ?_)
      obtain ⟨v75309, rfl, lv75309, uv75309, g75308, kk75308⟩ := q75308
      have k75308 := k75305.tr kk75308 (by decide)
      show jEv _ _ _ _ _ _ _ (_, [(2, 7), (0, a1), (0, v75303), (2, (r75306 : Int))], [(0, v75309)], _, _, _)
      refine ev_pop (by decide) ?_
      refine ev_aload_n rfl ?_
      exact ev_ret rfl (by decide) (by decide) ⟨_, r75306, m75307, rfl, g75308, qr75306, k75308, rfl, by rw [kk75308.1, s75305, er75306], fun a ha => gQ_lo ha, Nat.le_add_right _ _⟩
    · refine ev_iload_n rfl ?_
      refine ev_bipush ?_
      refine ev_icmple f81_25 (fun c75310 => ?_) (fun c75310 => ?_)
      · refine ev_iload_n rfl ?_
        refine ev_call (jcall_i (A := [(0, v75303)]) (S' := [(2, (h.1 : Int))]) (r := h.1) (by decide) rfl (Nat.le_of_ble_eq_true rfl)) (jOk_le (by decide) (s21 g (by omega) (by omega))) (by decide) (by decide) (fun w75311 h75311 z75311 => ?_)
        obtain ⟨rfl, z75311⟩ := z75311
        have s75311 : h75311.1 = h.1 + 13 := z75311.1
        obtain ⟨g75311, qr75312, x75311⟩ := z75311.gd g rfl (by omega) (by omega)
        obtain ⟨r75312, er75312⟩ : ∃ x : Nat, x = h.1 := ⟨_, rfl⟩
        obtain ⟨m75313, em75313⟩ : ∃ x : Int, x = v75303 := ⟨_, rfl⟩
        rw [← er75312, ← em75313] at g75311 qr75312
        rw [← er75312]
        have wr75312 := g75311.qb qr75312
        have zr75312 := qr75312.1
        have k75311 : Kx [(1000000, 0)] h h75311 := ⟨x75311.1, x75311.2.1, fun a i ha hw => x75311.2.2 a i ha rfl⟩
        show jEv _ _ _ _ _ _ _ (_, [(2, 7), (0, a1), (0, v75303), (9, 0)], [(2, (r75312 : Int))], _, _, _)
        refine ev_astore_n (L' := [(2, 7), (0, a1), (0, v75303), (2, (r75312 : Int))]) (Nat.le_of_ble_eq_true rfl) rfl ?_
        refine ev_aload_n rfl ?_
        refine ev_aload_n rfl ?_
        refine ev_iload_n rfl ?_
        refine ev_iconst ?_
        refine ev_iconst ?_
        refine ev_iconst ?_
        refine ev_call (jcall_v (A := [(0, 0), (0, 0), (0, (-1)), (0, a1), (2, (r75312 : Int))]) (S' := []) (r := 7) rfl (g75311.lt ad7) (g75311.tg ad7) (Nat.le_of_ble_eq_true rfl)) (jOk_le (by decide) (s82_0 g75311 qr75312 (by omega) (by omega) (by omega) (by omega) (by omega) (by omega))) (by decide) (by decide) (fun w75314 h75314 q75314 => ?_)
        obtain ⟨v75315, rfl, lv75315, uv75315, g75314, kk75314⟩ := q75314
        have k75314 := k75311.tr kk75314 (by decide)
        show jEv _ _ _ _ _ _ _ (_, [(2, 7), (0, a1), (0, v75303), (2, (r75312 : Int))], [(0, v75315)], _, _, _)
        refine ev_pop (by decide) ?_
        refine ev_aload_n rfl ?_
        exact ev_ret rfl (by decide) (by decide) ⟨_, r75312, m75313, rfl, g75314, qr75312, k75314, rfl, by rw [kk75314.1, s75311, er75312], fun a ha => gQ_lo ha, Nat.le_add_right _ _⟩
      · refine ev_iconst ?_
        refine ev_goto f81_26 ?_
        refine ev_call (jcall_i (A := [(0, 1)]) (S' := [(2, (h.1 : Int))]) (r := h.1) (by decide) rfl (Nat.le_of_ble_eq_true rfl)) (jOk_le (by decide) (s21 g (by omega) (by omega))) (by decide) (by decide) (fun w75316 h75316 z75316 => ?_)
        obtain ⟨rfl, z75316⟩ := z75316
        have s75316 : h75316.1 = h.1 + 13 := z75316.1
        obtain ⟨g75316, qr75317, x75316⟩ := z75316.gd g rfl (by omega) (by omega)
        obtain ⟨r75317, er75317⟩ : ∃ x : Nat, x = h.1 := ⟨_, rfl⟩
        obtain ⟨m75318, em75318⟩ : ∃ x : Int, x = 1 := ⟨_, rfl⟩
        rw [← er75317, ← em75318] at g75316 qr75317
        rw [← er75317]
        have wr75317 := g75316.qb qr75317
        have zr75317 := qr75317.1
        have k75316 : Kx [(1000000, 0)] h h75316 := ⟨x75316.1, x75316.2.1, fun a i ha hw => x75316.2.2 a i ha rfl⟩
        show jEv _ _ _ _ _ _ _ (_, [(2, 7), (0, a1), (0, v75303), (9, 0)], [(2, (r75317 : Int))], _, _, _)
        refine ev_astore_n (L' := [(2, 7), (0, a1), (0, v75303), (2, (r75317 : Int))]) (Nat.le_of_ble_eq_true rfl) rfl ?_
        refine ev_aload_n rfl ?_
        refine ev_aload_n rfl ?_
        refine ev_iload_n rfl ?_
        refine ev_iconst ?_
        refine ev_iconst ?_
        refine ev_iconst ?_
        refine ev_call (jcall_v (A := [(0, 0), (0, 0), (0, (-1)), (0, a1), (2, (r75317 : Int))]) (S' := []) (r := 7) rfl (g75316.lt ad7) (g75316.tg ad7) (Nat.le_of_ble_eq_true rfl)) (jOk_le (by decide) (s82_0 g75316 qr75317 (by omega) (by omega) (by omega) (by omega) (by omega) (by omega))) (by decide) (by decide) (fun w75319 h75319 q75319 => ?_)
        obtain ⟨v75320, rfl, lv75320, uv75320, g75319, kk75319⟩ := q75319
        have k75319 := k75316.tr kk75319 (by decide)
        show jEv _ _ _ _ _ _ _ (_, [(2, 7), (0, a1), (0, v75303), (2, (r75317 : Int))], [(0, v75320)], _, _, _)
        refine ev_pop (by decide) ?_
        refine ev_aload_n rfl ?_
        exact ev_ret rfl (by decide) (by decide) ⟨_, r75317, m75318, rfl, g75319, qr75317, k75319, rfl, by rw [kk75319.1, s75316, er75317], fun a ha => gQ_lo ha, Nat.le_add_right _ _⟩
  · refine ev_iconst ?_
    refine ev_goto f66_22 ?_
    refine ev_ret rfl (by decide) (by decide) ?_
    show jEv _ _ _ _ _ _ _ (_, [(2, 7), (0, a1), (9, 0), (9, 0)], [(0, 0)], _, _, _)
    refine ev_istore_n (L' := [(2, 7), (0, a1), (0, 0), (9, 0)]) (Nat.le_of_ble_eq_true rfl) rfl ?_
    refine ev_new jn4 (by decide) (by decide) ?_
    refine ev_dup (by decide) ?_
    refine ev_iload_n rfl ?_
    refine ev_iconst ?_
    refine ev_icmplt f81_21 (fun c75321 => ?_) (fun c75321 => absurd c75321 (by omega))
    refine ev_iconst ?_
    refine ev_goto f81_26 ?_
    refine ev_call (jcall_i (A := [(0, 1)]) (S' := [(2, (h.1 : Int))]) (r := h.1) (by decide) rfl (Nat.le_of_ble_eq_true rfl)) (jOk_le (by decide) (s21 g (by omega) (by omega))) (by decide) (by decide) (fun w75322 h75322 z75322 => ?_)
    obtain ⟨rfl, z75322⟩ := z75322
    have s75322 : h75322.1 = h.1 + 13 := z75322.1
    obtain ⟨g75322, qr75323, x75322⟩ := z75322.gd g rfl (by omega) (by omega)
    obtain ⟨r75323, er75323⟩ : ∃ x : Nat, x = h.1 := ⟨_, rfl⟩
    obtain ⟨m75324, em75324⟩ : ∃ x : Int, x = 1 := ⟨_, rfl⟩
    rw [← er75323, ← em75324] at g75322 qr75323
    rw [← er75323]
    have wr75323 := g75322.qb qr75323
    have zr75323 := qr75323.1
    have k75322 : Kx [(1000000, 0)] h h75322 := ⟨x75322.1, x75322.2.1, fun a i ha hw => x75322.2.2 a i ha rfl⟩
    show jEv _ _ _ _ _ _ _ (_, [(2, 7), (0, a1), (0, 0), (9, 0)], [(2, (r75323 : Int))], _, _, _)
    refine ev_astore_n (L' := [(2, 7), (0, a1), (0, 0), (2, (r75323 : Int))]) (Nat.le_of_ble_eq_true rfl) rfl ?_
    refine ev_aload_n rfl ?_
    refine ev_aload_n rfl ?_
    refine ev_iload_n rfl ?_
    refine ev_iconst ?_
    refine ev_iconst ?_
    refine ev_iconst ?_
    refine ev_call (jcall_v (A := [(0, 0), (0, 0), (0, (-1)), (0, a1), (2, (r75323 : Int))]) (S' := []) (r := 7) rfl (g75322.lt ad7) (g75322.tg ad7) (Nat.le_of_ble_eq_true rfl)) (jOk_le (by decide) (s82_0 g75322 qr75323 (by omega) (by omega) (by omega) (by omega) (by omega) (by omega))) (by decide) (by decide) (fun w75325 h75325 q75325 => ?_)
    obtain ⟨v75326, rfl, lv75326, uv75326, g75325, kk75325⟩ := q75325
    have k75325 := k75322.tr kk75325 (by decide)
    show jEv _ _ _ _ _ _ _ (_, [(2, 7), (0, a1), (0, 0), (2, (r75323 : Int))], [(0, v75326)], _, _, _)
    refine ev_pop (by decide) ?_
    refine ev_aload_n rfl ?_
    exact ev_ret rfl (by decide) (by decide) ⟨_, r75323, m75324, rfl, g75325, qr75323, k75325, rfl, by rw [kk75325.1, s75322, er75323], fun a ha => gQ_lo ha, Nat.le_add_right _ _⟩
set_option maxHeartbeats 4000000 in
theorem t173 {G : GH} {h : JH} (g : Gd G h) (hB : h.1 ≤ 1000000) : jOk 31 13 1814 173 [(2, 0)] h (fun v h' => PN [(7, 2), (7, 3), (7, 4), (10, 0), (11, 0), (12, 0), (13, 0), (14, 0), (15, 0), (16, 0), (17, 0), (7, 5), (9, 0), (7, 1), (0, 4), (18, 0), (1000000, 0)] h 0 (-300) 6 v h' ∧ FeS G h h') := by
  refine ⟨by decide, by rw [ml173]; exact Nat.le_of_ble_eq_true rfl, ?_⟩
  rw [ml173, pp173]
  show jEv _ none _ c173_0 13 1814 _ (c173_0, [(2, 0), (9, 0), (9, 0)], [], h, 0, 0)
  have k0 := Kp.rf [(7, 2), (7, 3), (7, 4), (10, 0), (11, 0), (12, 0), (13, 0), (14, 0), (15, 0), (16, 0), (17, 0), (7, 5), (9, 0), (7, 1), (0, 4), (18, 0), (1000000, 0)] h
  refine ev_aload_n rfl ?_
  obtain ⟨v75379, ev75379, lv75379, uv75379⟩ := g.rd ad0 (show 3 < 17 by decide) rf0_3
  refine g_getv (r := 0) (v := v75379) g ad0 (by decide) ft11_3 ev75379 ?_
  refine ev_bipush ?_
  refine ev_icmplt f173_12 (fun c75380 => ?_) (fun c75380 => ?_)
  · refine ev_aload_n rfl ?_
    refine g_getp (r := 0) (c := 7) g ad0 (by decide) (by decide) rf0_1 ft11_1 ?_
    refine ev_aload_n rfl ?_
    refine g_getp (r := 0) (c := 1) g ad0 (by decide) (by decide) rf0_0 ft11_0 ?_
    refine ev_call (jcall_v (A := [(2, 1)]) (S' := []) (r := 7) rfl (g.lt ad7) (g.tg ad7) (Nat.le_of_ble_eq_true rfl)) (jOk_le (by decide) (s67 g )) (by decide) (by decide) (fun w75381 h75381 q75381 => ?_)
    obtain ⟨v75382, rfl, lv75382, uv75382, g75381, kk75381⟩ := q75381
    have k75381 := k0.tr kk75381 (by decide)
    show jEv _ _ _ _ _ _ _ (_, [(2, 0), (9, 0), (9, 0)], [(0, v75382)], _, _, _)
    refine ev_istore_n (L' := [(2, 0), (0, v75382), (9, 0)]) (Nat.le_of_ble_eq_true rfl) rfl ?_
    refine ev_iload_n rfl ?_
    refine ev_ifge f173_42 (fun c75383 => ?_) (fun c75383 => ?_)
    · refine ev_aload_n rfl ?_
      refine g_getp (r := 0) (c := 7) g75381 ad0 (by decide) (by decide) rf0_1 ft11_1 ?_
      refine ev_iload_n rfl ?_
      refine ev_in (d := 29) (a := 0) (b := 0) (cd' := c66_0) (m := 2) (L0 := [(2, 7), (0, v75382)]) (jcall_v (A := [(0, v75382)]) (S' := []) (r := 7) rfl (g75381.lt ad7) (g75381.tg ad7) (Nat.le_of_ble_eq_true rfl)) (by decide) ml66 pp66 (Nat.le_of_ble_eq_true rfl) rfl (by decide) (by decide) ?_
      refine ev_iload_n rfl ?_
      refine ev_iflt f66_12 (fun c75384 => absurd c75384 (by omega)) (fun c75384 => ?_)
      refine ev_iload_n rfl ?_
      refine ev_aload_n rfl ?_
      obtain ⟨v75385, ev75385, lv75385, uv75385⟩ := g75381.rd ad7 (show 3 < 15 by decide) rf7_3
      refine g_getv (r := 7) (v := v75385) g75381 ad7 (by decide) ft5_3 ev75385 ?_
      refine ev_icmplt f66_16 (fun c75386 => ?_) (fun c75386 => ?_)
      · refine ev_aload_n rfl ?_
        refine g_getp (r := 7) (c := 17) g75381 ad7 (by decide) (by decide) rf7_14 ft5_14 ?_
        refine ev_iload_n rfl ?_
        refine g_iald g75381 ad17 rt17 (by omega) (by omega) (fun v75387 ev75387 lv75387 uv75387 => ?_)
        refine ev_ret rfl (by decide) (by decide) ?_
        show jEv _ _ _ _ _ _ _ (_, [(2, 0), (0, v75382), (9, 0)], [(0, v75387)], _, _, _)
        refine ev_bipush ?_
        refine ev_icmple f173_61 (fun c75388 => ?_) (fun c75388 => ?_)
        · refine ev_aload_n rfl ?_
          refine g_getv (r := 0) (v := v75379) g75381 ad0 (by decide) ft11_3 (((kk75381.v (by decide)).trans ev75379)) ?_
          refine ev_istore_n (L' := [(2, 0), (0, v75382), (0, v75379)]) (Nat.le_of_ble_eq_true rfl) rfl ?_
          refine ev_aload_n rfl ?_
          refine g_getp (r := 0) (c := 18) g75381 ad0 (by decide) (by decide) rf0_2 ft11_2 ?_
          refine ev_aload_n rfl ?_
          refine g_getv (r := 0) (v := v75379) g75381 ad0 (by decide) ft11_3 (((kk75381.v (by decide)).trans ev75379)) ?_
          refine ev_aload_n rfl ?_
          refine g_getp (r := 0) (c := 7) g75381 ad0 (by decide) (by decide) rf0_1 ft11_1 ?_
          refine ev_iload_n rfl ?_
          refine ev_call (jcall_v (A := [(0, v75382)]) (S' := [(0, v75379), (2, 18)]) (r := 7) rfl (g75381.lt ad7) (g75381.tg ad7) (Nat.le_of_ble_eq_true rfl)) (jOk_le (by decide) (t81 g75381 (by omega) (by omega))) (by decide) (by decide) (fun w75389 h75389 z75389 => ?_)
          obtain ⟨G75389, r75390, m75391, rfl, g75389, qr75390, x75389, er75389, es75389, ex75389, el75389⟩ := z75389
          have hz75389 := k75381.1
          have k75389 := Kx.tx k75381 x75389 (by decide)
          have wr75390 := g75389.qb qr75390
          have zr75390 := qr75390.1
          show jEv _ _ _ _ _ _ _ (_, [(2, 0), (0, v75382), (0, v75379)], [(2, (r75390 : Int)), (0, v75379), (2, 18)], _, _, _)
          refine ev_astoG (r := 18) (j := (v75379).toNat) (v := r75390) (g75389.lt ad18) (g75389.tg ad18) (by omega) (by rw [g75389.ln ad18]; omega) (g75389.qlt qr75390) (by rw [g75389.qtg qr75390]; rfl) (fun h75392 e75392 => ?_)
          have g75392 := g75389.wr18 qr75390 e75392 (by rw [(((x75389.2.2 0 3 (g75381.lt ad0) (by decide)).trans ((kk75381.v (by decide)).trans ev75379)))]; omega) (by omega)
          have k75392 := k75389.wr e75392 rfl
          refine ev_aload_n rfl ?_
          refine ev_dup (by decide) ?_
          refine g_getv (r := 0) (v := v75379) g75392 ad0 (by decide) ft11_3 (((jw_ne e75392 (Or.inl (by decide))).trans ((x75389.2.2 0 3 (g75381.lt ad0) (by decide)).trans ((kk75381.v (by decide)).trans ev75379)))) ?_
          refine ev_iconst ?_
          refine ev_iadd (r := (v75379 + 1)) (by unfold w32; omega) ?_
          refine ev_putfG (r := 0) (g75392.lt ad0) (g75392.fam ad0 (by decide)) ft11_3 (fun e => absurd e nz11_3) (fun e => absurd e (by decide)) (fun h75393 e75393 => ?_)
          have g75393 := g75392.wr03 qr75390 e75393 (((jw_ne e75392 (Or.inl (by decide))).trans ((x75389.2.2 0 3 (g75381.lt ad0) (by decide)).trans ((kk75381.v (by decide)).trans ev75379)))) (jw_eq e75392) (by omega) (by omega)
          have k75393 := k75392.wr e75393 rfl
          refine ev_aload_n rfl ?_
          refine g_getp (r := 0) (c := 7) g75393 ad0 (by decide) (by decide) rf0_1 ft11_1 ?_
          refine ev_in (d := 29) (a := 0) (b := 0) (cd' := c65_0) (m := 1) (L0 := [(2, 7)]) (jcall_v (A := []) (S' := []) (r := 7) rfl (g75393.lt ad7) (g75393.tg ad7) (Nat.le_of_ble_eq_true rfl)) (by decide) ml65 pp65 (Nat.le_of_ble_eq_true rfl) rfl (by decide) (by decide) ?_
          refine ev_aload_n rfl ?_
          refine ev_iconst ?_
          refine g_putf (r := 7) g75393 ad7 (by decide) ft5_0 (by decide) (fun e => absurd e nz5_0) rf7_0 (by decide) (by omega) (by omega) (fun h75394 e75394 g75394 => ?_)
          have k75394 := k75393.wr e75394 rfl
          refine ev_ret rfl (by decide) (by decide) ?_
          show jEv _ _ _ _ _ _ _ (_, [(2, 0), (0, v75382), (0, v75379)], [], _, _, _)
          refine ev_iload_n rfl ?_
          exact ev_ret rfl (by decide) (by decide) ⟨⟨_, rfl, by omega, by omega, ⟨_, g75394⟩, k75394, by rw [(jwr_ty e75394).1, (jwr_ty e75393).1, (jwr_ty e75392).1, es75389]; omega⟩, fe_same g g75394 (fun a ha => ex75389 a (by rw [er75389, ← g75381.1] at *; omega)) (by have := el75389; rw [er75389, g75381.1] at this; exact this)⟩
        · refine ev_bipush ?_
          refine ev_istore_n (L' := [(2, 0), (0, v75382), (0, (-3))]) (Nat.le_of_ble_eq_true rfl) rfl ?_
          refine ev_goto f173_93 ?_
          refine ev_aload_n rfl ?_
          refine g_getp (r := 0) (c := 7) g75381 ad0 (by decide) (by decide) rf0_1 ft11_1 ?_
          refine ev_in (d := 29) (a := 0) (b := 0) (cd' := c65_0) (m := 1) (L0 := [(2, 7)]) (jcall_v (A := []) (S' := []) (r := 7) rfl (g75381.lt ad7) (g75381.tg ad7) (Nat.le_of_ble_eq_true rfl)) (by decide) ml65 pp65 (Nat.le_of_ble_eq_true rfl) rfl (by decide) (by decide) ?_
          refine ev_aload_n rfl ?_
          refine ev_iconst ?_
          refine g_putf (r := 7) g75381 ad7 (by decide) ft5_0 (by decide) (fun e => absurd e nz5_0) rf7_0 (by decide) (by omega) (by omega) (fun h75395 e75395 g75395 => ?_)
          have k75395 := k75381.wr e75395 rfl
          refine ev_ret rfl (by decide) (by decide) ?_
          show jEv _ _ _ _ _ _ _ (_, [(2, 0), (0, v75382), (0, (-3))], [], _, _, _)
          refine ev_iload_n rfl ?_
          exact ev_ret rfl (by decide) (by decide) ⟨⟨_, rfl, by omega, by omega, ⟨_, g75395⟩, k75395.x, by rw [k75395.1]; omega⟩, fe_same g g75395 (fun _ _ => rfl) (Nat.le_refl _)⟩
      · refine ev_iconst ?_
        refine ev_goto f66_22 ?_
        refine ev_ret rfl (by decide) (by decide) ?_
        show jEv _ _ _ _ _ _ _ (_, [(2, 0), (0, v75382), (9, 0)], [(0, 0)], _, _, _)
        refine ev_bipush ?_
        refine ev_icmple f173_61 (fun c75396 => ?_) (fun c75396 => absurd c75396 (by omega))
        refine ev_aload_n rfl ?_
        refine g_getv (r := 0) (v := v75379) g75381 ad0 (by decide) ft11_3 (((kk75381.v (by decide)).trans ev75379)) ?_
        refine ev_istore_n (L' := [(2, 0), (0, v75382), (0, v75379)]) (Nat.le_of_ble_eq_true rfl) rfl ?_
        refine ev_aload_n rfl ?_
        refine g_getp (r := 0) (c := 18) g75381 ad0 (by decide) (by decide) rf0_2 ft11_2 ?_
        refine ev_aload_n rfl ?_
        refine g_getv (r := 0) (v := v75379) g75381 ad0 (by decide) ft11_3 (((kk75381.v (by decide)).trans ev75379)) ?_
        refine ev_aload_n rfl ?_
        refine g_getp (r := 0) (c := 7) g75381 ad0 (by decide) (by decide) rf0_1 ft11_1 ?_
        refine ev_iload_n rfl ?_
        refine ev_call (jcall_v (A := [(0, v75382)]) (S' := [(0, v75379), (2, 18)]) (r := 7) rfl (g75381.lt ad7) (g75381.tg ad7) (Nat.le_of_ble_eq_true rfl)) (jOk_le (by decide) (t81 g75381 (by omega) (by omega))) (by decide) (by decide) (fun w75397 h75397 z75397 => ?_)
        obtain ⟨G75397, r75398, m75399, rfl, g75397, qr75398, x75397, er75397, es75397, ex75397, el75397⟩ := z75397
        have hz75397 := k75381.1
        have k75397 := Kx.tx k75381 x75397 (by decide)
        have wr75398 := g75397.qb qr75398
        have zr75398 := qr75398.1
        show jEv _ _ _ _ _ _ _ (_, [(2, 0), (0, v75382), (0, v75379)], [(2, (r75398 : Int)), (0, v75379), (2, 18)], _, _, _)
        refine ev_astoG (r := 18) (j := (v75379).toNat) (v := r75398) (g75397.lt ad18) (g75397.tg ad18) (by omega) (by rw [g75397.ln ad18]; omega) (g75397.qlt qr75398) (by rw [g75397.qtg qr75398]; rfl) (fun h75400 e75400 => ?_)
        have g75400 := g75397.wr18 qr75398 e75400 (by rw [(((x75397.2.2 0 3 (g75381.lt ad0) (by decide)).trans ((kk75381.v (by decide)).trans ev75379)))]; omega) (by omega)
        have k75400 := k75397.wr e75400 rfl
        refine ev_aload_n rfl ?_
        refine ev_dup (by decide) ?_
        refine g_getv (r := 0) (v := v75379) g75400 ad0 (by decide) ft11_3 (((jw_ne e75400 (Or.inl (by decide))).trans ((x75397.2.2 0 3 (g75381.lt ad0) (by decide)).trans ((kk75381.v (by decide)).trans ev75379)))) ?_
        refine ev_iconst ?_
        refine ev_iadd (r := (v75379 + 1)) (by unfold w32; omega) ?_
        refine ev_putfG (r := 0) (g75400.lt ad0) (g75400.fam ad0 (by decide)) ft11_3 (fun e => absurd e nz11_3) (fun e => absurd e (by decide)) (fun h75401 e75401 => ?_)
        have g75401 := g75400.wr03 qr75398 e75401 (((jw_ne e75400 (Or.inl (by decide))).trans ((x75397.2.2 0 3 (g75381.lt ad0) (by decide)).trans ((kk75381.v (by decide)).trans ev75379)))) (jw_eq e75400) (by omega) (by omega)
        have k75401 := k75400.wr e75401 rfl
        refine ev_aload_n rfl ?_
        refine g_getp (r := 0) (c := 7) g75401 ad0 (by decide) (by decide) rf0_1 ft11_1 ?_
        refine ev_in (d := 29) (a := 0) (b := 0) (cd' := c65_0) (m := 1) (L0 := [(2, 7)]) (jcall_v (A := []) (S' := []) (r := 7) rfl (g75401.lt ad7) (g75401.tg ad7) (Nat.le_of_ble_eq_true rfl)) (by decide) ml65 pp65 (Nat.le_of_ble_eq_true rfl) rfl (by decide) (by decide) ?_
        refine ev_aload_n rfl ?_
        refine ev_iconst ?_
        refine g_putf (r := 7) g75401 ad7 (by decide) ft5_0 (by decide) (fun e => absurd e nz5_0) rf7_0 (by decide) (by omega) (by omega) (fun h75402 e75402 g75402 => ?_)
        have k75402 := k75401.wr e75402 rfl
        refine ev_ret rfl (by decide) (by decide) ?_
        show jEv _ _ _ _ _ _ _ (_, [(2, 0), (0, v75382), (0, v75379)], [], _, _, _)
        refine ev_iload_n rfl ?_
        exact ev_ret rfl (by decide) (by decide) ⟨⟨_, rfl, by omega, by omega, ⟨_, g75402⟩, k75402, by rw [(jwr_ty e75402).1, (jwr_ty e75401).1, (jwr_ty e75400).1, es75397]; omega⟩, fe_same g g75402 (fun a ha => ex75397 a (by rw [er75397, ← g75381.1] at *; omega)) (by have := el75397; rw [er75397, g75381.1] at this; exact this)⟩
    · refine ev_bipush ?_
      refine ev_aload_n rfl ?_
      refine g_getp (r := 0) (c := 7) g75381 ad0 (by decide) (by decide) rf0_1 ft11_1 ?_
      obtain ⟨v75403, ev75403, lv75403, uv75403⟩ := g75381.rd ad7 (show 1 < 15 by decide) rf7_1
      refine g_getv (r := 7) (v := v75403) g75381 ad7 (by decide) ft5_1 ev75403 ?_
      refine ev_isub (r := ((-v75403) - 100)) (by unfold w32; omega) ?_
      refine ev_istore_n (L' := [(2, 0), (0, v75382), (0, ((-v75403) - 100))]) (Nat.le_of_ble_eq_true rfl) rfl ?_
      refine ev_goto f173_93 ?_
      refine ev_aload_n rfl ?_
      refine g_getp (r := 0) (c := 7) g75381 ad0 (by decide) (by decide) rf0_1 ft11_1 ?_
      refine ev_in (d := 29) (a := 0) (b := 0) (cd' := c65_0) (m := 1) (L0 := [(2, 7)]) (jcall_v (A := []) (S' := []) (r := 7) rfl (g75381.lt ad7) (g75381.tg ad7) (Nat.le_of_ble_eq_true rfl)) (by decide) ml65 pp65 (Nat.le_of_ble_eq_true rfl) rfl (by decide) (by decide) ?_
      refine ev_aload_n rfl ?_
      refine ev_iconst ?_
      refine g_putf (r := 7) g75381 ad7 (by decide) ft5_0 (by decide) (fun e => absurd e nz5_0) rf7_0 (by decide) (by omega) (by omega) (fun h75404 e75404 g75404 => ?_)
      have k75404 := k75381.wr e75404 rfl
      refine ev_ret rfl (by decide) (by decide) ?_
      show jEv _ _ _ _ _ _ _ (_, [(2, 0), (0, v75382), (0, ((-v75403) - 100))], [], _, _, _)
      refine ev_iload_n rfl ?_
      exact ev_ret rfl (by decide) (by decide) ⟨⟨_, rfl, by omega, by omega, ⟨_, g75404⟩, k75404.x, by rw [k75404.1]; omega⟩, fe_same g g75404 (fun _ _ => rfl) (Nat.le_refl _)⟩
  · refine ev_bipush ?_
    exact ev_ret rfl (by decide) (by decide) ⟨⟨_, rfl, by omega, by omega, ⟨_, g⟩, k0.x, by rw [k0.1]; omega⟩, fe_same g g (fun _ _ => rfl) (Nat.le_refl _)⟩
set_option maxHeartbeats 4000000 in
theorem t210 {G : GH} {h : JH} (g : Gd G h) {a1 : Int} (la1 : (-2147483648) ≤ a1) (ua1 : a1 ≤ 2147483647) {a2 : Int} (la2 : (-2147483648) ≤ a2) (ua2 : a2 ≤ 2147483647) {a3 : Int} (la3 : (-2147483648) ≤ a3) (ua3 : a3 ≤ 2147483647) : jOk 8 0 0 210 [(2, 0), (0, a1), (0, a2), (0, a3)] h (fun v h' => ∃ r : Int, v = some (0, r) ∧ Gd G h' ∧ Kp [(19, 6), (22, 0)] h h' ∧ AcC h h' a1 a2 a3 r) := by
  refine ⟨by decide, by rw [ml210]; exact Nat.le_of_ble_eq_true rfl, ?_⟩
  rw [ml210, pp210]
  show jEv _ none _ c210_0 0 0 _ (c210_0, [(2, 0), (0, a1), (0, a2), (0, a3), (9, 0)], [], h, 0, 0)
  have k0 := Kp.rf [(19, 6), (22, 0)] h
  refine ev_aload_n rfl ?_
  refine ev_iload_n rfl ?_
  refine ev_in (d := 6) (a := 0) (b := 0) (cd' := c220_0) (m := 2) (L0 := [(2, 0), (0, a1)]) (jcall_v (A := [(0, a1)]) (S' := []) (r := 0) rfl (g.lt ad0) (g.tg ad0) (Nat.le_of_ble_eq_true rfl)) (by decide) ml220 pp220 (Nat.le_of_ble_eq_true rfl) rfl (by decide) (by decide) ?_
  refine ev_iload_n rfl ?_
  refine ev_iflt f220_12 (fun c76079 => ?_) (fun c76079 => ?_)
  · refine ev_aconst_null ?_
    refine ev_goto f220_22 ?_
    refine ev_ret rfl (by decide) (by decide) ?_
    show jEv _ _ _ _ _ _ _ (_, [(2, 0), (0, a1), (0, a2), (0, a3), (9, 0)], [(2, (-1))], _, _, _)
    refine ev_astore (L' := [(2, 0), (0, a1), (0, a2), (0, a3), (2, (-1))]) (Nat.le_of_ble_eq_true rfl) rfl ?_
    refine ev_aload_n rfl ?_
    refine g_getp (r := 0) (c := 19) g ad0 (by decide) (by decide) rf0_4 ft11_4 ?_
    refine ev_in (d := 6) (a := 0) (b := 0) (cd' := c93_0) (m := 1) (L0 := [(2, 19)]) (jcall_v (A := []) (S' := []) (r := 19) rfl (g.lt ad19) (g.tg ad19) (Nat.le_of_ble_eq_true rfl)) (by decide) ml93 pp93 (Nat.le_of_ble_eq_true rfl) rfl (by decide) (by decide) ?_
    refine ev_aload_n rfl ?_
    refine ev_iconst ?_
    refine g_putf (r := 19) g ad19 (by decide) ft7_5 (by decide) (fun e => absurd e nz7_5) rf19_5 (by decide) (by omega) (by omega) (fun h76080 e76080 g76080 => ?_)
    have k76080 := k0.wr e76080 rfl
    refine ev_ret rfl (by decide) (by decide) ?_
    show jEv _ _ _ _ _ _ _ (_, [(2, 0), (0, a1), (0, a2), (0, a3), (2, (-1))], [], _, _, _)
    refine ev_aload rfl ?_
    refine ev_ifnull f210_28 (fun c76081 => ?_) (fun c76081 => absurd c76081 (by decide))
    refine ev_iconst ?_
    exact ev_ret rfl (by decide) (by decide) ⟨_, rfl, g76080, k76080, Or.inl ⟨(by unfold AV0; omega), rfl, ((jw_eq e76080))⟩⟩
  · refine ev_iload_n rfl ?_
    refine ev_aload_n rfl ?_
    obtain ⟨v76082, ev76082, lv76082, uv76082⟩ := g.rd ad0 (show 7 < 17 by decide) rf0_7
    refine g_getv (r := 0) (v := v76082) g ad0 (by decide) ft11_7 ev76082 ?_
    refine ev_icmplt f220_16 (fun c76083 => ?_) (fun c76083 => ?_)
    · refine ev_aload_n rfl ?_
      refine g_getp (r := 0) (c := 24) g ad0 (by decide) (by decide) rf0_6 ft11_6 ?_
      refine ev_iload_n rfl ?_
      refine g_faaldF g (i := a1) (ev76082) (by omega) (by omega) (fun f76084 qf76084 bf76084 ef76084 => ?_)
      obtain ⟨v76085, ev76085, lv76085, uv76085⟩ : ∃ v : Int, h.2.2 f76084 1 = v ∧ 0 ≤ v ∧ v ≤ 19 := ⟨_, rfl, (g.fd qf76084).2.2.1.1, (g.fd qf76084).2.2.1.2⟩
      obtain ⟨v76086, ev76086, lv76086, uv76086⟩ : ∃ v : Int, h.2.2 f76084 2 = v ∧ 0 ≤ v ∧ v ≤ 100 := ⟨_, rfl, (g.fd qf76084).2.2.2.1, (g.fd qf76084).2.2.2.2⟩
      have c76087 := jfam_in (g.ffam qf76084)
      simp only [jtags, if_true, List.mem_cons, List.not_mem_nil, or_false] at c76087
      rcases c76087 with tyf76084 | tyf76084 | tyf76084 | tyf76084 | tyf76084 | tyf76084
      · refine ev_ret rfl (by decide) (by decide) ?_
        show jEv _ _ _ _ _ _ _ (_, [(2, 0), (0, a1), (0, a2), (0, a3), (9, 0)], [(2, (f76084 : Int))], _, _, _)
        refine ev_astore (L' := [(2, 0), (0, a1), (0, a2), (0, a3), (2, (f76084 : Int))]) (Nat.le_of_ble_eq_true rfl) rfl ?_
        refine ev_aload_n rfl ?_
        refine g_getp (r := 0) (c := 19) g ad0 (by decide) (by decide) rf0_4 ft11_4 ?_
        refine ev_in (d := 6) (a := 0) (b := 0) (cd' := c93_0) (m := 1) (L0 := [(2, 19)]) (jcall_v (A := []) (S' := []) (r := 19) rfl (g.lt ad19) (g.tg ad19) (Nat.le_of_ble_eq_true rfl)) (by decide) ml93 pp93 (Nat.le_of_ble_eq_true rfl) rfl (by decide) (by decide) ?_
        refine ev_aload_n rfl ?_
        refine ev_iconst ?_
        refine g_putf (r := 19) g ad19 (by decide) ft7_5 (by decide) (fun e => absurd e nz7_5) rf19_5 (by decide) (by omega) (by omega) (fun h76088 e76088 g76088 => ?_)
        have k76088 := k0.wr e76088 rfl
        refine ev_ret rfl (by decide) (by decide) ?_
        show jEv _ _ _ _ _ _ _ (_, [(2, 0), (0, a1), (0, a2), (0, a3), (2, (f76084 : Int))], [], _, _, _)
        refine ev_aload rfl ?_
        refine ev_ifnull f210_28 (fun c76089 => absurd c76089 (by omega)) (fun c76089 => ?_)
        refine ev_iload_n rfl ?_
        refine ev_iflt f210_28 (fun c76090 => ?_) (fun c76090 => ?_)
        · refine ev_iconst ?_
          exact ev_ret rfl (by decide) (by decide) ⟨_, rfl, g76088, k76088, Or.inl ⟨(by unfold AV0; rw [ev76082]; omega), rfl, ((jw_eq e76088))⟩⟩
        · refine ev_iload_n rfl ?_
          refine ev_iconst ?_
          refine ev_icmple f210_30 (fun c76091 => ?_) (fun c76091 => ?_)
          · refine ev_iload_n rfl ?_
            rcases (show a2 = 0 ∨ a2 = 1 ∨ a2 = 2 ∨ 2 < a2 by omega) with c76092 | c76092 | c76092 | c76092
            · refine ev_sw (t := 56) (by rw [c76092]; decide) f210_56 ?_
              refine ev_aload rfl ?_
              refine ev_iload_n rfl ?_
              refine ev_in (d := 6) (a := 0) (b := 0) (cd' := c5_0) (m := 2) (L0 := [(2, (f76084 : Int)), (0, a3)]) (jcall_F (A := [(0, a3)]) (S' := []) (r := f76084) (k := 5) rfl (g76088.flt qf76084) (g76088.ffam qf76084) (by rw [k76088.2.1, tyf76084]; rfl) (by decide) (Nat.le_of_ble_eq_true rfl)) (by decide) ml5 pp5 (Nat.le_of_ble_eq_true rfl) rfl (by decide) (by decide) ?_
              refine ev_aload_n rfl ?_
              refine g_fget0 g76088 qf76084 ft0_0 ?_
              refine ev_iconst ?_
              refine ev_in (d := 5) (a := 0) (b := 0) (cd' := c94_0) (m := 2) (L0 := [(2, 19), (0, 1)]) (jcall_v (A := [(0, 1)]) (S' := []) (r := 19) rfl (g76088.lt ad19) (g76088.tg ad19) (Nat.le_of_ble_eq_true rfl)) (by decide) ml94 pp94 (Nat.le_of_ble_eq_true rfl) rfl (by decide) (by decide) ?_
              refine ev_aload_n rfl ?_
              refine g_getv (r := 19) (v := 0) g76088 ad19 (by decide) ft7_5 ((jw_eq e76088)) ?_
              refine ev_bipush ?_
              refine ev_icmpge f94_19 (fun c76093 => absurd c76093 (by omega)) (fun c76093 => ?_)
              refine ev_aload_n rfl ?_
              refine g_getp (r := 19) (c := 22) g76088 ad19 (by decide) (by decide) rf19_2 ft7_2 ?_
              refine ev_aload_n rfl ?_
              refine g_getv (r := 19) (v := 0) g76088 ad19 (by decide) ft7_5 ((jw_eq e76088)) ?_
              refine ev_iload_n rfl ?_
              refine g_iast g76088 ad22 rt22 (fun _ => rfl) (by omega) (by omega) (by omega) (by omega) (fun h76094 e76094 g76094 => ?_)
              have k76094 := k76088.wr e76094 rfl
              refine ev_aload_n rfl ?_
              refine ev_dup (by decide) ?_
              refine g_getv (r := 19) (v := 0) g76094 ad19 (by decide) ft7_5 (((jw_ne e76094 (Or.inl (by decide))).trans (jw_eq e76088))) ?_
              refine ev_iconst ?_
              refine ev_iadd (r := 1) (by decide) ?_
              refine g_putf (r := 19) g76094 ad19 (by decide) ft7_5 (by decide) (fun e => absurd e nz7_5) rf19_5 (by decide) (by omega) (by omega) (fun h76095 e76095 g76095 => ?_)
              have k76095 := k76094.wr e76095 rfl
              refine ev_ret rfl (by decide) (by decide) ?_
              show jEv _ _ _ _ _ _ _ (_, [(2, (f76084 : Int)), (0, a3)], [], _, _, _)
              refine ev_iload_n rfl ?_
              refine ev_aload_n rfl ?_
              refine ev_getf (g76095.flt qf76084) (g76095.ffam qf76084) ft0_1 (((jw_ne e76095 (Or.inl (ne83 bf76084 (by decide)))).trans ((jw_ne e76094 (Or.inl (ne83 bf76084 (by decide)))).trans ((jw_ne e76088 (Or.inl (ne83 bf76084 (by decide)))).trans ev76085)))) ?_
              refine g_iaddG (fun v76096 ev76096 lv76096 uv76096 => ?_)
              refine ev_ret rfl (by decide) (by decide) ?_
              show jEv _ _ _ _ _ _ _ (_, [(2, 0), (0, a1), (0, a2), (0, a3), (2, (f76084 : Int))], [(0, v76096)], _, _, _)
              exact ev_ret rfl (by decide) (by decide) ⟨_, rfl, g76095, k76095, Or.inr ⟨(by unfold AV0; rw [ev76082]; omega), f76084, ef76084, by rw [tyf76084, show kdT 0 = 0 from rfl, show a2 = 0 by omega, ev76085, ev76086, ac_0_0]; (try rw [ev76096]); all_goals (first | rfl | omega | (unfold w32 at *; omega)), by rw [tyf76084, show kdT 0 = 0 from rfl, show a2 = 0 by omega, tr_0_0]; exact ⟨(((jw_eq e76095))), (((jw_ne e76095 (Or.inl (by decide))).trans (jw_eq e76094))), trivial⟩⟩⟩
            · refine ev_sw (t := 63) (by rw [c76092]; decide) f210_63 ?_
              refine ev_aload rfl ?_
              refine ev_iload_n rfl ?_
              refine ev_in (d := 6) (a := 0) (b := 0) (cd' := c6_0) (m := 2) (L0 := [(2, (f76084 : Int)), (0, a3)]) (jcall_F (A := [(0, a3)]) (S' := []) (r := f76084) (k := 6) rfl (g76088.flt qf76084) (g76088.ffam qf76084) (by rw [k76088.2.1, tyf76084]; rfl) (by decide) (Nat.le_of_ble_eq_true rfl)) (by decide) ml6 pp6 (Nat.le_of_ble_eq_true rfl) rfl (by decide) (by decide) ?_
              refine ev_aload_n rfl ?_
              refine g_fget0 g76088 qf76084 ft0_0 ?_
              refine ev_bipush ?_
              refine ev_in (d := 5) (a := 0) (b := 0) (cd' := c94_0) (m := 2) (L0 := [(2, 19), (0, 10)]) (jcall_v (A := [(0, 10)]) (S' := []) (r := 19) rfl (g76088.lt ad19) (g76088.tg ad19) (Nat.le_of_ble_eq_true rfl)) (by decide) ml94 pp94 (Nat.le_of_ble_eq_true rfl) rfl (by decide) (by decide) ?_
              refine ev_aload_n rfl ?_
              refine g_getv (r := 19) (v := 0) g76088 ad19 (by decide) ft7_5 ((jw_eq e76088)) ?_
              refine ev_bipush ?_
              refine ev_icmpge f94_19 (fun c76097 => absurd c76097 (by omega)) (fun c76097 => ?_)
              refine ev_aload_n rfl ?_
              refine g_getp (r := 19) (c := 22) g76088 ad19 (by decide) (by decide) rf19_2 ft7_2 ?_
              refine ev_aload_n rfl ?_
              refine g_getv (r := 19) (v := 0) g76088 ad19 (by decide) ft7_5 ((jw_eq e76088)) ?_
              refine ev_iload_n rfl ?_
              refine g_iast g76088 ad22 rt22 (fun _ => rfl) (by omega) (by omega) (by omega) (by omega) (fun h76098 e76098 g76098 => ?_)
              have k76098 := k76088.wr e76098 rfl
              refine ev_aload_n rfl ?_
              refine ev_dup (by decide) ?_
              refine g_getv (r := 19) (v := 0) g76098 ad19 (by decide) ft7_5 (((jw_ne e76098 (Or.inl (by decide))).trans (jw_eq e76088))) ?_
              refine ev_iconst ?_
              refine ev_iadd (r := 1) (by decide) ?_
              refine g_putf (r := 19) g76098 ad19 (by decide) ft7_5 (by decide) (fun e => absurd e nz7_5) rf19_5 (by decide) (by omega) (by omega) (fun h76099 e76099 g76099 => ?_)
              have k76099 := k76098.wr e76099 rfl
              refine ev_ret rfl (by decide) (by decide) ?_
              show jEv _ _ _ _ _ _ _ (_, [(2, (f76084 : Int)), (0, a3)], [], _, _, _)
              refine ev_aload_n rfl ?_
              refine ev_iload_n rfl ?_
              refine ev_in (d := 5) (a := 0) (b := 0) (cd' := c5_0) (m := 2) (L0 := [(2, (f76084 : Int)), (0, a3)]) (jcall_F (A := [(0, a3)]) (S' := []) (r := f76084) (k := 5) rfl (g76099.flt qf76084) (g76099.ffam qf76084) (by rw [k76099.2.1, tyf76084]; rfl) (by decide) (Nat.le_of_ble_eq_true rfl)) (by decide) ml5 pp5 (Nat.le_of_ble_eq_true rfl) rfl (by decide) (by decide) ?_
              refine ev_aload_n rfl ?_
              refine g_fget0 g76099 qf76084 ft0_0 ?_
              refine ev_iconst ?_
              refine ev_in (d := 4) (a := 0) (b := 0) (cd' := c94_0) (m := 2) (L0 := [(2, 19), (0, 1)]) (jcall_v (A := [(0, 1)]) (S' := []) (r := 19) rfl (g76099.lt ad19) (g76099.tg ad19) (Nat.le_of_ble_eq_true rfl)) (by decide) ml94 pp94 (Nat.le_of_ble_eq_true rfl) rfl (by decide) (by decide) ?_
              refine ev_aload_n rfl ?_
              refine g_getv (r := 19) (v := 1) g76099 ad19 (by decide) ft7_5 ((jw_eq e76099)) ?_
              refine ev_bipush ?_
              refine ev_icmpge f94_19 (fun c76100 => absurd c76100 (by omega)) (fun c76100 => ?_)
              refine ev_aload_n rfl ?_
              refine g_getp (r := 19) (c := 22) g76099 ad19 (by decide) (by decide) rf19_2 ft7_2 ?_
              refine ev_aload_n rfl ?_
              refine g_getv (r := 19) (v := 1) g76099 ad19 (by decide) ft7_5 ((jw_eq e76099)) ?_
              refine ev_iload_n rfl ?_
              refine g_iast g76099 ad22 rt22 (fun _ => rfl) (by omega) (by omega) (by omega) (by omega) (fun h76101 e76101 g76101 => ?_)
              have k76101 := k76099.wr e76101 rfl
              refine ev_aload_n rfl ?_
              refine ev_dup (by decide) ?_
              refine g_getv (r := 19) (v := 1) g76101 ad19 (by decide) ft7_5 (((jw_ne e76101 (Or.inl (by decide))).trans (jw_eq e76099))) ?_
              refine ev_iconst ?_
              refine ev_iadd (r := 2) (by decide) ?_
              refine g_putf (r := 19) g76101 ad19 (by decide) ft7_5 (by decide) (fun e => absurd e nz7_5) rf19_5 (by decide) (by omega) (by omega) (fun h76102 e76102 g76102 => ?_)
              have k76102 := k76101.wr e76102 rfl
              refine ev_ret rfl (by decide) (by decide) ?_
              show jEv _ _ _ _ _ _ _ (_, [(2, (f76084 : Int)), (0, a3)], [], _, _, _)
              refine ev_iload_n rfl ?_
              refine ev_aload_n rfl ?_
              refine ev_getf (g76102.flt qf76084) (g76102.ffam qf76084) ft0_1 (((jw_ne e76102 (Or.inl (ne83 bf76084 (by decide)))).trans ((jw_ne e76101 (Or.inl (ne83 bf76084 (by decide)))).trans ((jw_ne e76099 (Or.inl (ne83 bf76084 (by decide)))).trans ((jw_ne e76098 (Or.inl (ne83 bf76084 (by decide)))).trans ((jw_ne e76088 (Or.inl (ne83 bf76084 (by decide)))).trans ev76085)))))) ?_
              refine g_iaddG (fun v76103 ev76103 lv76103 uv76103 => ?_)
              refine ev_ret rfl (by decide) (by decide) ?_
              show jEv _ _ _ _ _ _ _ (_, [(2, (f76084 : Int)), (0, a3)], [(0, v76103)], _, _, _)
              refine ev_iconst ?_
              refine g_imulG (fun v76104 ev76104 lv76104 uv76104 => ?_)
              refine ev_ret rfl (by decide) (by decide) ?_
              show jEv _ _ _ _ _ _ _ (_, [(2, 0), (0, a1), (0, a2), (0, a3), (2, (f76084 : Int))], [(0, v76104)], _, _, _)
              exact ev_ret rfl (by decide) (by decide) ⟨_, rfl, g76102, k76102, Or.inr ⟨(by unfold AV0; rw [ev76082]; omega), f76084, ef76084, by rw [tyf76084, show kdT 0 = 0 from rfl, show a2 = 1 by omega, ev76085, ev76086, ac_0_1]; (try rw [ev76103]); (try rw [ev76104]); all_goals (first | rfl | omega | (unfold w32 at *; omega)), by rw [tyf76084, show kdT 0 = 0 from rfl, show a2 = 1 by omega, tr_0_1]; exact ⟨(((jw_eq e76102))), (((jw_ne e76102 (Or.inl (by decide))).trans ((jw_ne e76101 (Or.inr (by decide))).trans ((jw_ne e76099 (Or.inl (by decide))).trans (jw_eq e76098))))), (((jw_ne e76102 (Or.inl (by decide))).trans (jw_eq e76101))), trivial⟩⟩⟩
            · refine ev_sw (t := 70) (by rw [c76092]; decide) f210_70 ?_
              refine ev_aload rfl ?_
              refine ev_iload_n rfl ?_
              refine ev_in (d := 6) (a := 0) (b := 0) (cd' := c7_0) (m := 2) (L0 := [(2, (f76084 : Int)), (0, a3)]) (jcall_F (A := [(0, a3)]) (S' := []) (r := f76084) (k := 7) rfl (g76088.flt qf76084) (g76088.ffam qf76084) (by rw [k76088.2.1, tyf76084]; rfl) (by decide) (Nat.le_of_ble_eq_true rfl)) (by decide) ml7 pp7 (Nat.le_of_ble_eq_true rfl) rfl (by decide) (by decide) ?_
              refine ev_aload_n rfl ?_
              refine g_fget0 g76088 qf76084 ft0_0 ?_
              refine ev_bipush ?_
              refine ev_in (d := 5) (a := 0) (b := 0) (cd' := c94_0) (m := 2) (L0 := [(2, 19), (0, 11)]) (jcall_v (A := [(0, 11)]) (S' := []) (r := 19) rfl (g76088.lt ad19) (g76088.tg ad19) (Nat.le_of_ble_eq_true rfl)) (by decide) ml94 pp94 (Nat.le_of_ble_eq_true rfl) rfl (by decide) (by decide) ?_
              refine ev_aload_n rfl ?_
              refine g_getv (r := 19) (v := 0) g76088 ad19 (by decide) ft7_5 ((jw_eq e76088)) ?_
              refine ev_bipush ?_
              refine ev_icmpge f94_19 (fun c76105 => absurd c76105 (by omega)) (fun c76105 => ?_)
              refine ev_aload_n rfl ?_
              refine g_getp (r := 19) (c := 22) g76088 ad19 (by decide) (by decide) rf19_2 ft7_2 ?_
              refine ev_aload_n rfl ?_
              refine g_getv (r := 19) (v := 0) g76088 ad19 (by decide) ft7_5 ((jw_eq e76088)) ?_
              refine ev_iload_n rfl ?_
              refine g_iast g76088 ad22 rt22 (fun _ => rfl) (by omega) (by omega) (by omega) (by omega) (fun h76106 e76106 g76106 => ?_)
              have k76106 := k76088.wr e76106 rfl
              refine ev_aload_n rfl ?_
              refine ev_dup (by decide) ?_
              refine g_getv (r := 19) (v := 0) g76106 ad19 (by decide) ft7_5 (((jw_ne e76106 (Or.inl (by decide))).trans (jw_eq e76088))) ?_
              refine ev_iconst ?_
              refine ev_iadd (r := 1) (by decide) ?_
              refine g_putf (r := 19) g76106 ad19 (by decide) ft7_5 (by decide) (fun e => absurd e nz7_5) rf19_5 (by decide) (by omega) (by omega) (fun h76107 e76107 g76107 => ?_)
              have k76107 := k76106.wr e76107 rfl
              refine ev_ret rfl (by decide) (by decide) ?_
              show jEv _ _ _ _ _ _ _ (_, [(2, (f76084 : Int)), (0, a3)], [], _, _, _)
              refine ev_iload_n rfl ?_
              refine ev_aload_n rfl ?_
              refine ev_getf (g76107.flt qf76084) (g76107.ffam qf76084) ft0_1 (((jw_ne e76107 (Or.inl (ne83 bf76084 (by decide)))).trans ((jw_ne e76106 (Or.inl (ne83 bf76084 (by decide)))).trans ((jw_ne e76088 (Or.inl (ne83 bf76084 (by decide)))).trans ev76085)))) ?_
              refine g_ixorG (fun v76108 ev76108 lv76108 uv76108 => ?_)
              refine ev_ret rfl (by decide) (by decide) ?_
              show jEv _ _ _ _ _ _ _ (_, [(2, 0), (0, a1), (0, a2), (0, a3), (2, (f76084 : Int))], [(0, v76108)], _, _, _)
              exact ev_ret rfl (by decide) (by decide) ⟨_, rfl, g76107, k76107, Or.inr ⟨(by unfold AV0; rw [ev76082]; omega), f76084, ef76084, by rw [tyf76084, show kdT 0 = 0 from rfl, show a2 = 2 by omega, ev76085, ev76086, ac_0_2]; (try rw [ev76108]); all_goals (first | rfl | omega | (unfold w32 at *; omega)), by rw [tyf76084, show kdT 0 = 0 from rfl, show a2 = 2 by omega, tr_0_2]; exact ⟨(((jw_eq e76107))), (((jw_ne e76107 (Or.inl (by decide))).trans (jw_eq e76106))), trivial⟩⟩⟩
            · refine ev_sw (t := 77) (by rw [if_pos (show _ ∨ _ by omega)]; rfl) f210_77 ?_
              refine ev_aload rfl ?_
              refine ev_iload_n rfl ?_
              refine ev_in (d := 6) (a := 0) (b := 0) (cd' := c8_0) (m := 2) (L0 := [(2, (f76084 : Int)), (0, a3)]) (jcall_F (A := [(0, a3)]) (S' := []) (r := f76084) (k := 8) rfl (g76088.flt qf76084) (g76088.ffam qf76084) (by rw [k76088.2.1, tyf76084]; rfl) (by decide) (Nat.le_of_ble_eq_true rfl)) (by decide) ml8 pp8 (Nat.le_of_ble_eq_true rfl) rfl (by decide) (by decide) ?_
              refine ev_aload_n rfl ?_
              refine g_fget0 g76088 qf76084 ft0_0 ?_
              refine ev_iconst ?_
              refine ev_in (d := 5) (a := 0) (b := 0) (cd' := c94_0) (m := 2) (L0 := [(2, 19), (0, 2)]) (jcall_v (A := [(0, 2)]) (S' := []) (r := 19) rfl (g76088.lt ad19) (g76088.tg ad19) (Nat.le_of_ble_eq_true rfl)) (by decide) ml94 pp94 (Nat.le_of_ble_eq_true rfl) rfl (by decide) (by decide) ?_
              refine ev_aload_n rfl ?_
              refine g_getv (r := 19) (v := 0) g76088 ad19 (by decide) ft7_5 ((jw_eq e76088)) ?_
              refine ev_bipush ?_
              refine ev_icmpge f94_19 (fun c76109 => absurd c76109 (by omega)) (fun c76109 => ?_)
              refine ev_aload_n rfl ?_
              refine g_getp (r := 19) (c := 22) g76088 ad19 (by decide) (by decide) rf19_2 ft7_2 ?_
              refine ev_aload_n rfl ?_
              refine g_getv (r := 19) (v := 0) g76088 ad19 (by decide) ft7_5 ((jw_eq e76088)) ?_
              refine ev_iload_n rfl ?_
              refine g_iast g76088 ad22 rt22 (fun _ => rfl) (by omega) (by omega) (by omega) (by omega) (fun h76110 e76110 g76110 => ?_)
              have k76110 := k76088.wr e76110 rfl
              refine ev_aload_n rfl ?_
              refine ev_dup (by decide) ?_
              refine g_getv (r := 19) (v := 0) g76110 ad19 (by decide) ft7_5 (((jw_ne e76110 (Or.inl (by decide))).trans (jw_eq e76088))) ?_
              refine ev_iconst ?_
              refine ev_iadd (r := 1) (by decide) ?_
              refine g_putf (r := 19) g76110 ad19 (by decide) ft7_5 (by decide) (fun e => absurd e nz7_5) rf19_5 (by decide) (by omega) (by omega) (fun h76111 e76111 g76111 => ?_)
              have k76111 := k76110.wr e76111 rfl
              refine ev_ret rfl (by decide) (by decide) ?_
              show jEv _ _ _ _ _ _ _ (_, [(2, (f76084 : Int)), (0, a3)], [], _, _, _)
              refine ev_aload_n rfl ?_
              refine ev_iload_n rfl ?_
              refine ev_in (d := 5) (a := 0) (b := 0) (cd' := c6_0) (m := 2) (L0 := [(2, (f76084 : Int)), (0, a3)]) (jcall_F (A := [(0, a3)]) (S' := []) (r := f76084) (k := 6) rfl (g76111.flt qf76084) (g76111.ffam qf76084) (by rw [k76111.2.1, tyf76084]; rfl) (by decide) (Nat.le_of_ble_eq_true rfl)) (by decide) ml6 pp6 (Nat.le_of_ble_eq_true rfl) rfl (by decide) (by decide) ?_
              refine ev_aload_n rfl ?_
              refine g_fget0 g76111 qf76084 ft0_0 ?_
              refine ev_bipush ?_
              refine ev_in (d := 4) (a := 0) (b := 0) (cd' := c94_0) (m := 2) (L0 := [(2, 19), (0, 10)]) (jcall_v (A := [(0, 10)]) (S' := []) (r := 19) rfl (g76111.lt ad19) (g76111.tg ad19) (Nat.le_of_ble_eq_true rfl)) (by decide) ml94 pp94 (Nat.le_of_ble_eq_true rfl) rfl (by decide) (by decide) ?_
              refine ev_aload_n rfl ?_
              refine g_getv (r := 19) (v := 1) g76111 ad19 (by decide) ft7_5 ((jw_eq e76111)) ?_
              refine ev_bipush ?_
              refine ev_icmpge f94_19 (fun c76112 => absurd c76112 (by omega)) (fun c76112 => ?_)
              refine ev_aload_n rfl ?_
              refine g_getp (r := 19) (c := 22) g76111 ad19 (by decide) (by decide) rf19_2 ft7_2 ?_
              refine ev_aload_n rfl ?_
              refine g_getv (r := 19) (v := 1) g76111 ad19 (by decide) ft7_5 ((jw_eq e76111)) ?_
              refine ev_iload_n rfl ?_
              refine g_iast g76111 ad22 rt22 (fun _ => rfl) (by omega) (by omega) (by omega) (by omega) (fun h76113 e76113 g76113 => ?_)
              have k76113 := k76111.wr e76113 rfl
              refine ev_aload_n rfl ?_
              refine ev_dup (by decide) ?_
              refine g_getv (r := 19) (v := 1) g76113 ad19 (by decide) ft7_5 (((jw_ne e76113 (Or.inl (by decide))).trans (jw_eq e76111))) ?_
              refine ev_iconst ?_
              refine ev_iadd (r := 2) (by decide) ?_
              refine g_putf (r := 19) g76113 ad19 (by decide) ft7_5 (by decide) (fun e => absurd e nz7_5) rf19_5 (by decide) (by omega) (by omega) (fun h76114 e76114 g76114 => ?_)
              have k76114 := k76113.wr e76114 rfl
              refine ev_ret rfl (by decide) (by decide) ?_
              show jEv _ _ _ _ _ _ _ (_, [(2, (f76084 : Int)), (0, a3)], [], _, _, _)
              refine ev_aload_n rfl ?_
              refine ev_iload_n rfl ?_
              refine ev_in (d := 4) (a := 0) (b := 0) (cd' := c5_0) (m := 2) (L0 := [(2, (f76084 : Int)), (0, a3)]) (jcall_F (A := [(0, a3)]) (S' := []) (r := f76084) (k := 5) rfl (g76114.flt qf76084) (g76114.ffam qf76084) (by rw [k76114.2.1, tyf76084]; rfl) (by decide) (Nat.le_of_ble_eq_true rfl)) (by decide) ml5 pp5 (Nat.le_of_ble_eq_true rfl) rfl (by decide) (by decide) ?_
              refine ev_aload_n rfl ?_
              refine g_fget0 g76114 qf76084 ft0_0 ?_
              refine ev_iconst ?_
              refine ev_in (d := 3) (a := 0) (b := 0) (cd' := c94_0) (m := 2) (L0 := [(2, 19), (0, 1)]) (jcall_v (A := [(0, 1)]) (S' := []) (r := 19) rfl (g76114.lt ad19) (g76114.tg ad19) (Nat.le_of_ble_eq_true rfl)) (by decide) ml94 pp94 (Nat.le_of_ble_eq_true rfl) rfl (by decide) (by decide) ?_
              refine ev_aload_n rfl ?_
              refine g_getv (r := 19) (v := 2) g76114 ad19 (by decide) ft7_5 ((jw_eq e76114)) ?_
              refine ev_bipush ?_
              refine ev_icmpge f94_19 (fun c76115 => absurd c76115 (by omega)) (fun c76115 => ?_)
              refine ev_aload_n rfl ?_
              refine g_getp (r := 19) (c := 22) g76114 ad19 (by decide) (by decide) rf19_2 ft7_2 ?_
              refine ev_aload_n rfl ?_
              refine g_getv (r := 19) (v := 2) g76114 ad19 (by decide) ft7_5 ((jw_eq e76114)) ?_
              refine ev_iload_n rfl ?_
              refine g_iast g76114 ad22 rt22 (fun _ => rfl) (by omega) (by omega) (by omega) (by omega) (fun h76116 e76116 g76116 => ?_)
              have k76116 := k76114.wr e76116 rfl
              refine ev_aload_n rfl ?_
              refine ev_dup (by decide) ?_
              refine g_getv (r := 19) (v := 2) g76116 ad19 (by decide) ft7_5 (((jw_ne e76116 (Or.inl (by decide))).trans (jw_eq e76114))) ?_
              refine ev_iconst ?_
              refine ev_iadd (r := 3) (by decide) ?_
              refine g_putf (r := 19) g76116 ad19 (by decide) ft7_5 (by decide) (fun e => absurd e nz7_5) rf19_5 (by decide) (by omega) (by omega) (fun h76117 e76117 g76117 => ?_)
              have k76117 := k76116.wr e76117 rfl
              refine ev_ret rfl (by decide) (by decide) ?_
              show jEv _ _ _ _ _ _ _ (_, [(2, (f76084 : Int)), (0, a3)], [], _, _, _)
              refine ev_iload_n rfl ?_
              refine ev_aload_n rfl ?_
              refine ev_getf (g76117.flt qf76084) (g76117.ffam qf76084) ft0_1 (((jw_ne e76117 (Or.inl (ne83 bf76084 (by decide)))).trans ((jw_ne e76116 (Or.inl (ne83 bf76084 (by decide)))).trans ((jw_ne e76114 (Or.inl (ne83 bf76084 (by decide)))).trans ((jw_ne e76113 (Or.inl (ne83 bf76084 (by decide)))).trans ((jw_ne e76111 (Or.inl (ne83 bf76084 (by decide)))).trans ((jw_ne e76110 (Or.inl (ne83 bf76084 (by decide)))).trans ((jw_ne e76088 (Or.inl (ne83 bf76084 (by decide)))).trans ev76085)))))))) ?_
              refine g_iaddG (fun v76118 ev76118 lv76118 uv76118 => ?_)
              refine ev_ret rfl (by decide) (by decide) ?_
              show jEv _ _ _ _ _ _ _ (_, [(2, (f76084 : Int)), (0, a3)], [(0, v76118)], _, _, _)
              refine ev_iconst ?_
              refine g_imulG (fun v76119 ev76119 lv76119 uv76119 => ?_)
              refine ev_ret rfl (by decide) (by decide) ?_
              show jEv _ _ _ _ _ _ _ (_, [(2, (f76084 : Int)), (0, a3)], [(0, v76119)], _, _, _)
              refine ev_aload_n rfl ?_
              refine ev_iconst ?_
              refine ev_in (d := 5) (a := 0) (b := 0) (cd' := c7_0) (m := 2) (L0 := [(2, (f76084 : Int)), (0, 1)]) (jcall_F (A := [(0, 1)]) (S' := [(0, v76119)]) (r := f76084) (k := 7) rfl (g76117.flt qf76084) (g76117.ffam qf76084) (by rw [k76117.2.1, tyf76084]; rfl) (by decide) (Nat.le_of_ble_eq_true rfl)) (by decide) ml7 pp7 (Nat.le_of_ble_eq_true rfl) rfl (by decide) (by decide) ?_
              refine ev_aload_n rfl ?_
              refine g_fget0 g76117 qf76084 ft0_0 ?_
              refine ev_bipush ?_
              refine ev_in (d := 4) (a := 0) (b := 0) (cd' := c94_0) (m := 2) (L0 := [(2, 19), (0, 11)]) (jcall_v (A := [(0, 11)]) (S' := []) (r := 19) rfl (g76117.lt ad19) (g76117.tg ad19) (Nat.le_of_ble_eq_true rfl)) (by decide) ml94 pp94 (Nat.le_of_ble_eq_true rfl) rfl (by decide) (by decide) ?_
              refine ev_aload_n rfl ?_
              refine g_getv (r := 19) (v := 3) g76117 ad19 (by decide) ft7_5 ((jw_eq e76117)) ?_
              refine ev_bipush ?_
              refine ev_icmpge f94_19 (fun c76120 => absurd c76120 (by omega)) (fun c76120 => ?_)
              refine ev_aload_n rfl ?_
              refine g_getp (r := 19) (c := 22) g76117 ad19 (by decide) (by decide) rf19_2 ft7_2 ?_
              refine ev_aload_n rfl ?_
              refine g_getv (r := 19) (v := 3) g76117 ad19 (by decide) ft7_5 ((jw_eq e76117)) ?_
              refine ev_iload_n rfl ?_
              refine g_iast g76117 ad22 rt22 (fun _ => rfl) (by omega) (by omega) (by omega) (by omega) (fun h76121 e76121 g76121 => ?_)
              have k76121 := k76117.wr e76121 rfl
              refine ev_aload_n rfl ?_
              refine ev_dup (by decide) ?_
              refine g_getv (r := 19) (v := 3) g76121 ad19 (by decide) ft7_5 (((jw_ne e76121 (Or.inl (by decide))).trans (jw_eq e76117))) ?_
              refine ev_iconst ?_
              refine ev_iadd (r := 4) (by decide) ?_
              refine g_putf (r := 19) g76121 ad19 (by decide) ft7_5 (by decide) (fun e => absurd e nz7_5) rf19_5 (by decide) (by omega) (by omega) (fun h76122 e76122 g76122 => ?_)
              have k76122 := k76121.wr e76122 rfl
              refine ev_ret rfl (by decide) (by decide) ?_
              show jEv _ _ _ _ _ _ _ (_, [(2, (f76084 : Int)), (0, 1)], [], _, _, _)
              refine ev_iload_n rfl ?_
              refine ev_aload_n rfl ?_
              refine ev_getf (g76122.flt qf76084) (g76122.ffam qf76084) ft0_1 (((jw_ne e76122 (Or.inl (ne83 bf76084 (by decide)))).trans ((jw_ne e76121 (Or.inl (ne83 bf76084 (by decide)))).trans ((jw_ne e76117 (Or.inl (ne83 bf76084 (by decide)))).trans ((jw_ne e76116 (Or.inl (ne83 bf76084 (by decide)))).trans ((jw_ne e76114 (Or.inl (ne83 bf76084 (by decide)))).trans ((jw_ne e76113 (Or.inl (ne83 bf76084 (by decide)))).trans ((jw_ne e76111 (Or.inl (ne83 bf76084 (by decide)))).trans ((jw_ne e76110 (Or.inl (ne83 bf76084 (by decide)))).trans ((jw_ne e76088 (Or.inl (ne83 bf76084 (by decide)))).trans ev76085)))))))))) ?_
              refine g_ixorB (k := 5) (hi := 31) (by decide) (by decide) (by omega) (by omega) (by omega) (by omega) (fun v76123 ev76123 lv76123 uv76123 => ?_)
              refine ev_ret rfl (by decide) (by decide) ?_
              show jEv _ _ _ _ _ _ _ (_, [(2, (f76084 : Int)), (0, a3)], [(0, v76123), (0, v76119)], _, _, _)
              refine g_isubG (fun v76124 ev76124 lv76124 uv76124 => ?_)
              refine ev_ret rfl (by decide) (by decide) ?_
              show jEv _ _ _ _ _ _ _ (_, [(2, 0), (0, a1), (0, a2), (0, a3), (2, (f76084 : Int))], [(0, v76124)], _, _, _)
              exact ev_ret rfl (by decide) (by decide) ⟨_, rfl, g76122, k76122, Or.inr ⟨(by unfold AV0; rw [ev76082]; omega), f76084, ef76084, by rw [tyf76084, show kdT 0 = 0 from rfl, show a2 = 3 by omega, ev76085, ev76086, ac_0_3]; (try rw [ev76118]); (try rw [ev76119]); (try rw [ev76123]); (try rw [ev76124]); all_goals (first | rfl | omega | (unfold w32 at *; omega)), by rw [tyf76084, show kdT 0 = 0 from rfl, show a2 = 3 by omega, tr_0_3]; exact ⟨(((jw_eq e76122))), (((jw_ne e76122 (Or.inl (by decide))).trans ((jw_ne e76121 (Or.inr (by decide))).trans ((jw_ne e76117 (Or.inl (by decide))).trans ((jw_ne e76116 (Or.inr (by decide))).trans ((jw_ne e76114 (Or.inl (by decide))).trans ((jw_ne e76113 (Or.inr (by decide))).trans ((jw_ne e76111 (Or.inl (by decide))).trans (jw_eq e76110))))))))), (((jw_ne e76122 (Or.inl (by decide))).trans ((jw_ne e76121 (Or.inr (by decide))).trans ((jw_ne e76117 (Or.inl (by decide))).trans ((jw_ne e76116 (Or.inr (by decide))).trans ((jw_ne e76114 (Or.inl (by decide))).trans (jw_eq e76113))))))), (((jw_ne e76122 (Or.inl (by decide))).trans ((jw_ne e76121 (Or.inr (by decide))).trans ((jw_ne e76117 (Or.inl (by decide))).trans (jw_eq e76116))))), (((jw_ne e76122 (Or.inl (by decide))).trans (jw_eq e76121))), trivial⟩⟩⟩
          · refine ev_iconst ?_
            exact ev_ret rfl (by decide) (by decide) ⟨_, rfl, g76088, k76088, Or.inl ⟨(by unfold AV0; rw [ev76082]; omega), rfl, ((jw_eq e76088))⟩⟩
      · refine ev_ret rfl (by decide) (by decide) ?_
        show jEv _ _ _ _ _ _ _ (_, [(2, 0), (0, a1), (0, a2), (0, a3), (9, 0)], [(2, (f76084 : Int))], _, _, _)
        refine ev_astore (L' := [(2, 0), (0, a1), (0, a2), (0, a3), (2, (f76084 : Int))]) (Nat.le_of_ble_eq_true rfl) rfl ?_
        refine ev_aload_n rfl ?_
        refine g_getp (r := 0) (c := 19) g ad0 (by decide) (by decide) rf0_4 ft11_4 ?_
        refine ev_in (d := 6) (a := 0) (b := 0) (cd' := c93_0) (m := 1) (L0 := [(2, 19)]) (jcall_v (A := []) (S' := []) (r := 19) rfl (g.lt ad19) (g.tg ad19) (Nat.le_of_ble_eq_true rfl)) (by decide) ml93 pp93 (Nat.le_of_ble_eq_true rfl) rfl (by decide) (by decide) ?_
        refine ev_aload_n rfl ?_
        refine ev_iconst ?_
        refine g_putf (r := 19) g ad19 (by decide) ft7_5 (by decide) (fun e => absurd e nz7_5) rf19_5 (by decide) (by omega) (by omega) (fun h76125 e76125 g76125 => ?_)
        have k76125 := k0.wr e76125 rfl
        refine ev_ret rfl (by decide) (by decide) ?_
        show jEv _ _ _ _ _ _ _ (_, [(2, 0), (0, a1), (0, a2), (0, a3), (2, (f76084 : Int))], [], _, _, _)
        refine ev_aload rfl ?_
        refine ev_ifnull f210_28 (fun c76126 => absurd c76126 (by omega)) (fun c76126 => ?_)
        refine ev_iload_n rfl ?_
        refine ev_iflt f210_28 (fun c76127 => ?_) (fun c76127 => ?_)
        · refine ev_iconst ?_
          exact ev_ret rfl (by decide) (by decide) ⟨_, rfl, g76125, k76125, Or.inl ⟨(by unfold AV0; rw [ev76082]; omega), rfl, ((jw_eq e76125))⟩⟩
        · refine ev_iload_n rfl ?_
          refine ev_iconst ?_
          refine ev_icmple f210_30 (fun c76128 => ?_) (fun c76128 => ?_)
          · refine ev_iload_n rfl ?_
            rcases (show a2 = 0 ∨ a2 = 1 ∨ a2 = 2 ∨ 2 < a2 by omega) with c76129 | c76129 | c76129 | c76129
            · refine ev_sw (t := 56) (by rw [c76129]; decide) f210_56 ?_
              refine ev_aload rfl ?_
              refine ev_iload_n rfl ?_
              refine ev_in (d := 6) (a := 0) (b := 0) (cd' := c5_0) (m := 2) (L0 := [(2, (f76084 : Int)), (0, a3)]) (jcall_F (A := [(0, a3)]) (S' := []) (r := f76084) (k := 5) rfl (g76125.flt qf76084) (g76125.ffam qf76084) (by rw [k76125.2.1, tyf76084]; rfl) (by decide) (Nat.le_of_ble_eq_true rfl)) (by decide) ml5 pp5 (Nat.le_of_ble_eq_true rfl) rfl (by decide) (by decide) ?_
              refine ev_aload_n rfl ?_
              refine g_fget0 g76125 qf76084 ft0_0 ?_
              refine ev_iconst ?_
              refine ev_in (d := 5) (a := 0) (b := 0) (cd' := c94_0) (m := 2) (L0 := [(2, 19), (0, 1)]) (jcall_v (A := [(0, 1)]) (S' := []) (r := 19) rfl (g76125.lt ad19) (g76125.tg ad19) (Nat.le_of_ble_eq_true rfl)) (by decide) ml94 pp94 (Nat.le_of_ble_eq_true rfl) rfl (by decide) (by decide) ?_
              refine ev_aload_n rfl ?_
              refine g_getv (r := 19) (v := 0) g76125 ad19 (by decide) ft7_5 ((jw_eq e76125)) ?_
              refine ev_bipush ?_
              refine ev_icmpge f94_19 (fun c76130 => absurd c76130 (by omega)) (fun c76130 => ?_)
              refine ev_aload_n rfl ?_
              refine g_getp (r := 19) (c := 22) g76125 ad19 (by decide) (by decide) rf19_2 ft7_2 ?_
              refine ev_aload_n rfl ?_
              refine g_getv (r := 19) (v := 0) g76125 ad19 (by decide) ft7_5 ((jw_eq e76125)) ?_
              refine ev_iload_n rfl ?_
              refine g_iast g76125 ad22 rt22 (fun _ => rfl) (by omega) (by omega) (by omega) (by omega) (fun h76131 e76131 g76131 => ?_)
              have k76131 := k76125.wr e76131 rfl
              refine ev_aload_n rfl ?_
              refine ev_dup (by decide) ?_
              refine g_getv (r := 19) (v := 0) g76131 ad19 (by decide) ft7_5 (((jw_ne e76131 (Or.inl (by decide))).trans (jw_eq e76125))) ?_
              refine ev_iconst ?_
              refine ev_iadd (r := 1) (by decide) ?_
              refine g_putf (r := 19) g76131 ad19 (by decide) ft7_5 (by decide) (fun e => absurd e nz7_5) rf19_5 (by decide) (by omega) (by omega) (fun h76132 e76132 g76132 => ?_)
              have k76132 := k76131.wr e76132 rfl
              refine ev_ret rfl (by decide) (by decide) ?_
              show jEv _ _ _ _ _ _ _ (_, [(2, (f76084 : Int)), (0, a3)], [], _, _, _)
              refine ev_iload_n rfl ?_
              refine ev_aload_n rfl ?_
              refine ev_getf (g76132.flt qf76084) (g76132.ffam qf76084) ft0_1 (((jw_ne e76132 (Or.inl (ne83 bf76084 (by decide)))).trans ((jw_ne e76131 (Or.inl (ne83 bf76084 (by decide)))).trans ((jw_ne e76125 (Or.inl (ne83 bf76084 (by decide)))).trans ev76085)))) ?_
              refine g_iaddG (fun v76133 ev76133 lv76133 uv76133 => ?_)
              refine ev_ret rfl (by decide) (by decide) ?_
              show jEv _ _ _ _ _ _ _ (_, [(2, 0), (0, a1), (0, a2), (0, a3), (2, (f76084 : Int))], [(0, v76133)], _, _, _)
              exact ev_ret rfl (by decide) (by decide) ⟨_, rfl, g76132, k76132, Or.inr ⟨(by unfold AV0; rw [ev76082]; omega), f76084, ef76084, by rw [tyf76084, show kdT 1 = 1 from rfl, show a2 = 0 by omega, ev76085, ev76086, ac_1_0]; (try rw [ev76133]); all_goals (first | rfl | omega | (unfold w32 at *; omega)), by rw [tyf76084, show kdT 1 = 1 from rfl, show a2 = 0 by omega, tr_1_0]; exact ⟨(((jw_eq e76132))), (((jw_ne e76132 (Or.inl (by decide))).trans (jw_eq e76131))), trivial⟩⟩⟩
            · refine ev_sw (t := 63) (by rw [c76129]; decide) f210_63 ?_
              refine ev_aload rfl ?_
              refine ev_iload_n rfl ?_
              refine ev_in (d := 6) (a := 0) (b := 0) (cd' := c12_0) (m := 2) (L0 := [(2, (f76084 : Int)), (0, a3)]) (jcall_F (A := [(0, a3)]) (S' := []) (r := f76084) (k := 12) rfl (g76125.flt qf76084) (g76125.ffam qf76084) (by rw [k76125.2.1, tyf76084]; rfl) (by decide) (Nat.le_of_ble_eq_true rfl)) (by decide) ml12 pp12 (Nat.le_of_ble_eq_true rfl) rfl (by decide) (by decide) ?_
              refine ev_aload_n rfl ?_
              refine g_fget0 g76125 qf76084 ft0_0 ?_
              refine ev_bipush ?_
              refine ev_in (d := 5) (a := 0) (b := 0) (cd' := c94_0) (m := 2) (L0 := [(2, 19), (0, 20)]) (jcall_v (A := [(0, 20)]) (S' := []) (r := 19) rfl (g76125.lt ad19) (g76125.tg ad19) (Nat.le_of_ble_eq_true rfl)) (by decide) ml94 pp94 (Nat.le_of_ble_eq_true rfl) rfl (by decide) (by decide) ?_
              refine ev_aload_n rfl ?_
              refine g_getv (r := 19) (v := 0) g76125 ad19 (by decide) ft7_5 ((jw_eq e76125)) ?_
              refine ev_bipush ?_
              refine ev_icmpge f94_19 (fun c76134 => absurd c76134 (by omega)) (fun c76134 => ?_)
              refine ev_aload_n rfl ?_
              refine g_getp (r := 19) (c := 22) g76125 ad19 (by decide) (by decide) rf19_2 ft7_2 ?_
              refine ev_aload_n rfl ?_
              refine g_getv (r := 19) (v := 0) g76125 ad19 (by decide) ft7_5 ((jw_eq e76125)) ?_
              refine ev_iload_n rfl ?_
              refine g_iast g76125 ad22 rt22 (fun _ => rfl) (by omega) (by omega) (by omega) (by omega) (fun h76135 e76135 g76135 => ?_)
              have k76135 := k76125.wr e76135 rfl
              refine ev_aload_n rfl ?_
              refine ev_dup (by decide) ?_
              refine g_getv (r := 19) (v := 0) g76135 ad19 (by decide) ft7_5 (((jw_ne e76135 (Or.inl (by decide))).trans (jw_eq e76125))) ?_
              refine ev_iconst ?_
              refine ev_iadd (r := 1) (by decide) ?_
              refine g_putf (r := 19) g76135 ad19 (by decide) ft7_5 (by decide) (fun e => absurd e nz7_5) rf19_5 (by decide) (by omega) (by omega) (fun h76136 e76136 g76136 => ?_)
              have k76136 := k76135.wr e76136 rfl
              refine ev_ret rfl (by decide) (by decide) ?_
              show jEv _ _ _ _ _ _ _ (_, [(2, (f76084 : Int)), (0, a3)], [], _, _, _)
              refine ev_aload_n rfl ?_
              refine ev_iload_n rfl ?_
              refine ev_in (d := 5) (a := 0) (b := 0) (cd' := c6_0) (m := 2) (L0 := [(2, (f76084 : Int)), (0, a3)]) (jcall_u (A := [(0, a3)]) (S' := []) (r := f76084) rfl (g76136.flt qf76084) (g76136.ffam qf76084) (Nat.le_of_ble_eq_true rfl)) (by decide) ml6 pp6 (Nat.le_of_ble_eq_true rfl) rfl (by decide) (by decide) ?_
              refine ev_aload_n rfl ?_
              refine g_fget0 g76136 qf76084 ft0_0 ?_
              refine ev_bipush ?_
              refine ev_in (d := 4) (a := 0) (b := 0) (cd' := c94_0) (m := 2) (L0 := [(2, 19), (0, 10)]) (jcall_v (A := [(0, 10)]) (S' := []) (r := 19) rfl (g76136.lt ad19) (g76136.tg ad19) (Nat.le_of_ble_eq_true rfl)) (by decide) ml94 pp94 (Nat.le_of_ble_eq_true rfl) rfl (by decide) (by decide) ?_
              refine ev_aload_n rfl ?_
              refine g_getv (r := 19) (v := 1) g76136 ad19 (by decide) ft7_5 ((jw_eq e76136)) ?_
              refine ev_bipush ?_
              refine ev_icmpge f94_19 (fun c76137 => absurd c76137 (by omega)) (fun c76137 => ?_)
              refine ev_aload_n rfl ?_
              refine g_getp (r := 19) (c := 22) g76136 ad19 (by decide) (by decide) rf19_2 ft7_2 ?_
              refine ev_aload_n rfl ?_
              refine g_getv (r := 19) (v := 1) g76136 ad19 (by decide) ft7_5 ((jw_eq e76136)) ?_
              refine ev_iload_n rfl ?_
              refine g_iast g76136 ad22 rt22 (fun _ => rfl) (by omega) (by omega) (by omega) (by omega) (fun h76138 e76138 g76138 => ?_)
              have k76138 := k76136.wr e76138 rfl
              refine ev_aload_n rfl ?_
              refine ev_dup (by decide) ?_
              refine g_getv (r := 19) (v := 1) g76138 ad19 (by decide) ft7_5 (((jw_ne e76138 (Or.inl (by decide))).trans (jw_eq e76136))) ?_
              refine ev_iconst ?_
              refine ev_iadd (r := 2) (by decide) ?_
              refine g_putf (r := 19) g76138 ad19 (by decide) ft7_5 (by decide) (fun e => absurd e nz7_5) rf19_5 (by decide) (by omega) (by omega) (fun h76139 e76139 g76139 => ?_)
              have k76139 := k76138.wr e76139 rfl
              refine ev_ret rfl (by decide) (by decide) ?_
              show jEv _ _ _ _ _ _ _ (_, [(2, (f76084 : Int)), (0, a3)], [], _, _, _)
              refine ev_aload_n rfl ?_
              refine ev_iload_n rfl ?_
              refine ev_in (d := 4) (a := 0) (b := 0) (cd' := c5_0) (m := 2) (L0 := [(2, (f76084 : Int)), (0, a3)]) (jcall_F (A := [(0, a3)]) (S' := []) (r := f76084) (k := 5) rfl (g76139.flt qf76084) (g76139.ffam qf76084) (by rw [k76139.2.1, tyf76084]; rfl) (by decide) (Nat.le_of_ble_eq_true rfl)) (by decide) ml5 pp5 (Nat.le_of_ble_eq_true rfl) rfl (by decide) (by decide) ?_
              refine ev_aload_n rfl ?_
              refine g_fget0 g76139 qf76084 ft0_0 ?_
              refine ev_iconst ?_
              refine ev_in (d := 3) (a := 0) (b := 0) (cd' := c94_0) (m := 2) (L0 := [(2, 19), (0, 1)]) (jcall_v (A := [(0, 1)]) (S' := []) (r := 19) rfl (g76139.lt ad19) (g76139.tg ad19) (Nat.le_of_ble_eq_true rfl)) (by decide) ml94 pp94 (Nat.le_of_ble_eq_true rfl) rfl (by decide) (by decide) ?_
              refine ev_aload_n rfl ?_
              refine g_getv (r := 19) (v := 2) g76139 ad19 (by decide) ft7_5 ((jw_eq e76139)) ?_
              refine ev_bipush ?_
              refine ev_icmpge f94_19 (fun c76140 => absurd c76140 (by omega)) (fun c76140 => ?_)
              refine ev_aload_n rfl ?_
              refine g_getp (r := 19) (c := 22) g76139 ad19 (by decide) (by decide) rf19_2 ft7_2 ?_
              refine ev_aload_n rfl ?_
              refine g_getv (r := 19) (v := 2) g76139 ad19 (by decide) ft7_5 ((jw_eq e76139)) ?_
              refine ev_iload_n rfl ?_
              refine g_iast g76139 ad22 rt22 (fun _ => rfl) (by omega) (by omega) (by omega) (by omega) (fun h76141 e76141 g76141 => ?_)
              have k76141 := k76139.wr e76141 rfl
              refine ev_aload_n rfl ?_
              refine ev_dup (by decide) ?_
              refine g_getv (r := 19) (v := 2) g76141 ad19 (by decide) ft7_5 (((jw_ne e76141 (Or.inl (by decide))).trans (jw_eq e76139))) ?_
              refine ev_iconst ?_
              refine ev_iadd (r := 3) (by decide) ?_
              refine g_putf (r := 19) g76141 ad19 (by decide) ft7_5 (by decide) (fun e => absurd e nz7_5) rf19_5 (by decide) (by omega) (by omega) (fun h76142 e76142 g76142 => ?_)
              have k76142 := k76141.wr e76142 rfl
              refine ev_ret rfl (by decide) (by decide) ?_
              show jEv _ _ _ _ _ _ _ (_, [(2, (f76084 : Int)), (0, a3)], [], _, _, _)
              refine ev_iload_n rfl ?_
              refine ev_aload_n rfl ?_
              refine ev_getf (g76142.flt qf76084) (g76142.ffam qf76084) ft0_1 (((jw_ne e76142 (Or.inl (ne83 bf76084 (by decide)))).trans ((jw_ne e76141 (Or.inl (ne83 bf76084 (by decide)))).trans ((jw_ne e76139 (Or.inl (ne83 bf76084 (by decide)))).trans ((jw_ne e76138 (Or.inl (ne83 bf76084 (by decide)))).trans ((jw_ne e76136 (Or.inl (ne83 bf76084 (by decide)))).trans ((jw_ne e76135 (Or.inl (ne83 bf76084 (by decide)))).trans ((jw_ne e76125 (Or.inl (ne83 bf76084 (by decide)))).trans ev76085)))))))) ?_
              refine g_iaddG (fun v76143 ev76143 lv76143 uv76143 => ?_)
              refine ev_ret rfl (by decide) (by decide) ?_
              show jEv _ _ _ _ _ _ _ (_, [(2, (f76084 : Int)), (0, a3)], [(0, v76143)], _, _, _)
              refine ev_iconst ?_
              refine g_imulG (fun v76144 ev76144 lv76144 uv76144 => ?_)
              refine ev_ret rfl (by decide) (by decide) ?_
              show jEv _ _ _ _ _ _ _ (_, [(2, (f76084 : Int)), (0, a3)], [(0, v76144)], _, _, _)
              refine ev_iconst ?_
              refine g_isubG (fun v76145 ev76145 lv76145 uv76145 => ?_)
              refine ev_ret rfl (by decide) (by decide) ?_
              show jEv _ _ _ _ _ _ _ (_, [(2, 0), (0, a1), (0, a2), (0, a3), (2, (f76084 : Int))], [(0, v76145)], _, _, _)
              exact ev_ret rfl (by decide) (by decide) ⟨_, rfl, g76142, k76142, Or.inr ⟨(by unfold AV0; rw [ev76082]; omega), f76084, ef76084, by rw [tyf76084, show kdT 1 = 1 from rfl, show a2 = 1 by omega, ev76085, ev76086, ac_1_1]; (try rw [ev76143]); (try rw [ev76144]); (try rw [ev76145]); all_goals (first | rfl | omega | (unfold w32 at *; omega)), by rw [tyf76084, show kdT 1 = 1 from rfl, show a2 = 1 by omega, tr_1_1]; exact ⟨(((jw_eq e76142))), (((jw_ne e76142 (Or.inl (by decide))).trans ((jw_ne e76141 (Or.inr (by decide))).trans ((jw_ne e76139 (Or.inl (by decide))).trans ((jw_ne e76138 (Or.inr (by decide))).trans ((jw_ne e76136 (Or.inl (by decide))).trans (jw_eq e76135))))))), (((jw_ne e76142 (Or.inl (by decide))).trans ((jw_ne e76141 (Or.inr (by decide))).trans ((jw_ne e76139 (Or.inl (by decide))).trans (jw_eq e76138))))), (((jw_ne e76142 (Or.inl (by decide))).trans (jw_eq e76141))), trivial⟩⟩⟩
            · refine ev_sw (t := 70) (by rw [c76129]; decide) f210_70 ?_
              refine ev_aload rfl ?_
              refine ev_iload_n rfl ?_
              refine ev_in (d := 6) (a := 0) (b := 0) (cd' := c7_0) (m := 2) (L0 := [(2, (f76084 : Int)), (0, a3)]) (jcall_F (A := [(0, a3)]) (S' := []) (r := f76084) (k := 7) rfl (g76125.flt qf76084) (g76125.ffam qf76084) (by rw [k76125.2.1, tyf76084]; rfl) (by decide) (Nat.le_of_ble_eq_true rfl)) (by decide) ml7 pp7 (Nat.le_of_ble_eq_true rfl) rfl (by decide) (by decide) ?_
              refine ev_aload_n rfl ?_
              refine g_fget0 g76125 qf76084 ft0_0 ?_
              refine ev_bipush ?_
              refine ev_in (d := 5) (a := 0) (b := 0) (cd' := c94_0) (m := 2) (L0 := [(2, 19), (0, 11)]) (jcall_v (A := [(0, 11)]) (S' := []) (r := 19) rfl (g76125.lt ad19) (g76125.tg ad19) (Nat.le_of_ble_eq_true rfl)) (by decide) ml94 pp94 (Nat.le_of_ble_eq_true rfl) rfl (by decide) (by decide) ?_
              refine ev_aload_n rfl ?_
              refine g_getv (r := 19) (v := 0) g76125 ad19 (by decide) ft7_5 ((jw_eq e76125)) ?_
              refine ev_bipush ?_
              refine ev_icmpge f94_19 (fun c76146 => absurd c76146 (by omega)) (fun c76146 => ?_)
              refine ev_aload_n rfl ?_
              refine g_getp (r := 19) (c := 22) g76125 ad19 (by decide) (by decide) rf19_2 ft7_2 ?_
              refine ev_aload_n rfl ?_
              refine g_getv (r := 19) (v := 0) g76125 ad19 (by decide) ft7_5 ((jw_eq e76125)) ?_
              refine ev_iload_n rfl ?_
              refine g_iast g76125 ad22 rt22 (fun _ => rfl) (by omega) (by omega) (by omega) (by omega) (fun h76147 e76147 g76147 => ?_)
              have k76147 := k76125.wr e76147 rfl
              refine ev_aload_n rfl ?_
              refine ev_dup (by decide) ?_
              refine g_getv (r := 19) (v := 0) g76147 ad19 (by decide) ft7_5 (((jw_ne e76147 (Or.inl (by decide))).trans (jw_eq e76125))) ?_
              refine ev_iconst ?_
              refine ev_iadd (r := 1) (by decide) ?_
              refine g_putf (r := 19) g76147 ad19 (by decide) ft7_5 (by decide) (fun e => absurd e nz7_5) rf19_5 (by decide) (by omega) (by omega) (fun h76148 e76148 g76148 => ?_)
              have k76148 := k76147.wr e76148 rfl
              refine ev_ret rfl (by decide) (by decide) ?_
              show jEv _ _ _ _ _ _ _ (_, [(2, (f76084 : Int)), (0, a3)], [], _, _, _)
              refine ev_iload_n rfl ?_
              refine ev_aload_n rfl ?_
              refine ev_getf (g76148.flt qf76084) (g76148.ffam qf76084) ft0_1 (((jw_ne e76148 (Or.inl (ne83 bf76084 (by decide)))).trans ((jw_ne e76147 (Or.inl (ne83 bf76084 (by decide)))).trans ((jw_ne e76125 (Or.inl (ne83 bf76084 (by decide)))).trans ev76085)))) ?_
              refine g_ixorG (fun v76149 ev76149 lv76149 uv76149 => ?_)
              refine ev_ret rfl (by decide) (by decide) ?_
              show jEv _ _ _ _ _ _ _ (_, [(2, 0), (0, a1), (0, a2), (0, a3), (2, (f76084 : Int))], [(0, v76149)], _, _, _)
              exact ev_ret rfl (by decide) (by decide) ⟨_, rfl, g76148, k76148, Or.inr ⟨(by unfold AV0; rw [ev76082]; omega), f76084, ef76084, by rw [tyf76084, show kdT 1 = 1 from rfl, show a2 = 2 by omega, ev76085, ev76086, ac_1_2]; (try rw [ev76149]); all_goals (first | rfl | omega | (unfold w32 at *; omega)), by rw [tyf76084, show kdT 1 = 1 from rfl, show a2 = 2 by omega, tr_1_2]; exact ⟨(((jw_eq e76148))), (((jw_ne e76148 (Or.inl (by decide))).trans (jw_eq e76147))), trivial⟩⟩⟩
            · refine ev_sw (t := 77) (by rw [if_pos (show _ ∨ _ by omega)]; rfl) f210_77 ?_
              refine ev_aload rfl ?_
              refine ev_iload_n rfl ?_
              refine ev_in (d := 6) (a := 0) (b := 0) (cd' := c8_0) (m := 2) (L0 := [(2, (f76084 : Int)), (0, a3)]) (jcall_F (A := [(0, a3)]) (S' := []) (r := f76084) (k := 8) rfl (g76125.flt qf76084) (g76125.ffam qf76084) (by rw [k76125.2.1, tyf76084]; rfl) (by decide) (Nat.le_of_ble_eq_true rfl)) (by decide) ml8 pp8 (Nat.le_of_ble_eq_true rfl) rfl (by decide) (by decide) ?_
              refine ev_aload_n rfl ?_
              refine g_fget0 g76125 qf76084 ft0_0 ?_
              refine ev_iconst ?_
              refine ev_in (d := 5) (a := 0) (b := 0) (cd' := c94_0) (m := 2) (L0 := [(2, 19), (0, 2)]) (jcall_v (A := [(0, 2)]) (S' := []) (r := 19) rfl (g76125.lt ad19) (g76125.tg ad19) (Nat.le_of_ble_eq_true rfl)) (by decide) ml94 pp94 (Nat.le_of_ble_eq_true rfl) rfl (by decide) (by decide) ?_
              refine ev_aload_n rfl ?_
              refine g_getv (r := 19) (v := 0) g76125 ad19 (by decide) ft7_5 ((jw_eq e76125)) ?_
              refine ev_bipush ?_
              refine ev_icmpge f94_19 (fun c76150 => absurd c76150 (by omega)) (fun c76150 => ?_)
              refine ev_aload_n rfl ?_
              refine g_getp (r := 19) (c := 22) g76125 ad19 (by decide) (by decide) rf19_2 ft7_2 ?_
              refine ev_aload_n rfl ?_
              refine g_getv (r := 19) (v := 0) g76125 ad19 (by decide) ft7_5 ((jw_eq e76125)) ?_
              refine ev_iload_n rfl ?_
              refine g_iast g76125 ad22 rt22 (fun _ => rfl) (by omega) (by omega) (by omega) (by omega) (fun h76151 e76151 g76151 => ?_)
              have k76151 := k76125.wr e76151 rfl
              refine ev_aload_n rfl ?_
              refine ev_dup (by decide) ?_
              refine g_getv (r := 19) (v := 0) g76151 ad19 (by decide) ft7_5 (((jw_ne e76151 (Or.inl (by decide))).trans (jw_eq e76125))) ?_
              refine ev_iconst ?_
              refine ev_iadd (r := 1) (by decide) ?_
              refine g_putf (r := 19) g76151 ad19 (by decide) ft7_5 (by decide) (fun e => absurd e nz7_5) rf19_5 (by decide) (by omega) (by omega) (fun h76152 e76152 g76152 => ?_)
              have k76152 := k76151.wr e76152 rfl
              refine ev_ret rfl (by decide) (by decide) ?_
              show jEv _ _ _ _ _ _ _ (_, [(2, (f76084 : Int)), (0, a3)], [], _, _, _)
              refine ev_aload_n rfl ?_
              refine ev_iload_n rfl ?_
              refine ev_in (d := 5) (a := 0) (b := 0) (cd' := c12_0) (m := 2) (L0 := [(2, (f76084 : Int)), (0, a3)]) (jcall_F (A := [(0, a3)]) (S' := []) (r := f76084) (k := 12) rfl (g76152.flt qf76084) (g76152.ffam qf76084) (by rw [k76152.2.1, tyf76084]; rfl) (by decide) (Nat.le_of_ble_eq_true rfl)) (by decide) ml12 pp12 (Nat.le_of_ble_eq_true rfl) rfl (by decide) (by decide) ?_
              refine ev_aload_n rfl ?_
              refine g_fget0 g76152 qf76084 ft0_0 ?_
              refine ev_bipush ?_
              refine ev_in (d := 4) (a := 0) (b := 0) (cd' := c94_0) (m := 2) (L0 := [(2, 19), (0, 20)]) (jcall_v (A := [(0, 20)]) (S' := []) (r := 19) rfl (g76152.lt ad19) (g76152.tg ad19) (Nat.le_of_ble_eq_true rfl)) (by decide) ml94 pp94 (Nat.le_of_ble_eq_true rfl) rfl (by decide) (by decide) ?_
              refine ev_aload_n rfl ?_
              refine g_getv (r := 19) (v := 1) g76152 ad19 (by decide) ft7_5 ((jw_eq e76152)) ?_
              refine ev_bipush ?_
              refine ev_icmpge f94_19 (fun c76153 => absurd c76153 (by omega)) (fun c76153 => ?_)
              refine ev_aload_n rfl ?_
              refine g_getp (r := 19) (c := 22) g76152 ad19 (by decide) (by decide) rf19_2 ft7_2 ?_
              refine ev_aload_n rfl ?_
              refine g_getv (r := 19) (v := 1) g76152 ad19 (by decide) ft7_5 ((jw_eq e76152)) ?_
              refine ev_iload_n rfl ?_
              refine g_iast g76152 ad22 rt22 (fun _ => rfl) (by omega) (by omega) (by omega) (by omega) (fun h76154 e76154 g76154 => ?_)
              have k76154 := k76152.wr e76154 rfl
              refine ev_aload_n rfl ?_
              refine ev_dup (by decide) ?_
              refine g_getv (r := 19) (v := 1) g76154 ad19 (by decide) ft7_5 (((jw_ne e76154 (Or.inl (by decide))).trans (jw_eq e76152))) ?_
              refine ev_iconst ?_
              refine ev_iadd (r := 2) (by decide) ?_
              refine g_putf (r := 19) g76154 ad19 (by decide) ft7_5 (by decide) (fun e => absurd e nz7_5) rf19_5 (by decide) (by omega) (by omega) (fun h76155 e76155 g76155 => ?_)
              have k76155 := k76154.wr e76155 rfl
              refine ev_ret rfl (by decide) (by decide) ?_
              show jEv _ _ _ _ _ _ _ (_, [(2, (f76084 : Int)), (0, a3)], [], _, _, _)
              refine ev_aload_n rfl ?_
              refine ev_iload_n rfl ?_
              refine ev_in (d := 4) (a := 0) (b := 0) (cd' := c6_0) (m := 2) (L0 := [(2, (f76084 : Int)), (0, a3)]) (jcall_u (A := [(0, a3)]) (S' := []) (r := f76084) rfl (g76155.flt qf76084) (g76155.ffam qf76084) (Nat.le_of_ble_eq_true rfl)) (by decide) ml6 pp6 (Nat.le_of_ble_eq_true rfl) rfl (by decide) (by decide) ?_
              refine ev_aload_n rfl ?_
              refine g_fget0 g76155 qf76084 ft0_0 ?_
              refine ev_bipush ?_
              refine ev_in (d := 3) (a := 0) (b := 0) (cd' := c94_0) (m := 2) (L0 := [(2, 19), (0, 10)]) (jcall_v (A := [(0, 10)]) (S' := []) (r := 19) rfl (g76155.lt ad19) (g76155.tg ad19) (Nat.le_of_ble_eq_true rfl)) (by decide) ml94 pp94 (Nat.le_of_ble_eq_true rfl) rfl (by decide) (by decide) ?_
              refine ev_aload_n rfl ?_
              refine g_getv (r := 19) (v := 2) g76155 ad19 (by decide) ft7_5 ((jw_eq e76155)) ?_
              refine ev_bipush ?_
              refine ev_icmpge f94_19 (fun c76156 => absurd c76156 (by omega)) (fun c76156 => ?_)
              refine ev_aload_n rfl ?_
              refine g_getp (r := 19) (c := 22) g76155 ad19 (by decide) (by decide) rf19_2 ft7_2 ?_
              refine ev_aload_n rfl ?_
              refine g_getv (r := 19) (v := 2) g76155 ad19 (by decide) ft7_5 ((jw_eq e76155)) ?_
              refine ev_iload_n rfl ?_
              refine g_iast g76155 ad22 rt22 (fun _ => rfl) (by omega) (by omega) (by omega) (by omega) (fun h76157 e76157 g76157 => ?_)
              have k76157 := k76155.wr e76157 rfl
              refine ev_aload_n rfl ?_
              refine ev_dup (by decide) ?_
              refine g_getv (r := 19) (v := 2) g76157 ad19 (by decide) ft7_5 (((jw_ne e76157 (Or.inl (by decide))).trans (jw_eq e76155))) ?_
              refine ev_iconst ?_
              refine ev_iadd (r := 3) (by decide) ?_
              refine g_putf (r := 19) g76157 ad19 (by decide) ft7_5 (by decide) (fun e => absurd e nz7_5) rf19_5 (by decide) (by omega) (by omega) (fun h76158 e76158 g76158 => ?_)
              have k76158 := k76157.wr e76158 rfl
              refine ev_ret rfl (by decide) (by decide) ?_
              show jEv _ _ _ _ _ _ _ (_, [(2, (f76084 : Int)), (0, a3)], [], _, _, _)
              refine ev_aload_n rfl ?_
              refine ev_iload_n rfl ?_
              refine ev_in (d := 3) (a := 0) (b := 0) (cd' := c5_0) (m := 2) (L0 := [(2, (f76084 : Int)), (0, a3)]) (jcall_F (A := [(0, a3)]) (S' := []) (r := f76084) (k := 5) rfl (g76158.flt qf76084) (g76158.ffam qf76084) (by rw [k76158.2.1, tyf76084]; rfl) (by decide) (Nat.le_of_ble_eq_true rfl)) (by decide) ml5 pp5 (Nat.le_of_ble_eq_true rfl) rfl (by decide) (by decide) ?_
              refine ev_aload_n rfl ?_
              refine g_fget0 g76158 qf76084 ft0_0 ?_
              refine ev_iconst ?_
              refine ev_in (d := 2) (a := 0) (b := 0) (cd' := c94_0) (m := 2) (L0 := [(2, 19), (0, 1)]) (jcall_v (A := [(0, 1)]) (S' := []) (r := 19) rfl (g76158.lt ad19) (g76158.tg ad19) (Nat.le_of_ble_eq_true rfl)) (by decide) ml94 pp94 (Nat.le_of_ble_eq_true rfl) rfl (by decide) (by decide) ?_
              refine ev_aload_n rfl ?_
              refine g_getv (r := 19) (v := 3) g76158 ad19 (by decide) ft7_5 ((jw_eq e76158)) ?_
              refine ev_bipush ?_
              refine ev_icmpge f94_19 (fun c76159 => absurd c76159 (by omega)) (fun c76159 => ?_)
              refine ev_aload_n rfl ?_
              refine g_getp (r := 19) (c := 22) g76158 ad19 (by decide) (by decide) rf19_2 ft7_2 ?_
              refine ev_aload_n rfl ?_
              refine g_getv (r := 19) (v := 3) g76158 ad19 (by decide) ft7_5 ((jw_eq e76158)) ?_
              refine ev_iload_n rfl ?_
              refine g_iast g76158 ad22 rt22 (fun _ => rfl) (by omega) (by omega) (by omega) (by omega) (fun h76160 e76160 g76160 => ?_)
              have k76160 := k76158.wr e76160 rfl
              refine ev_aload_n rfl ?_
              refine ev_dup (by decide) ?_
              refine g_getv (r := 19) (v := 3) g76160 ad19 (by decide) ft7_5 (((jw_ne e76160 (Or.inl (by decide))).trans (jw_eq e76158))) ?_
              refine ev_iconst ?_
              refine ev_iadd (r := 4) (by decide) ?_
              refine g_putf (r := 19) g76160 ad19 (by decide) ft7_5 (by decide) (fun e => absurd e nz7_5) rf19_5 (by decide) (by omega) (by omega) (fun h76161 e76161 g76161 => ?_)
              have k76161 := k76160.wr e76161 rfl
              refine ev_ret rfl (by decide) (by decide) ?_
              show jEv _ _ _ _ _ _ _ (_, [(2, (f76084 : Int)), (0, a3)], [], _, _, _)
              refine ev_iload_n rfl ?_
              refine ev_aload_n rfl ?_
              refine ev_getf (g76161.flt qf76084) (g76161.ffam qf76084) ft0_1 (((jw_ne e76161 (Or.inl (ne83 bf76084 (by decide)))).trans ((jw_ne e76160 (Or.inl (ne83 bf76084 (by decide)))).trans ((jw_ne e76158 (Or.inl (ne83 bf76084 (by decide)))).trans ((jw_ne e76157 (Or.inl (ne83 bf76084 (by decide)))).trans ((jw_ne e76155 (Or.inl (ne83 bf76084 (by decide)))).trans ((jw_ne e76154 (Or.inl (ne83 bf76084 (by decide)))).trans ((jw_ne e76152 (Or.inl (ne83 bf76084 (by decide)))).trans ((jw_ne e76151 (Or.inl (ne83 bf76084 (by decide)))).trans ((jw_ne e76125 (Or.inl (ne83 bf76084 (by decide)))).trans ev76085)))))))))) ?_
              refine g_iaddG (fun v76162 ev76162 lv76162 uv76162 => ?_)
              refine ev_ret rfl (by decide) (by decide) ?_
              show jEv _ _ _ _ _ _ _ (_, [(2, (f76084 : Int)), (0, a3)], [(0, v76162)], _, _, _)
              refine ev_iconst ?_
              refine g_imulG (fun v76163 ev76163 lv76163 uv76163 => ?_)
              refine ev_ret rfl (by decide) (by decide) ?_
              show jEv _ _ _ _ _ _ _ (_, [(2, (f76084 : Int)), (0, a3)], [(0, v76163)], _, _, _)
              refine ev_iconst ?_
              refine g_isubG (fun v76164 ev76164 lv76164 uv76164 => ?_)
              refine ev_ret rfl (by decide) (by decide) ?_
              show jEv _ _ _ _ _ _ _ (_, [(2, (f76084 : Int)), (0, a3)], [(0, v76164)], _, _, _)
              refine ev_aload_n rfl ?_
              refine ev_iconst ?_
              refine ev_in (d := 5) (a := 0) (b := 0) (cd' := c7_0) (m := 2) (L0 := [(2, (f76084 : Int)), (0, 1)]) (jcall_F (A := [(0, 1)]) (S' := [(0, v76164)]) (r := f76084) (k := 7) rfl (g76161.flt qf76084) (g76161.ffam qf76084) (by rw [k76161.2.1, tyf76084]; rfl) (by decide) (Nat.le_of_ble_eq_true rfl)) (by decide) ml7 pp7 (Nat.le_of_ble_eq_true rfl) rfl (by decide) (by decide) ?_
              refine ev_aload_n rfl ?_
              refine g_fget0 g76161 qf76084 ft0_0 ?_
              refine ev_bipush ?_
              refine ev_in (d := 4) (a := 0) (b := 0) (cd' := c94_0) (m := 2) (L0 := [(2, 19), (0, 11)]) (jcall_v (A := [(0, 11)]) (S' := []) (r := 19) rfl (g76161.lt ad19) (g76161.tg ad19) (Nat.le_of_ble_eq_true rfl)) (by decide) ml94 pp94 (Nat.le_of_ble_eq_true rfl) rfl (by decide) (by decide) ?_
              refine ev_aload_n rfl ?_
              refine g_getv (r := 19) (v := 4) g76161 ad19 (by decide) ft7_5 ((jw_eq e76161)) ?_
              refine ev_bipush ?_
              refine ev_icmpge f94_19 (fun c76165 => absurd c76165 (by omega)) (fun c76165 => ?_)
              refine ev_aload_n rfl ?_
              refine g_getp (r := 19) (c := 22) g76161 ad19 (by decide) (by decide) rf19_2 ft7_2 ?_
              refine ev_aload_n rfl ?_
              refine g_getv (r := 19) (v := 4) g76161 ad19 (by decide) ft7_5 ((jw_eq e76161)) ?_
              refine ev_iload_n rfl ?_
              refine g_iast g76161 ad22 rt22 (fun _ => rfl) (by omega) (by omega) (by omega) (by omega) (fun h76166 e76166 g76166 => ?_)
              have k76166 := k76161.wr e76166 rfl
              refine ev_aload_n rfl ?_
              refine ev_dup (by decide) ?_
              refine g_getv (r := 19) (v := 4) g76166 ad19 (by decide) ft7_5 (((jw_ne e76166 (Or.inl (by decide))).trans (jw_eq e76161))) ?_
              refine ev_iconst ?_
              refine ev_iadd (r := 5) (by decide) ?_
              refine g_putf (r := 19) g76166 ad19 (by decide) ft7_5 (by decide) (fun e => absurd e nz7_5) rf19_5 (by decide) (by omega) (by omega) (fun h76167 e76167 g76167 => ?_)
              have k76167 := k76166.wr e76167 rfl
              refine ev_ret rfl (by decide) (by decide) ?_
              show jEv _ _ _ _ _ _ _ (_, [(2, (f76084 : Int)), (0, 1)], [], _, _, _)
              refine ev_iload_n rfl ?_
              refine ev_aload_n rfl ?_
              refine ev_getf (g76167.flt qf76084) (g76167.ffam qf76084) ft0_1 (((jw_ne e76167 (Or.inl (ne83 bf76084 (by decide)))).trans ((jw_ne e76166 (Or.inl (ne83 bf76084 (by decide)))).trans ((jw_ne e76161 (Or.inl (ne83 bf76084 (by decide)))).trans ((jw_ne e76160 (Or.inl (ne83 bf76084 (by decide)))).trans ((jw_ne e76158 (Or.inl (ne83 bf76084 (by decide)))).trans ((jw_ne e76157 (Or.inl (ne83 bf76084 (by decide)))).trans ((jw_ne e76155 (Or.inl (ne83 bf76084 (by decide)))).trans ((jw_ne e76154 (Or.inl (ne83 bf76084 (by decide)))).trans ((jw_ne e76152 (Or.inl (ne83 bf76084 (by decide)))).trans ((jw_ne e76151 (Or.inl (ne83 bf76084 (by decide)))).trans ((jw_ne e76125 (Or.inl (ne83 bf76084 (by decide)))).trans ev76085)))))))))))) ?_
              refine g_ixorB (k := 5) (hi := 31) (by decide) (by decide) (by omega) (by omega) (by omega) (by omega) (fun v76168 ev76168 lv76168 uv76168 => ?_)
              refine ev_ret rfl (by decide) (by decide) ?_
              show jEv _ _ _ _ _ _ _ (_, [(2, (f76084 : Int)), (0, a3)], [(0, v76168), (0, v76164)], _, _, _)
              refine g_isubG (fun v76169 ev76169 lv76169 uv76169 => ?_)
              refine ev_ret rfl (by decide) (by decide) ?_
              show jEv _ _ _ _ _ _ _ (_, [(2, 0), (0, a1), (0, a2), (0, a3), (2, (f76084 : Int))], [(0, v76169)], _, _, _)
              exact ev_ret rfl (by decide) (by decide) ⟨_, rfl, g76167, k76167, Or.inr ⟨(by unfold AV0; rw [ev76082]; omega), f76084, ef76084, by rw [tyf76084, show kdT 1 = 1 from rfl, show a2 = 3 by omega, ev76085, ev76086, ac_1_3]; (try rw [ev76162]); (try rw [ev76163]); (try rw [ev76164]); (try rw [ev76168]); (try rw [ev76169]); all_goals (first | rfl | omega | (unfold w32 at *; omega)), by rw [tyf76084, show kdT 1 = 1 from rfl, show a2 = 3 by omega, tr_1_3]; exact ⟨(((jw_eq e76167))), (((jw_ne e76167 (Or.inl (by decide))).trans ((jw_ne e76166 (Or.inr (by decide))).trans ((jw_ne e76161 (Or.inl (by decide))).trans ((jw_ne e76160 (Or.inr (by decide))).trans ((jw_ne e76158 (Or.inl (by decide))).trans ((jw_ne e76157 (Or.inr (by decide))).trans ((jw_ne e76155 (Or.inl (by decide))).trans ((jw_ne e76154 (Or.inr (by decide))).trans ((jw_ne e76152 (Or.inl (by decide))).trans (jw_eq e76151))))))))))), (((jw_ne e76167 (Or.inl (by decide))).trans ((jw_ne e76166 (Or.inr (by decide))).trans ((jw_ne e76161 (Or.inl (by decide))).trans ((jw_ne e76160 (Or.inr (by decide))).trans ((jw_ne e76158 (Or.inl (by decide))).trans ((jw_ne e76157 (Or.inr (by decide))).trans ((jw_ne e76155 (Or.inl (by decide))).trans (jw_eq e76154))))))))), (((jw_ne e76167 (Or.inl (by decide))).trans ((jw_ne e76166 (Or.inr (by decide))).trans ((jw_ne e76161 (Or.inl (by decide))).trans ((jw_ne e76160 (Or.inr (by decide))).trans ((jw_ne e76158 (Or.inl (by decide))).trans (jw_eq e76157))))))), (((jw_ne e76167 (Or.inl (by decide))).trans ((jw_ne e76166 (Or.inr (by decide))).trans ((jw_ne e76161 (Or.inl (by decide))).trans (jw_eq e76160))))), (((jw_ne e76167 (Or.inl (by decide))).trans (jw_eq e76166))), trivial⟩⟩⟩
          · refine ev_iconst ?_
            exact ev_ret rfl (by decide) (by decide) ⟨_, rfl, g76125, k76125, Or.inl ⟨(by unfold AV0; rw [ev76082]; omega), rfl, ((jw_eq e76125))⟩⟩
      · refine ev_ret rfl (by decide) (by decide) ?_
        show jEv _ _ _ _ _ _ _ (_, [(2, 0), (0, a1), (0, a2), (0, a3), (9, 0)], [(2, (f76084 : Int))], _, _, _)
        refine ev_astore (L' := [(2, 0), (0, a1), (0, a2), (0, a3), (2, (f76084 : Int))]) (Nat.le_of_ble_eq_true rfl) rfl ?_
        refine ev_aload_n rfl ?_
        refine g_getp (r := 0) (c := 19) g ad0 (by decide) (by decide) rf0_4 ft11_4 ?_
        refine ev_in (d := 6) (a := 0) (b := 0) (cd' := c93_0) (m := 1) (L0 := [(2, 19)]) (jcall_v (A := []) (S' := []) (r := 19) rfl (g.lt ad19) (g.tg ad19) (Nat.le_of_ble_eq_true rfl)) (by decide) ml93 pp93 (Nat.le_of_ble_eq_true rfl) rfl (by decide) (by decide) ?_
        refine ev_aload_n rfl ?_
        refine ev_iconst ?_
        refine g_putf (r := 19) g ad19 (by decide) ft7_5 (by decide) (fun e => absurd e nz7_5) rf19_5 (by decide) (by omega) (by omega) (fun h76170 e76170 g76170 => ?_)
        have k76170 := k0.wr e76170 rfl
        refine ev_ret rfl (by decide) (by decide) ?_
        show jEv _ _ _ _ _ _ _ (_, [(2, 0), (0, a1), (0, a2), (0, a3), (2, (f76084 : Int))], [], _, _, _)
        refine ev_aload rfl ?_
        refine ev_ifnull f210_28 (fun c76171 => absurd c76171 (by omega)) (fun c76171 => ?_)
        refine ev_iload_n rfl ?_
        refine ev_iflt f210_28 (fun c76172 => ?_) (fun c76172 => ?_)
        · refine ev_iconst ?_
          exact ev_ret rfl (by decide) (by decide) ⟨_, rfl, g76170, k76170, Or.inl ⟨(by unfold AV0; rw [ev76082]; omega), rfl, ((jw_eq e76170))⟩⟩
        · refine ev_iload_n rfl ?_
          refine ev_iconst ?_
          refine ev_icmple f210_30 (fun c76173 => ?_) (fun c76173 => ?_)
          · refine ev_iload_n rfl ?_
            rcases (show a2 = 0 ∨ a2 = 1 ∨ a2 = 2 ∨ 2 < a2 by omega) with c76174 | c76174 | c76174 | c76174
            · refine ev_sw (t := 56) (by rw [c76174]; decide) f210_56 ?_
              refine ev_aload rfl ?_
              refine ev_iload_n rfl ?_
              refine ev_in (d := 6) (a := 0) (b := 0) (cd' := c5_0) (m := 2) (L0 := [(2, (f76084 : Int)), (0, a3)]) (jcall_F (A := [(0, a3)]) (S' := []) (r := f76084) (k := 5) rfl (g76170.flt qf76084) (g76170.ffam qf76084) (by rw [k76170.2.1, tyf76084]; rfl) (by decide) (Nat.le_of_ble_eq_true rfl)) (by decide) ml5 pp5 (Nat.le_of_ble_eq_true rfl) rfl (by decide) (by decide) ?_
              refine ev_aload_n rfl ?_
              refine g_fget0 g76170 qf76084 ft0_0 ?_
              refine ev_iconst ?_
              refine ev_in (d := 5) (a := 0) (b := 0) (cd' := c94_0) (m := 2) (L0 := [(2, 19), (0, 1)]) (jcall_v (A := [(0, 1)]) (S' := []) (r := 19) rfl (g76170.lt ad19) (g76170.tg ad19) (Nat.le_of_ble_eq_true rfl)) (by decide) ml94 pp94 (Nat.le_of_ble_eq_true rfl) rfl (by decide) (by decide) ?_
              refine ev_aload_n rfl ?_
              refine g_getv (r := 19) (v := 0) g76170 ad19 (by decide) ft7_5 ((jw_eq e76170)) ?_
              refine ev_bipush ?_
              refine ev_icmpge f94_19 (fun c76175 => absurd c76175 (by omega)) (fun c76175 => ?_)
              refine ev_aload_n rfl ?_
              refine g_getp (r := 19) (c := 22) g76170 ad19 (by decide) (by decide) rf19_2 ft7_2 ?_
              refine ev_aload_n rfl ?_
              refine g_getv (r := 19) (v := 0) g76170 ad19 (by decide) ft7_5 ((jw_eq e76170)) ?_
              refine ev_iload_n rfl ?_
              refine g_iast g76170 ad22 rt22 (fun _ => rfl) (by omega) (by omega) (by omega) (by omega) (fun h76176 e76176 g76176 => ?_)
              have k76176 := k76170.wr e76176 rfl
              refine ev_aload_n rfl ?_
              refine ev_dup (by decide) ?_
              refine g_getv (r := 19) (v := 0) g76176 ad19 (by decide) ft7_5 (((jw_ne e76176 (Or.inl (by decide))).trans (jw_eq e76170))) ?_
              refine ev_iconst ?_
              refine ev_iadd (r := 1) (by decide) ?_
              refine g_putf (r := 19) g76176 ad19 (by decide) ft7_5 (by decide) (fun e => absurd e nz7_5) rf19_5 (by decide) (by omega) (by omega) (fun h76177 e76177 g76177 => ?_)
              have k76177 := k76176.wr e76177 rfl
              refine ev_ret rfl (by decide) (by decide) ?_
              show jEv _ _ _ _ _ _ _ (_, [(2, (f76084 : Int)), (0, a3)], [], _, _, _)
              refine ev_iload_n rfl ?_
              refine ev_aload_n rfl ?_
              refine ev_getf (g76177.flt qf76084) (g76177.ffam qf76084) ft0_1 (((jw_ne e76177 (Or.inl (ne83 bf76084 (by decide)))).trans ((jw_ne e76176 (Or.inl (ne83 bf76084 (by decide)))).trans ((jw_ne e76170 (Or.inl (ne83 bf76084 (by decide)))).trans ev76085)))) ?_
              refine g_iaddG (fun v76178 ev76178 lv76178 uv76178 => ?_)
              refine ev_ret rfl (by decide) (by decide) ?_
              show jEv _ _ _ _ _ _ _ (_, [(2, 0), (0, a1), (0, a2), (0, a3), (2, (f76084 : Int))], [(0, v76178)], _, _, _)
              exact ev_ret rfl (by decide) (by decide) ⟨_, rfl, g76177, k76177, Or.inr ⟨(by unfold AV0; rw [ev76082]; omega), f76084, ef76084, by rw [tyf76084, show kdT 2 = 2 from rfl, show a2 = 0 by omega, ev76085, ev76086, ac_2_0]; (try rw [ev76178]); all_goals (first | rfl | omega | (unfold w32 at *; omega)), by rw [tyf76084, show kdT 2 = 2 from rfl, show a2 = 0 by omega, tr_2_0]; exact ⟨(((jw_eq e76177))), (((jw_ne e76177 (Or.inl (by decide))).trans (jw_eq e76176))), trivial⟩⟩⟩
            · refine ev_sw (t := 63) (by rw [c76174]; decide) f210_63 ?_
              refine ev_aload rfl ?_
              refine ev_iload_n rfl ?_
              refine ev_in (d := 6) (a := 0) (b := 0) (cd' := c6_0) (m := 2) (L0 := [(2, (f76084 : Int)), (0, a3)]) (jcall_F (A := [(0, a3)]) (S' := []) (r := f76084) (k := 6) rfl (g76170.flt qf76084) (g76170.ffam qf76084) (by rw [k76170.2.1, tyf76084]; rfl) (by decide) (Nat.le_of_ble_eq_true rfl)) (by decide) ml6 pp6 (Nat.le_of_ble_eq_true rfl) rfl (by decide) (by decide) ?_
              refine ev_aload_n rfl ?_
              refine g_fget0 g76170 qf76084 ft0_0 ?_
              refine ev_bipush ?_
              refine ev_in (d := 5) (a := 0) (b := 0) (cd' := c94_0) (m := 2) (L0 := [(2, 19), (0, 10)]) (jcall_v (A := [(0, 10)]) (S' := []) (r := 19) rfl (g76170.lt ad19) (g76170.tg ad19) (Nat.le_of_ble_eq_true rfl)) (by decide) ml94 pp94 (Nat.le_of_ble_eq_true rfl) rfl (by decide) (by decide) ?_
              refine ev_aload_n rfl ?_
              refine g_getv (r := 19) (v := 0) g76170 ad19 (by decide) ft7_5 ((jw_eq e76170)) ?_
              refine ev_bipush ?_
              refine ev_icmpge f94_19 (fun c76179 => absurd c76179 (by omega)) (fun c76179 => ?_)
              refine ev_aload_n rfl ?_
              refine g_getp (r := 19) (c := 22) g76170 ad19 (by decide) (by decide) rf19_2 ft7_2 ?_
              refine ev_aload_n rfl ?_
              refine g_getv (r := 19) (v := 0) g76170 ad19 (by decide) ft7_5 ((jw_eq e76170)) ?_
              refine ev_iload_n rfl ?_
              refine g_iast g76170 ad22 rt22 (fun _ => rfl) (by omega) (by omega) (by omega) (by omega) (fun h76180 e76180 g76180 => ?_)
              have k76180 := k76170.wr e76180 rfl
              refine ev_aload_n rfl ?_
              refine ev_dup (by decide) ?_
              refine g_getv (r := 19) (v := 0) g76180 ad19 (by decide) ft7_5 (((jw_ne e76180 (Or.inl (by decide))).trans (jw_eq e76170))) ?_
              refine ev_iconst ?_
              refine ev_iadd (r := 1) (by decide) ?_
              refine g_putf (r := 19) g76180 ad19 (by decide) ft7_5 (by decide) (fun e => absurd e nz7_5) rf19_5 (by decide) (by omega) (by omega) (fun h76181 e76181 g76181 => ?_)
              have k76181 := k76180.wr e76181 rfl
              refine ev_ret rfl (by decide) (by decide) ?_
              show jEv _ _ _ _ _ _ _ (_, [(2, (f76084 : Int)), (0, a3)], [], _, _, _)
              refine ev_aload_n rfl ?_
              refine ev_iload_n rfl ?_
              refine ev_in (d := 5) (a := 0) (b := 0) (cd' := c5_0) (m := 2) (L0 := [(2, (f76084 : Int)), (0, a3)]) (jcall_F (A := [(0, a3)]) (S' := []) (r := f76084) (k := 5) rfl (g76181.flt qf76084) (g76181.ffam qf76084) (by rw [k76181.2.1, tyf76084]; rfl) (by decide) (Nat.le_of_ble_eq_true rfl)) (by decide) ml5 pp5 (Nat.le_of_ble_eq_true rfl) rfl (by decide) (by decide) ?_
              refine ev_aload_n rfl ?_
              refine g_fget0 g76181 qf76084 ft0_0 ?_
              refine ev_iconst ?_
              refine ev_in (d := 4) (a := 0) (b := 0) (cd' := c94_0) (m := 2) (L0 := [(2, 19), (0, 1)]) (jcall_v (A := [(0, 1)]) (S' := []) (r := 19) rfl (g76181.lt ad19) (g76181.tg ad19) (Nat.le_of_ble_eq_true rfl)) (by decide) ml94 pp94 (Nat.le_of_ble_eq_true rfl) rfl (by decide) (by decide) ?_
              refine ev_aload_n rfl ?_
              refine g_getv (r := 19) (v := 1) g76181 ad19 (by decide) ft7_5 ((jw_eq e76181)) ?_
              refine ev_bipush ?_
              refine ev_icmpge f94_19 (fun c76182 => absurd c76182 (by omega)) (fun c76182 => ?_)
              refine ev_aload_n rfl ?_
              refine g_getp (r := 19) (c := 22) g76181 ad19 (by decide) (by decide) rf19_2 ft7_2 ?_
              refine ev_aload_n rfl ?_
              refine g_getv (r := 19) (v := 1) g76181 ad19 (by decide) ft7_5 ((jw_eq e76181)) ?_
              refine ev_iload_n rfl ?_
              refine g_iast g76181 ad22 rt22 (fun _ => rfl) (by omega) (by omega) (by omega) (by omega) (fun h76183 e76183 g76183 => ?_)
              have k76183 := k76181.wr e76183 rfl
              refine ev_aload_n rfl ?_
              refine ev_dup (by decide) ?_
              refine g_getv (r := 19) (v := 1) g76183 ad19 (by decide) ft7_5 (((jw_ne e76183 (Or.inl (by decide))).trans (jw_eq e76181))) ?_
              refine ev_iconst ?_
              refine ev_iadd (r := 2) (by decide) ?_
              refine g_putf (r := 19) g76183 ad19 (by decide) ft7_5 (by decide) (fun e => absurd e nz7_5) rf19_5 (by decide) (by omega) (by omega) (fun h76184 e76184 g76184 => ?_)
              have k76184 := k76183.wr e76184 rfl
              refine ev_ret rfl (by decide) (by decide) ?_
              show jEv _ _ _ _ _ _ _ (_, [(2, (f76084 : Int)), (0, a3)], [], _, _, _)
              refine ev_iload_n rfl ?_
              refine ev_aload_n rfl ?_
              refine ev_getf (g76184.flt qf76084) (g76184.ffam qf76084) ft0_1 (((jw_ne e76184 (Or.inl (ne83 bf76084 (by decide)))).trans ((jw_ne e76183 (Or.inl (ne83 bf76084 (by decide)))).trans ((jw_ne e76181 (Or.inl (ne83 bf76084 (by decide)))).trans ((jw_ne e76180 (Or.inl (ne83 bf76084 (by decide)))).trans ((jw_ne e76170 (Or.inl (ne83 bf76084 (by decide)))).trans ev76085)))))) ?_
              refine g_iaddG (fun v76185 ev76185 lv76185 uv76185 => ?_)
              refine ev_ret rfl (by decide) (by decide) ?_
              show jEv _ _ _ _ _ _ _ (_, [(2, (f76084 : Int)), (0, a3)], [(0, v76185)], _, _, _)
              refine ev_iconst ?_
              refine g_imulG (fun v76186 ev76186 lv76186 uv76186 => ?_)
              refine ev_ret rfl (by decide) (by decide) ?_
              show jEv _ _ _ _ _ _ _ (_, [(2, 0), (0, a1), (0, a2), (0, a3), (2, (f76084 : Int))], [(0, v76186)], _, _, _)
              exact ev_ret rfl (by decide) (by decide) ⟨_, rfl, g76184, k76184, Or.inr ⟨(by unfold AV0; rw [ev76082]; omega), f76084, ef76084, by rw [tyf76084, show kdT 2 = 2 from rfl, show a2 = 1 by omega, ev76085, ev76086, ac_2_1]; (try rw [ev76185]); (try rw [ev76186]); all_goals (first | rfl | omega | (unfold w32 at *; omega)), by rw [tyf76084, show kdT 2 = 2 from rfl, show a2 = 1 by omega, tr_2_1]; exact ⟨(((jw_eq e76184))), (((jw_ne e76184 (Or.inl (by decide))).trans ((jw_ne e76183 (Or.inr (by decide))).trans ((jw_ne e76181 (Or.inl (by decide))).trans (jw_eq e76180))))), (((jw_ne e76184 (Or.inl (by decide))).trans (jw_eq e76183))), trivial⟩⟩⟩
            · refine ev_sw (t := 70) (by rw [c76174]; decide) f210_70 ?_
              refine ev_aload rfl ?_
              refine ev_iload_n rfl ?_
              refine ev_in (d := 6) (a := 0) (b := 0) (cd' := c16_0) (m := 2) (L0 := [(2, (f76084 : Int)), (0, a3)]) (jcall_F (A := [(0, a3)]) (S' := []) (r := f76084) (k := 16) rfl (g76170.flt qf76084) (g76170.ffam qf76084) (by rw [k76170.2.1, tyf76084]; rfl) (by decide) (Nat.le_of_ble_eq_true rfl)) (by decide) ml16 pp16 (Nat.le_of_ble_eq_true rfl) rfl (by decide) (by decide) ?_
              refine ev_aload_n rfl ?_
              refine g_fget0 g76170 qf76084 ft0_0 ?_
              refine ev_bipush ?_
              refine ev_in (d := 5) (a := 0) (b := 0) (cd' := c94_0) (m := 2) (L0 := [(2, 19), (0, 30)]) (jcall_v (A := [(0, 30)]) (S' := []) (r := 19) rfl (g76170.lt ad19) (g76170.tg ad19) (Nat.le_of_ble_eq_true rfl)) (by decide) ml94 pp94 (Nat.le_of_ble_eq_true rfl) rfl (by decide) (by decide) ?_
              refine ev_aload_n rfl ?_
              refine g_getv (r := 19) (v := 0) g76170 ad19 (by decide) ft7_5 ((jw_eq e76170)) ?_
              refine ev_bipush ?_
              refine ev_icmpge f94_19 (fun c76187 => absurd c76187 (by omega)) (fun c76187 => ?_)
              refine ev_aload_n rfl ?_
              refine g_getp (r := 19) (c := 22) g76170 ad19 (by decide) (by decide) rf19_2 ft7_2 ?_
              refine ev_aload_n rfl ?_
              refine g_getv (r := 19) (v := 0) g76170 ad19 (by decide) ft7_5 ((jw_eq e76170)) ?_
              refine ev_iload_n rfl ?_
              refine g_iast g76170 ad22 rt22 (fun _ => rfl) (by omega) (by omega) (by omega) (by omega) (fun h76188 e76188 g76188 => ?_)
              have k76188 := k76170.wr e76188 rfl
              refine ev_aload_n rfl ?_
              refine ev_dup (by decide) ?_
              refine g_getv (r := 19) (v := 0) g76188 ad19 (by decide) ft7_5 (((jw_ne e76188 (Or.inl (by decide))).trans (jw_eq e76170))) ?_
              refine ev_iconst ?_
              refine ev_iadd (r := 1) (by decide) ?_
              refine g_putf (r := 19) g76188 ad19 (by decide) ft7_5 (by decide) (fun e => absurd e nz7_5) rf19_5 (by decide) (by omega) (by omega) (fun h76189 e76189 g76189 => ?_)
              have k76189 := k76188.wr e76189 rfl
              refine ev_ret rfl (by decide) (by decide) ?_
              show jEv _ _ _ _ _ _ _ (_, [(2, (f76084 : Int)), (0, a3)], [], _, _, _)
              refine ev_aload_n rfl ?_
              refine ev_iload_n rfl ?_
              refine ev_in (d := 5) (a := 0) (b := 0) (cd' := c7_0) (m := 2) (L0 := [(2, (f76084 : Int)), (0, a3)]) (jcall_u (A := [(0, a3)]) (S' := []) (r := f76084) rfl (g76189.flt qf76084) (g76189.ffam qf76084) (Nat.le_of_ble_eq_true rfl)) (by decide) ml7 pp7 (Nat.le_of_ble_eq_true rfl) rfl (by decide) (by decide) ?_
              refine ev_aload_n rfl ?_
              refine g_fget0 g76189 qf76084 ft0_0 ?_
              refine ev_bipush ?_
              refine ev_in (d := 4) (a := 0) (b := 0) (cd' := c94_0) (m := 2) (L0 := [(2, 19), (0, 11)]) (jcall_v (A := [(0, 11)]) (S' := []) (r := 19) rfl (g76189.lt ad19) (g76189.tg ad19) (Nat.le_of_ble_eq_true rfl)) (by decide) ml94 pp94 (Nat.le_of_ble_eq_true rfl) rfl (by decide) (by decide) ?_
              refine ev_aload_n rfl ?_
              refine g_getv (r := 19) (v := 1) g76189 ad19 (by decide) ft7_5 ((jw_eq e76189)) ?_
              refine ev_bipush ?_
              refine ev_icmpge f94_19 (fun c76190 => absurd c76190 (by omega)) (fun c76190 => ?_)
              refine ev_aload_n rfl ?_
              refine g_getp (r := 19) (c := 22) g76189 ad19 (by decide) (by decide) rf19_2 ft7_2 ?_
              refine ev_aload_n rfl ?_
              refine g_getv (r := 19) (v := 1) g76189 ad19 (by decide) ft7_5 ((jw_eq e76189)) ?_
              refine ev_iload_n rfl ?_
              refine g_iast g76189 ad22 rt22 (fun _ => rfl) (by omega) (by omega) (by omega) (by omega) (fun h76191 e76191 g76191 => ?_)
              have k76191 := k76189.wr e76191 rfl
              refine ev_aload_n rfl ?_
              refine ev_dup (by decide) ?_
              refine g_getv (r := 19) (v := 1) g76191 ad19 (by decide) ft7_5 (((jw_ne e76191 (Or.inl (by decide))).trans (jw_eq e76189))) ?_
              refine ev_iconst ?_
              refine ev_iadd (r := 2) (by decide) ?_
              refine g_putf (r := 19) g76191 ad19 (by decide) ft7_5 (by decide) (fun e => absurd e nz7_5) rf19_5 (by decide) (by omega) (by omega) (fun h76192 e76192 g76192 => ?_)
              have k76192 := k76191.wr e76192 rfl
              refine ev_ret rfl (by decide) (by decide) ?_
              show jEv _ _ _ _ _ _ _ (_, [(2, (f76084 : Int)), (0, a3)], [], _, _, _)
              refine ev_iload_n rfl ?_
              refine ev_aload_n rfl ?_
              refine ev_getf (g76192.flt qf76084) (g76192.ffam qf76084) ft0_1 (((jw_ne e76192 (Or.inl (ne83 bf76084 (by decide)))).trans ((jw_ne e76191 (Or.inl (ne83 bf76084 (by decide)))).trans ((jw_ne e76189 (Or.inl (ne83 bf76084 (by decide)))).trans ((jw_ne e76188 (Or.inl (ne83 bf76084 (by decide)))).trans ((jw_ne e76170 (Or.inl (ne83 bf76084 (by decide)))).trans ev76085)))))) ?_
              refine g_ixorG (fun v76193 ev76193 lv76193 uv76193 => ?_)
              refine ev_ret rfl (by decide) (by decide) ?_
              show jEv _ _ _ _ _ _ _ (_, [(2, (f76084 : Int)), (0, a3)], [(0, v76193)], _, _, _)
              refine ev_iconst ?_
              refine g_imulG (fun v76194 ev76194 lv76194 uv76194 => ?_)
              refine ev_ret rfl (by decide) (by decide) ?_
              show jEv _ _ _ _ _ _ _ (_, [(2, 0), (0, a1), (0, a2), (0, a3), (2, (f76084 : Int))], [(0, v76194)], _, _, _)
              exact ev_ret rfl (by decide) (by decide) ⟨_, rfl, g76192, k76192, Or.inr ⟨(by unfold AV0; rw [ev76082]; omega), f76084, ef76084, by rw [tyf76084, show kdT 2 = 2 from rfl, show a2 = 2 by omega, ev76085, ev76086, ac_2_2]; (try rw [ev76193]); (try rw [ev76194]); all_goals (first | rfl | omega | (unfold w32 at *; omega)), by rw [tyf76084, show kdT 2 = 2 from rfl, show a2 = 2 by omega, tr_2_2]; exact ⟨(((jw_eq e76192))), (((jw_ne e76192 (Or.inl (by decide))).trans ((jw_ne e76191 (Or.inr (by decide))).trans ((jw_ne e76189 (Or.inl (by decide))).trans (jw_eq e76188))))), (((jw_ne e76192 (Or.inl (by decide))).trans (jw_eq e76191))), trivial⟩⟩⟩
            · refine ev_sw (t := 77) (by rw [if_pos (show _ ∨ _ by omega)]; rfl) f210_77 ?_
              refine ev_aload rfl ?_
              refine ev_iload_n rfl ?_
              refine ev_in (d := 6) (a := 0) (b := 0) (cd' := c8_0) (m := 2) (L0 := [(2, (f76084 : Int)), (0, a3)]) (jcall_F (A := [(0, a3)]) (S' := []) (r := f76084) (k := 8) rfl (g76170.flt qf76084) (g76170.ffam qf76084) (by rw [k76170.2.1, tyf76084]; rfl) (by decide) (Nat.le_of_ble_eq_true rfl)) (by decide) ml8 pp8 (Nat.le_of_ble_eq_true rfl) rfl (by decide) (by decide) ?_
              refine ev_aload_n rfl ?_
              refine g_fget0 g76170 qf76084 ft0_0 ?_
              refine ev_iconst ?_
              refine ev_in (d := 5) (a := 0) (b := 0) (cd' := c94_0) (m := 2) (L0 := [(2, 19), (0, 2)]) (jcall_v (A := [(0, 2)]) (S' := []) (r := 19) rfl (g76170.lt ad19) (g76170.tg ad19) (Nat.le_of_ble_eq_true rfl)) (by decide) ml94 pp94 (Nat.le_of_ble_eq_true rfl) rfl (by decide) (by decide) ?_
              refine ev_aload_n rfl ?_
              refine g_getv (r := 19) (v := 0) g76170 ad19 (by decide) ft7_5 ((jw_eq e76170)) ?_
              refine ev_bipush ?_
              refine ev_icmpge f94_19 (fun c76195 => absurd c76195 (by omega)) (fun c76195 => ?_)
              refine ev_aload_n rfl ?_
              refine g_getp (r := 19) (c := 22) g76170 ad19 (by decide) (by decide) rf19_2 ft7_2 ?_
              refine ev_aload_n rfl ?_
              refine g_getv (r := 19) (v := 0) g76170 ad19 (by decide) ft7_5 ((jw_eq e76170)) ?_
              refine ev_iload_n rfl ?_
              refine g_iast g76170 ad22 rt22 (fun _ => rfl) (by omega) (by omega) (by omega) (by omega) (fun h76196 e76196 g76196 => ?_)
              have k76196 := k76170.wr e76196 rfl
              refine ev_aload_n rfl ?_
              refine ev_dup (by decide) ?_
              refine g_getv (r := 19) (v := 0) g76196 ad19 (by decide) ft7_5 (((jw_ne e76196 (Or.inl (by decide))).trans (jw_eq e76170))) ?_
              refine ev_iconst ?_
              refine ev_iadd (r := 1) (by decide) ?_
              refine g_putf (r := 19) g76196 ad19 (by decide) ft7_5 (by decide) (fun e => absurd e nz7_5) rf19_5 (by decide) (by omega) (by omega) (fun h76197 e76197 g76197 => ?_)
              have k76197 := k76196.wr e76197 rfl
              refine ev_ret rfl (by decide) (by decide) ?_
              show jEv _ _ _ _ _ _ _ (_, [(2, (f76084 : Int)), (0, a3)], [], _, _, _)
              refine ev_aload_n rfl ?_
              refine ev_iload_n rfl ?_
              refine ev_in (d := 5) (a := 0) (b := 0) (cd' := c6_0) (m := 2) (L0 := [(2, (f76084 : Int)), (0, a3)]) (jcall_F (A := [(0, a3)]) (S' := []) (r := f76084) (k := 6) rfl (g76197.flt qf76084) (g76197.ffam qf76084) (by rw [k76197.2.1, tyf76084]; rfl) (by decide) (Nat.le_of_ble_eq_true rfl)) (by decide) ml6 pp6 (Nat.le_of_ble_eq_true rfl) rfl (by decide) (by decide) ?_
              refine ev_aload_n rfl ?_
              refine g_fget0 g76197 qf76084 ft0_0 ?_
              refine ev_bipush ?_
              refine ev_in (d := 4) (a := 0) (b := 0) (cd' := c94_0) (m := 2) (L0 := [(2, 19), (0, 10)]) (jcall_v (A := [(0, 10)]) (S' := []) (r := 19) rfl (g76197.lt ad19) (g76197.tg ad19) (Nat.le_of_ble_eq_true rfl)) (by decide) ml94 pp94 (Nat.le_of_ble_eq_true rfl) rfl (by decide) (by decide) ?_
              refine ev_aload_n rfl ?_
              refine g_getv (r := 19) (v := 1) g76197 ad19 (by decide) ft7_5 ((jw_eq e76197)) ?_
              refine ev_bipush ?_
              refine ev_icmpge f94_19 (fun c76198 => absurd c76198 (by omega)) (fun c76198 => ?_)
              refine ev_aload_n rfl ?_
              refine g_getp (r := 19) (c := 22) g76197 ad19 (by decide) (by decide) rf19_2 ft7_2 ?_
              refine ev_aload_n rfl ?_
              refine g_getv (r := 19) (v := 1) g76197 ad19 (by decide) ft7_5 ((jw_eq e76197)) ?_
              refine ev_iload_n rfl ?_
              refine g_iast g76197 ad22 rt22 (fun _ => rfl) (by omega) (by omega) (by omega) (by omega) (fun h76199 e76199 g76199 => ?_)
              have k76199 := k76197.wr e76199 rfl
              refine ev_aload_n rfl ?_
              refine ev_dup (by decide) ?_
              refine g_getv (r := 19) (v := 1) g76199 ad19 (by decide) ft7_5 (((jw_ne e76199 (Or.inl (by decide))).trans (jw_eq e76197))) ?_
              refine ev_iconst ?_
              refine ev_iadd (r := 2) (by decide) ?_
              refine g_putf (r := 19) g76199 ad19 (by decide) ft7_5 (by decide) (fun e => absurd e nz7_5) rf19_5 (by decide) (by omega) (by omega) (fun h76200 e76200 g76200 => ?_)
              have k76200 := k76199.wr e76200 rfl
              refine ev_ret rfl (by decide) (by decide) ?_
              show jEv _ _ _ _ _ _ _ (_, [(2, (f76084 : Int)), (0, a3)], [], _, _, _)
              refine ev_aload_n rfl ?_
              refine ev_iload_n rfl ?_
              refine ev_in (d := 4) (a := 0) (b := 0) (cd' := c5_0) (m := 2) (L0 := [(2, (f76084 : Int)), (0, a3)]) (jcall_F (A := [(0, a3)]) (S' := []) (r := f76084) (k := 5) rfl (g76200.flt qf76084) (g76200.ffam qf76084) (by rw [k76200.2.1, tyf76084]; rfl) (by decide) (Nat.le_of_ble_eq_true rfl)) (by decide) ml5 pp5 (Nat.le_of_ble_eq_true rfl) rfl (by decide) (by decide) ?_
              refine ev_aload_n rfl ?_
              refine g_fget0 g76200 qf76084 ft0_0 ?_
              refine ev_iconst ?_
              refine ev_in (d := 3) (a := 0) (b := 0) (cd' := c94_0) (m := 2) (L0 := [(2, 19), (0, 1)]) (jcall_v (A := [(0, 1)]) (S' := []) (r := 19) rfl (g76200.lt ad19) (g76200.tg ad19) (Nat.le_of_ble_eq_true rfl)) (by decide) ml94 pp94 (Nat.le_of_ble_eq_true rfl) rfl (by decide) (by decide) ?_
              refine ev_aload_n rfl ?_
              refine g_getv (r := 19) (v := 2) g76200 ad19 (by decide) ft7_5 ((jw_eq e76200)) ?_
              refine ev_bipush ?_
              refine ev_icmpge f94_19 (fun c76201 => absurd c76201 (by omega)) (fun c76201 => ?_)
              refine ev_aload_n rfl ?_
              refine g_getp (r := 19) (c := 22) g76200 ad19 (by decide) (by decide) rf19_2 ft7_2 ?_
              refine ev_aload_n rfl ?_
              refine g_getv (r := 19) (v := 2) g76200 ad19 (by decide) ft7_5 ((jw_eq e76200)) ?_
              refine ev_iload_n rfl ?_
              refine g_iast g76200 ad22 rt22 (fun _ => rfl) (by omega) (by omega) (by omega) (by omega) (fun h76202 e76202 g76202 => ?_)
              have k76202 := k76200.wr e76202 rfl
              refine ev_aload_n rfl ?_
              refine ev_dup (by decide) ?_
              refine g_getv (r := 19) (v := 2) g76202 ad19 (by decide) ft7_5 (((jw_ne e76202 (Or.inl (by decide))).trans (jw_eq e76200))) ?_
              refine ev_iconst ?_
              refine ev_iadd (r := 3) (by decide) ?_
              refine g_putf (r := 19) g76202 ad19 (by decide) ft7_5 (by decide) (fun e => absurd e nz7_5) rf19_5 (by decide) (by omega) (by omega) (fun h76203 e76203 g76203 => ?_)
              have k76203 := k76202.wr e76203 rfl
              refine ev_ret rfl (by decide) (by decide) ?_
              show jEv _ _ _ _ _ _ _ (_, [(2, (f76084 : Int)), (0, a3)], [], _, _, _)
              refine ev_iload_n rfl ?_
              refine ev_aload_n rfl ?_
              refine ev_getf (g76203.flt qf76084) (g76203.ffam qf76084) ft0_1 (((jw_ne e76203 (Or.inl (ne83 bf76084 (by decide)))).trans ((jw_ne e76202 (Or.inl (ne83 bf76084 (by decide)))).trans ((jw_ne e76200 (Or.inl (ne83 bf76084 (by decide)))).trans ((jw_ne e76199 (Or.inl (ne83 bf76084 (by decide)))).trans ((jw_ne e76197 (Or.inl (ne83 bf76084 (by decide)))).trans ((jw_ne e76196 (Or.inl (ne83 bf76084 (by decide)))).trans ((jw_ne e76170 (Or.inl (ne83 bf76084 (by decide)))).trans ev76085)))))))) ?_
              refine g_iaddG (fun v76204 ev76204 lv76204 uv76204 => ?_)
              refine ev_ret rfl (by decide) (by decide) ?_
              show jEv _ _ _ _ _ _ _ (_, [(2, (f76084 : Int)), (0, a3)], [(0, v76204)], _, _, _)
              refine ev_iconst ?_
              refine g_imulG (fun v76205 ev76205 lv76205 uv76205 => ?_)
              refine ev_ret rfl (by decide) (by decide) ?_
              show jEv _ _ _ _ _ _ _ (_, [(2, (f76084 : Int)), (0, a3)], [(0, v76205)], _, _, _)
              refine ev_aload_n rfl ?_
              refine ev_iconst ?_
              refine ev_in (d := 5) (a := 0) (b := 0) (cd' := c16_0) (m := 2) (L0 := [(2, (f76084 : Int)), (0, 1)]) (jcall_F (A := [(0, 1)]) (S' := [(0, v76205)]) (r := f76084) (k := 16) rfl (g76203.flt qf76084) (g76203.ffam qf76084) (by rw [k76203.2.1, tyf76084]; rfl) (by decide) (Nat.le_of_ble_eq_true rfl)) (by decide) ml16 pp16 (Nat.le_of_ble_eq_true rfl) rfl (by decide) (by decide) ?_
              refine ev_aload_n rfl ?_
              refine g_fget0 g76203 qf76084 ft0_0 ?_
              refine ev_bipush ?_
              refine ev_in (d := 4) (a := 0) (b := 0) (cd' := c94_0) (m := 2) (L0 := [(2, 19), (0, 30)]) (jcall_v (A := [(0, 30)]) (S' := []) (r := 19) rfl (g76203.lt ad19) (g76203.tg ad19) (Nat.le_of_ble_eq_true rfl)) (by decide) ml94 pp94 (Nat.le_of_ble_eq_true rfl) rfl (by decide) (by decide) ?_
              refine ev_aload_n rfl ?_
              refine g_getv (r := 19) (v := 3) g76203 ad19 (by decide) ft7_5 ((jw_eq e76203)) ?_
              refine ev_bipush ?_
              refine ev_icmpge f94_19 (fun c76206 => absurd c76206 (by omega)) (fun c76206 => ?_)
              refine ev_aload_n rfl ?_
              refine g_getp (r := 19) (c := 22) g76203 ad19 (by decide) (by decide) rf19_2 ft7_2 ?_
              refine ev_aload_n rfl ?_
              refine g_getv (r := 19) (v := 3) g76203 ad19 (by decide) ft7_5 ((jw_eq e76203)) ?_
              refine ev_iload_n rfl ?_
              refine g_iast g76203 ad22 rt22 (fun _ => rfl) (by omega) (by omega) (by omega) (by omega) (fun h76207 e76207 g76207 => ?_)
              have k76207 := k76203.wr e76207 rfl
              refine ev_aload_n rfl ?_
              refine ev_dup (by decide) ?_
              refine g_getv (r := 19) (v := 3) g76207 ad19 (by decide) ft7_5 (((jw_ne e76207 (Or.inl (by decide))).trans (jw_eq e76203))) ?_
              refine ev_iconst ?_
              refine ev_iadd (r := 4) (by decide) ?_
              refine g_putf (r := 19) g76207 ad19 (by decide) ft7_5 (by decide) (fun e => absurd e nz7_5) rf19_5 (by decide) (by omega) (by omega) (fun h76208 e76208 g76208 => ?_)
              have k76208 := k76207.wr e76208 rfl
              refine ev_ret rfl (by decide) (by decide) ?_
              show jEv _ _ _ _ _ _ _ (_, [(2, (f76084 : Int)), (0, 1)], [], _, _, _)
              refine ev_aload_n rfl ?_
              refine ev_iload_n rfl ?_
              refine ev_in (d := 4) (a := 0) (b := 0) (cd' := c7_0) (m := 2) (L0 := [(2, (f76084 : Int)), (0, 1)]) (jcall_u (A := [(0, 1)]) (S' := []) (r := f76084) rfl (g76208.flt qf76084) (g76208.ffam qf76084) (Nat.le_of_ble_eq_true rfl)) (by decide) ml7 pp7 (Nat.le_of_ble_eq_true rfl) rfl (by decide) (by decide) ?_
              refine ev_aload_n rfl ?_
              refine g_fget0 g76208 qf76084 ft0_0 ?_
              refine ev_bipush ?_
              refine ev_in (d := 3) (a := 0) (b := 0) (cd' := c94_0) (m := 2) (L0 := [(2, 19), (0, 11)]) (jcall_v (A := [(0, 11)]) (S' := []) (r := 19) rfl (g76208.lt ad19) (g76208.tg ad19) (Nat.le_of_ble_eq_true rfl)) (by decide) ml94 pp94 (Nat.le_of_ble_eq_true rfl) rfl (by decide) (by decide) ?_
              refine ev_aload_n rfl ?_
              refine g_getv (r := 19) (v := 4) g76208 ad19 (by decide) ft7_5 ((jw_eq e76208)) ?_
              refine ev_bipush ?_
              refine ev_icmpge f94_19 (fun c76209 => absurd c76209 (by omega)) (fun c76209 => ?_)
              refine ev_aload_n rfl ?_
              refine g_getp (r := 19) (c := 22) g76208 ad19 (by decide) (by decide) rf19_2 ft7_2 ?_
              refine ev_aload_n rfl ?_
              refine g_getv (r := 19) (v := 4) g76208 ad19 (by decide) ft7_5 ((jw_eq e76208)) ?_
              refine ev_iload_n rfl ?_
              refine g_iast g76208 ad22 rt22 (fun _ => rfl) (by omega) (by omega) (by omega) (by omega) (fun h76210 e76210 g76210 => ?_)
              have k76210 := k76208.wr e76210 rfl
              refine ev_aload_n rfl ?_
              refine ev_dup (by decide) ?_
              refine g_getv (r := 19) (v := 4) g76210 ad19 (by decide) ft7_5 (((jw_ne e76210 (Or.inl (by decide))).trans (jw_eq e76208))) ?_
              refine ev_iconst ?_
              refine ev_iadd (r := 5) (by decide) ?_
              refine g_putf (r := 19) g76210 ad19 (by decide) ft7_5 (by decide) (fun e => absurd e nz7_5) rf19_5 (by decide) (by omega) (by omega) (fun h76211 e76211 g76211 => ?_)
              have k76211 := k76210.wr e76211 rfl
              refine ev_ret rfl (by decide) (by decide) ?_
              show jEv _ _ _ _ _ _ _ (_, [(2, (f76084 : Int)), (0, 1)], [], _, _, _)
              refine ev_iload_n rfl ?_
              refine ev_aload_n rfl ?_
              refine ev_getf (g76211.flt qf76084) (g76211.ffam qf76084) ft0_1 (((jw_ne e76211 (Or.inl (ne83 bf76084 (by decide)))).trans ((jw_ne e76210 (Or.inl (ne83 bf76084 (by decide)))).trans ((jw_ne e76208 (Or.inl (ne83 bf76084 (by decide)))).trans ((jw_ne e76207 (Or.inl (ne83 bf76084 (by decide)))).trans ((jw_ne e76203 (Or.inl (ne83 bf76084 (by decide)))).trans ((jw_ne e76202 (Or.inl (ne83 bf76084 (by decide)))).trans ((jw_ne e76200 (Or.inl (ne83 bf76084 (by decide)))).trans ((jw_ne e76199 (Or.inl (ne83 bf76084 (by decide)))).trans ((jw_ne e76197 (Or.inl (ne83 bf76084 (by decide)))).trans ((jw_ne e76196 (Or.inl (ne83 bf76084 (by decide)))).trans ((jw_ne e76170 (Or.inl (ne83 bf76084 (by decide)))).trans ev76085)))))))))))) ?_
              refine g_ixorB (k := 5) (hi := 31) (by decide) (by decide) (by omega) (by omega) (by omega) (by omega) (fun v76212 ev76212 lv76212 uv76212 => ?_)
              refine ev_ret rfl (by decide) (by decide) ?_
              show jEv _ _ _ _ _ _ _ (_, [(2, (f76084 : Int)), (0, 1)], [(0, v76212)], _, _, _)
              refine ev_iconst ?_
              refine ev_imul (r := (3 * v76212)) (by unfold w32; omega) ?_
              refine ev_ret rfl (by decide) (by decide) ?_
              show jEv _ _ _ _ _ _ _ (_, [(2, (f76084 : Int)), (0, a3)], [(0, (3 * v76212)), (0, v76205)], _, _, _)
              refine g_isubG (fun v76213 ev76213 lv76213 uv76213 => ?_)
              refine ev_ret rfl (by decide) (by decide) ?_
              show jEv _ _ _ _ _ _ _ (_, [(2, 0), (0, a1), (0, a2), (0, a3), (2, (f76084 : Int))], [(0, v76213)], _, _, _)
              exact ev_ret rfl (by decide) (by decide) ⟨_, rfl, g76211, k76211, Or.inr ⟨(by unfold AV0; rw [ev76082]; omega), f76084, ef76084, by rw [tyf76084, show kdT 2 = 2 from rfl, show a2 = 3 by omega, ev76085, ev76086, ac_2_3]; (try rw [ev76204]); (try rw [ev76205]); (try rw [ev76212]); (try rw [ev76213]); all_goals (first | rfl | omega | (unfold w32 at *; omega)), by rw [tyf76084, show kdT 2 = 2 from rfl, show a2 = 3 by omega, tr_2_3]; exact ⟨(((jw_eq e76211))), (((jw_ne e76211 (Or.inl (by decide))).trans ((jw_ne e76210 (Or.inr (by decide))).trans ((jw_ne e76208 (Or.inl (by decide))).trans ((jw_ne e76207 (Or.inr (by decide))).trans ((jw_ne e76203 (Or.inl (by decide))).trans ((jw_ne e76202 (Or.inr (by decide))).trans ((jw_ne e76200 (Or.inl (by decide))).trans ((jw_ne e76199 (Or.inr (by decide))).trans ((jw_ne e76197 (Or.inl (by decide))).trans (jw_eq e76196))))))))))), (((jw_ne e76211 (Or.inl (by decide))).trans ((jw_ne e76210 (Or.inr (by decide))).trans ((jw_ne e76208 (Or.inl (by decide))).trans ((jw_ne e76207 (Or.inr (by decide))).trans ((jw_ne e76203 (Or.inl (by decide))).trans ((jw_ne e76202 (Or.inr (by decide))).trans ((jw_ne e76200 (Or.inl (by decide))).trans (jw_eq e76199))))))))), (((jw_ne e76211 (Or.inl (by decide))).trans ((jw_ne e76210 (Or.inr (by decide))).trans ((jw_ne e76208 (Or.inl (by decide))).trans ((jw_ne e76207 (Or.inr (by decide))).trans ((jw_ne e76203 (Or.inl (by decide))).trans (jw_eq e76202))))))), (((jw_ne e76211 (Or.inl (by decide))).trans ((jw_ne e76210 (Or.inr (by decide))).trans ((jw_ne e76208 (Or.inl (by decide))).trans (jw_eq e76207))))), (((jw_ne e76211 (Or.inl (by decide))).trans (jw_eq e76210))), trivial⟩⟩⟩
          · refine ev_iconst ?_
            exact ev_ret rfl (by decide) (by decide) ⟨_, rfl, g76170, k76170, Or.inl ⟨(by unfold AV0; rw [ev76082]; omega), rfl, ((jw_eq e76170))⟩⟩
      · refine ev_ret rfl (by decide) (by decide) ?_
        show jEv _ _ _ _ _ _ _ (_, [(2, 0), (0, a1), (0, a2), (0, a3), (9, 0)], [(2, (f76084 : Int))], _, _, _)
        refine ev_astore (L' := [(2, 0), (0, a1), (0, a2), (0, a3), (2, (f76084 : Int))]) (Nat.le_of_ble_eq_true rfl) rfl ?_
        refine ev_aload_n rfl ?_
        refine g_getp (r := 0) (c := 19) g ad0 (by decide) (by decide) rf0_4 ft11_4 ?_
        refine ev_in (d := 6) (a := 0) (b := 0) (cd' := c93_0) (m := 1) (L0 := [(2, 19)]) (jcall_v (A := []) (S' := []) (r := 19) rfl (g.lt ad19) (g.tg ad19) (Nat.le_of_ble_eq_true rfl)) (by decide) ml93 pp93 (Nat.le_of_ble_eq_true rfl) rfl (by decide) (by decide) ?_
        refine ev_aload_n rfl ?_
        refine ev_iconst ?_
        refine g_putf (r := 19) g ad19 (by decide) ft7_5 (by decide) (fun e => absurd e nz7_5) rf19_5 (by decide) (by omega) (by omega) (fun h76214 e76214 g76214 => ?_)
        have k76214 := k0.wr e76214 rfl
        refine ev_ret rfl (by decide) (by decide) ?_
        show jEv _ _ _ _ _ _ _ (_, [(2, 0), (0, a1), (0, a2), (0, a3), (2, (f76084 : Int))], [], _, _, _)
        refine ev_aload rfl ?_
        refine ev_ifnull f210_28 (fun c76215 => absurd c76215 (by omega)) (fun c76215 => ?_)
        refine ev_iload_n rfl ?_
        refine ev_iflt f210_28 (fun c76216 => ?_) (fun c76216 => ?_)
        · refine ev_iconst ?_
          exact ev_ret rfl (by decide) (by decide) ⟨_, rfl, g76214, k76214, Or.inl ⟨(by unfold AV0; rw [ev76082]; omega), rfl, ((jw_eq e76214))⟩⟩
        · refine ev_iload_n rfl ?_
          refine ev_iconst ?_
          refine ev_icmple f210_30 (fun c76217 => ?_) (fun c76217 => ?_)
          · refine ev_iload_n rfl ?_
            rcases (show a2 = 0 ∨ a2 = 1 ∨ a2 = 2 ∨ 2 < a2 by omega) with c76218 | c76218 | c76218 | c76218
            · refine ev_sw (t := 56) (by rw [c76218]; decide) f210_56 ?_
              refine ev_aload rfl ?_
              refine ev_iload_n rfl ?_
              refine ev_in (d := 6) (a := 0) (b := 0) (cd' := c20_0) (m := 2) (L0 := [(2, (f76084 : Int)), (0, a3)]) (jcall_F (A := [(0, a3)]) (S' := []) (r := f76084) (k := 20) rfl (g76214.flt qf76084) (g76214.ffam qf76084) (by rw [k76214.2.1, tyf76084]; rfl) (by decide) (Nat.le_of_ble_eq_true rfl)) (by decide) ml20 pp20 (Nat.le_of_ble_eq_true rfl) rfl (by decide) (by decide) ?_
              refine ev_aload_n rfl ?_
              refine g_fget0 g76214 qf76084 ft0_0 ?_
              refine ev_bipush ?_
              refine ev_in (d := 5) (a := 0) (b := 0) (cd' := c94_0) (m := 2) (L0 := [(2, 19), (0, 50)]) (jcall_v (A := [(0, 50)]) (S' := []) (r := 19) rfl (g76214.lt ad19) (g76214.tg ad19) (Nat.le_of_ble_eq_true rfl)) (by decide) ml94 pp94 (Nat.le_of_ble_eq_true rfl) rfl (by decide) (by decide) ?_
              refine ev_aload_n rfl ?_
              refine g_getv (r := 19) (v := 0) g76214 ad19 (by decide) ft7_5 ((jw_eq e76214)) ?_
              refine ev_bipush ?_
              refine ev_icmpge f94_19 (fun c76219 => absurd c76219 (by omega)) (fun c76219 => ?_)
              refine ev_aload_n rfl ?_
              refine g_getp (r := 19) (c := 22) g76214 ad19 (by decide) (by decide) rf19_2 ft7_2 ?_
              refine ev_aload_n rfl ?_
              refine g_getv (r := 19) (v := 0) g76214 ad19 (by decide) ft7_5 ((jw_eq e76214)) ?_
              refine ev_iload_n rfl ?_
              refine g_iast g76214 ad22 rt22 (fun _ => rfl) (by omega) (by omega) (by omega) (by omega) (fun h76220 e76220 g76220 => ?_)
              have k76220 := k76214.wr e76220 rfl
              refine ev_aload_n rfl ?_
              refine ev_dup (by decide) ?_
              refine g_getv (r := 19) (v := 0) g76220 ad19 (by decide) ft7_5 (((jw_ne e76220 (Or.inl (by decide))).trans (jw_eq e76214))) ?_
              refine ev_iconst ?_
              refine ev_iadd (r := 1) (by decide) ?_
              refine g_putf (r := 19) g76220 ad19 (by decide) ft7_5 (by decide) (fun e => absurd e nz7_5) rf19_5 (by decide) (by omega) (by omega) (fun h76221 e76221 g76221 => ?_)
              have k76221 := k76220.wr e76221 rfl
              refine ev_ret rfl (by decide) (by decide) ?_
              show jEv _ _ _ _ _ _ _ (_, [(2, (f76084 : Int)), (0, a3)], [], _, _, _)
              refine ev_aload_n rfl ?_
              refine ev_iload_n rfl ?_
              refine ev_in (d := 5) (a := 0) (b := 0) (cd' := c5_0) (m := 2) (L0 := [(2, (f76084 : Int)), (0, a3)]) (jcall_u (A := [(0, a3)]) (S' := []) (r := f76084) rfl (g76221.flt qf76084) (g76221.ffam qf76084) (Nat.le_of_ble_eq_true rfl)) (by decide) ml5 pp5 (Nat.le_of_ble_eq_true rfl) rfl (by decide) (by decide) ?_
              refine ev_aload_n rfl ?_
              refine g_fget0 g76221 qf76084 ft0_0 ?_
              refine ev_iconst ?_
              refine ev_in (d := 4) (a := 0) (b := 0) (cd' := c94_0) (m := 2) (L0 := [(2, 19), (0, 1)]) (jcall_v (A := [(0, 1)]) (S' := []) (r := 19) rfl (g76221.lt ad19) (g76221.tg ad19) (Nat.le_of_ble_eq_true rfl)) (by decide) ml94 pp94 (Nat.le_of_ble_eq_true rfl) rfl (by decide) (by decide) ?_
              refine ev_aload_n rfl ?_
              refine g_getv (r := 19) (v := 1) g76221 ad19 (by decide) ft7_5 ((jw_eq e76221)) ?_
              refine ev_bipush ?_
              refine ev_icmpge f94_19 (fun c76222 => absurd c76222 (by omega)) (fun c76222 => ?_)
              refine ev_aload_n rfl ?_
              refine g_getp (r := 19) (c := 22) g76221 ad19 (by decide) (by decide) rf19_2 ft7_2 ?_
              refine ev_aload_n rfl ?_
              refine g_getv (r := 19) (v := 1) g76221 ad19 (by decide) ft7_5 ((jw_eq e76221)) ?_
              refine ev_iload_n rfl ?_
              refine g_iast g76221 ad22 rt22 (fun _ => rfl) (by omega) (by omega) (by omega) (by omega) (fun h76223 e76223 g76223 => ?_)
              have k76223 := k76221.wr e76223 rfl
              refine ev_aload_n rfl ?_
              refine ev_dup (by decide) ?_
              refine g_getv (r := 19) (v := 1) g76223 ad19 (by decide) ft7_5 (((jw_ne e76223 (Or.inl (by decide))).trans (jw_eq e76221))) ?_
              refine ev_iconst ?_
              refine ev_iadd (r := 2) (by decide) ?_
              refine g_putf (r := 19) g76223 ad19 (by decide) ft7_5 (by decide) (fun e => absurd e nz7_5) rf19_5 (by decide) (by omega) (by omega) (fun h76224 e76224 g76224 => ?_)
              have k76224 := k76223.wr e76224 rfl
              refine ev_ret rfl (by decide) (by decide) ?_
              show jEv _ _ _ _ _ _ _ (_, [(2, (f76084 : Int)), (0, a3)], [], _, _, _)
              refine ev_iload_n rfl ?_
              refine ev_aload_n rfl ?_
              refine ev_getf (g76224.flt qf76084) (g76224.ffam qf76084) ft0_1 (((jw_ne e76224 (Or.inl (ne83 bf76084 (by decide)))).trans ((jw_ne e76223 (Or.inl (ne83 bf76084 (by decide)))).trans ((jw_ne e76221 (Or.inl (ne83 bf76084 (by decide)))).trans ((jw_ne e76220 (Or.inl (ne83 bf76084 (by decide)))).trans ((jw_ne e76214 (Or.inl (ne83 bf76084 (by decide)))).trans ev76085)))))) ?_
              refine g_iaddG (fun v76225 ev76225 lv76225 uv76225 => ?_)
              refine ev_ret rfl (by decide) (by decide) ?_
              show jEv _ _ _ _ _ _ _ (_, [(2, (f76084 : Int)), (0, a3)], [(0, v76225)], _, _, _)
              refine ev_aload_n rfl ?_
              refine ev_getf (g76224.flt qf76084) (g76224.ffam qf76084) ft0_2 (((jw_ne e76224 (Or.inl (ne83 bf76084 (by decide)))).trans ((jw_ne e76223 (Or.inl (ne83 bf76084 (by decide)))).trans ((jw_ne e76221 (Or.inl (ne83 bf76084 (by decide)))).trans ((jw_ne e76220 (Or.inl (ne83 bf76084 (by decide)))).trans ((jw_ne e76214 (Or.inl (ne83 bf76084 (by decide)))).trans ev76086)))))) ?_
              refine g_iaddG (fun v76226 ev76226 lv76226 uv76226 => ?_)
              refine ev_ret rfl (by decide) (by decide) ?_
              show jEv _ _ _ _ _ _ _ (_, [(2, 0), (0, a1), (0, a2), (0, a3), (2, (f76084 : Int))], [(0, v76226)], _, _, _)
              exact ev_ret rfl (by decide) (by decide) ⟨_, rfl, g76224, k76224, Or.inr ⟨(by unfold AV0; rw [ev76082]; omega), f76084, ef76084, by rw [tyf76084, show kdT 3 = 4 from rfl, show a2 = 0 by omega, ev76085, ev76086, ac_4_0]; (try rw [ev76225]); (try rw [ev76226]); all_goals (first | rfl | omega | (unfold w32 at *; omega)), by rw [tyf76084, show kdT 3 = 4 from rfl, show a2 = 0 by omega, tr_4_0]; exact ⟨(((jw_eq e76224))), (((jw_ne e76224 (Or.inl (by decide))).trans ((jw_ne e76223 (Or.inr (by decide))).trans ((jw_ne e76221 (Or.inl (by decide))).trans (jw_eq e76220))))), (((jw_ne e76224 (Or.inl (by decide))).trans (jw_eq e76223))), trivial⟩⟩⟩
            · refine ev_sw (t := 63) (by rw [c76218]; decide) f210_63 ?_
              refine ev_aload rfl ?_
              refine ev_iload_n rfl ?_
              refine ev_in (d := 6) (a := 0) (b := 0) (cd' := c6_0) (m := 2) (L0 := [(2, (f76084 : Int)), (0, a3)]) (jcall_F (A := [(0, a3)]) (S' := []) (r := f76084) (k := 6) rfl (g76214.flt qf76084) (g76214.ffam qf76084) (by rw [k76214.2.1, tyf76084]; rfl) (by decide) (Nat.le_of_ble_eq_true rfl)) (by decide) ml6 pp6 (Nat.le_of_ble_eq_true rfl) rfl (by decide) (by decide) ?_
              refine ev_aload_n rfl ?_
              refine g_fget0 g76214 qf76084 ft0_0 ?_
              refine ev_bipush ?_
              refine ev_in (d := 5) (a := 0) (b := 0) (cd' := c94_0) (m := 2) (L0 := [(2, 19), (0, 10)]) (jcall_v (A := [(0, 10)]) (S' := []) (r := 19) rfl (g76214.lt ad19) (g76214.tg ad19) (Nat.le_of_ble_eq_true rfl)) (by decide) ml94 pp94 (Nat.le_of_ble_eq_true rfl) rfl (by decide) (by decide) ?_
              refine ev_aload_n rfl ?_
              refine g_getv (r := 19) (v := 0) g76214 ad19 (by decide) ft7_5 ((jw_eq e76214)) ?_
              refine ev_bipush ?_
              refine ev_icmpge f94_19 (fun c76227 => absurd c76227 (by omega)) (fun c76227 => ?_)
              refine ev_aload_n rfl ?_
              refine g_getp (r := 19) (c := 22) g76214 ad19 (by decide) (by decide) rf19_2 ft7_2 ?_
              refine ev_aload_n rfl ?_
              refine g_getv (r := 19) (v := 0) g76214 ad19 (by decide) ft7_5 ((jw_eq e76214)) ?_
              refine ev_iload_n rfl ?_
              refine g_iast g76214 ad22 rt22 (fun _ => rfl) (by omega) (by omega) (by omega) (by omega) (fun h76228 e76228 g76228 => ?_)
              have k76228 := k76214.wr e76228 rfl
              refine ev_aload_n rfl ?_
              refine ev_dup (by decide) ?_
              refine g_getv (r := 19) (v := 0) g76228 ad19 (by decide) ft7_5 (((jw_ne e76228 (Or.inl (by decide))).trans (jw_eq e76214))) ?_
              refine ev_iconst ?_
              refine ev_iadd (r := 1) (by decide) ?_
              refine g_putf (r := 19) g76228 ad19 (by decide) ft7_5 (by decide) (fun e => absurd e nz7_5) rf19_5 (by decide) (by omega) (by omega) (fun h76229 e76229 g76229 => ?_)
              have k76229 := k76228.wr e76229 rfl
              refine ev_ret rfl (by decide) (by decide) ?_
              show jEv _ _ _ _ _ _ _ (_, [(2, (f76084 : Int)), (0, a3)], [], _, _, _)
              refine ev_aload_n rfl ?_
              refine ev_iload_n rfl ?_
              refine ev_in (d := 5) (a := 0) (b := 0) (cd' := c20_0) (m := 2) (L0 := [(2, (f76084 : Int)), (0, a3)]) (jcall_F (A := [(0, a3)]) (S' := []) (r := f76084) (k := 20) rfl (g76229.flt qf76084) (g76229.ffam qf76084) (by rw [k76229.2.1, tyf76084]; rfl) (by decide) (Nat.le_of_ble_eq_true rfl)) (by decide) ml20 pp20 (Nat.le_of_ble_eq_true rfl) rfl (by decide) (by decide) ?_
              refine ev_aload_n rfl ?_
              refine g_fget0 g76229 qf76084 ft0_0 ?_
              refine ev_bipush ?_
              refine ev_in (d := 4) (a := 0) (b := 0) (cd' := c94_0) (m := 2) (L0 := [(2, 19), (0, 50)]) (jcall_v (A := [(0, 50)]) (S' := []) (r := 19) rfl (g76229.lt ad19) (g76229.tg ad19) (Nat.le_of_ble_eq_true rfl)) (by decide) ml94 pp94 (Nat.le_of_ble_eq_true rfl) rfl (by decide) (by decide) ?_
              refine ev_aload_n rfl ?_
              refine g_getv (r := 19) (v := 1) g76229 ad19 (by decide) ft7_5 ((jw_eq e76229)) ?_
              refine ev_bipush ?_
              refine ev_icmpge f94_19 (fun c76230 => absurd c76230 (by omega)) (fun c76230 => ?_)
              refine ev_aload_n rfl ?_
              refine g_getp (r := 19) (c := 22) g76229 ad19 (by decide) (by decide) rf19_2 ft7_2 ?_
              refine ev_aload_n rfl ?_
              refine g_getv (r := 19) (v := 1) g76229 ad19 (by decide) ft7_5 ((jw_eq e76229)) ?_
              refine ev_iload_n rfl ?_
              refine g_iast g76229 ad22 rt22 (fun _ => rfl) (by omega) (by omega) (by omega) (by omega) (fun h76231 e76231 g76231 => ?_)
              have k76231 := k76229.wr e76231 rfl
              refine ev_aload_n rfl ?_
              refine ev_dup (by decide) ?_
              refine g_getv (r := 19) (v := 1) g76231 ad19 (by decide) ft7_5 (((jw_ne e76231 (Or.inl (by decide))).trans (jw_eq e76229))) ?_
              refine ev_iconst ?_
              refine ev_iadd (r := 2) (by decide) ?_
              refine g_putf (r := 19) g76231 ad19 (by decide) ft7_5 (by decide) (fun e => absurd e nz7_5) rf19_5 (by decide) (by omega) (by omega) (fun h76232 e76232 g76232 => ?_)
              have k76232 := k76231.wr e76232 rfl
              refine ev_ret rfl (by decide) (by decide) ?_
              show jEv _ _ _ _ _ _ _ (_, [(2, (f76084 : Int)), (0, a3)], [], _, _, _)
              refine ev_aload_n rfl ?_
              refine ev_iload_n rfl ?_
              refine ev_in (d := 4) (a := 0) (b := 0) (cd' := c5_0) (m := 2) (L0 := [(2, (f76084 : Int)), (0, a3)]) (jcall_u (A := [(0, a3)]) (S' := []) (r := f76084) rfl (g76232.flt qf76084) (g76232.ffam qf76084) (Nat.le_of_ble_eq_true rfl)) (by decide) ml5 pp5 (Nat.le_of_ble_eq_true rfl) rfl (by decide) (by decide) ?_
              refine ev_aload_n rfl ?_
              refine g_fget0 g76232 qf76084 ft0_0 ?_
              refine ev_iconst ?_
              refine ev_in (d := 3) (a := 0) (b := 0) (cd' := c94_0) (m := 2) (L0 := [(2, 19), (0, 1)]) (jcall_v (A := [(0, 1)]) (S' := []) (r := 19) rfl (g76232.lt ad19) (g76232.tg ad19) (Nat.le_of_ble_eq_true rfl)) (by decide) ml94 pp94 (Nat.le_of_ble_eq_true rfl) rfl (by decide) (by decide) ?_
              refine ev_aload_n rfl ?_
              refine g_getv (r := 19) (v := 2) g76232 ad19 (by decide) ft7_5 ((jw_eq e76232)) ?_
              refine ev_bipush ?_
              refine ev_icmpge f94_19 (fun c76233 => absurd c76233 (by omega)) (fun c76233 => ?_)
              refine ev_aload_n rfl ?_
              refine g_getp (r := 19) (c := 22) g76232 ad19 (by decide) (by decide) rf19_2 ft7_2 ?_
              refine ev_aload_n rfl ?_
              refine g_getv (r := 19) (v := 2) g76232 ad19 (by decide) ft7_5 ((jw_eq e76232)) ?_
              refine ev_iload_n rfl ?_
              refine g_iast g76232 ad22 rt22 (fun _ => rfl) (by omega) (by omega) (by omega) (by omega) (fun h76234 e76234 g76234 => ?_)
              have k76234 := k76232.wr e76234 rfl
              refine ev_aload_n rfl ?_
              refine ev_dup (by decide) ?_
              refine g_getv (r := 19) (v := 2) g76234 ad19 (by decide) ft7_5 (((jw_ne e76234 (Or.inl (by decide))).trans (jw_eq e76232))) ?_
              refine ev_iconst ?_
              refine ev_iadd (r := 3) (by decide) ?_
              refine g_putf (r := 19) g76234 ad19 (by decide) ft7_5 (by decide) (fun e => absurd e nz7_5) rf19_5 (by decide) (by omega) (by omega) (fun h76235 e76235 g76235 => ?_)
              have k76235 := k76234.wr e76235 rfl
              refine ev_ret rfl (by decide) (by decide) ?_
              show jEv _ _ _ _ _ _ _ (_, [(2, (f76084 : Int)), (0, a3)], [], _, _, _)
              refine ev_iload_n rfl ?_
              refine ev_aload_n rfl ?_
              refine ev_getf (g76235.flt qf76084) (g76235.ffam qf76084) ft0_1 (((jw_ne e76235 (Or.inl (ne83 bf76084 (by decide)))).trans ((jw_ne e76234 (Or.inl (ne83 bf76084 (by decide)))).trans ((jw_ne e76232 (Or.inl (ne83 bf76084 (by decide)))).trans ((jw_ne e76231 (Or.inl (ne83 bf76084 (by decide)))).trans ((jw_ne e76229 (Or.inl (ne83 bf76084 (by decide)))).trans ((jw_ne e76228 (Or.inl (ne83 bf76084 (by decide)))).trans ((jw_ne e76214 (Or.inl (ne83 bf76084 (by decide)))).trans ev76085)))))))) ?_
              refine g_iaddG (fun v76236 ev76236 lv76236 uv76236 => ?_)
              refine ev_ret rfl (by decide) (by decide) ?_
              show jEv _ _ _ _ _ _ _ (_, [(2, (f76084 : Int)), (0, a3)], [(0, v76236)], _, _, _)
              refine ev_aload_n rfl ?_
              refine ev_getf (g76235.flt qf76084) (g76235.ffam qf76084) ft0_2 (((jw_ne e76235 (Or.inl (ne83 bf76084 (by decide)))).trans ((jw_ne e76234 (Or.inl (ne83 bf76084 (by decide)))).trans ((jw_ne e76232 (Or.inl (ne83 bf76084 (by decide)))).trans ((jw_ne e76231 (Or.inl (ne83 bf76084 (by decide)))).trans ((jw_ne e76229 (Or.inl (ne83 bf76084 (by decide)))).trans ((jw_ne e76228 (Or.inl (ne83 bf76084 (by decide)))).trans ((jw_ne e76214 (Or.inl (ne83 bf76084 (by decide)))).trans ev76086)))))))) ?_
              refine g_iaddG (fun v76237 ev76237 lv76237 uv76237 => ?_)
              refine ev_ret rfl (by decide) (by decide) ?_
              show jEv _ _ _ _ _ _ _ (_, [(2, (f76084 : Int)), (0, a3)], [(0, v76237)], _, _, _)
              refine ev_iconst ?_
              refine g_imulG (fun v76238 ev76238 lv76238 uv76238 => ?_)
              refine ev_ret rfl (by decide) (by decide) ?_
              show jEv _ _ _ _ _ _ _ (_, [(2, 0), (0, a1), (0, a2), (0, a3), (2, (f76084 : Int))], [(0, v76238)], _, _, _)
              exact ev_ret rfl (by decide) (by decide) ⟨_, rfl, g76235, k76235, Or.inr ⟨(by unfold AV0; rw [ev76082]; omega), f76084, ef76084, by rw [tyf76084, show kdT 3 = 4 from rfl, show a2 = 1 by omega, ev76085, ev76086, ac_4_1]; (try rw [ev76236]); (try rw [ev76237]); (try rw [ev76238]); all_goals (first | rfl | omega | (unfold w32 at *; omega)), by rw [tyf76084, show kdT 3 = 4 from rfl, show a2 = 1 by omega, tr_4_1]; exact ⟨(((jw_eq e76235))), (((jw_ne e76235 (Or.inl (by decide))).trans ((jw_ne e76234 (Or.inr (by decide))).trans ((jw_ne e76232 (Or.inl (by decide))).trans ((jw_ne e76231 (Or.inr (by decide))).trans ((jw_ne e76229 (Or.inl (by decide))).trans (jw_eq e76228))))))), (((jw_ne e76235 (Or.inl (by decide))).trans ((jw_ne e76234 (Or.inr (by decide))).trans ((jw_ne e76232 (Or.inl (by decide))).trans (jw_eq e76231))))), (((jw_ne e76235 (Or.inl (by decide))).trans (jw_eq e76234))), trivial⟩⟩⟩
            · refine ev_sw (t := 70) (by rw [c76218]; decide) f210_70 ?_
              refine ev_aload rfl ?_
              refine ev_iload_n rfl ?_
              refine ev_in (d := 6) (a := 0) (b := 0) (cd' := c7_0) (m := 2) (L0 := [(2, (f76084 : Int)), (0, a3)]) (jcall_F (A := [(0, a3)]) (S' := []) (r := f76084) (k := 7) rfl (g76214.flt qf76084) (g76214.ffam qf76084) (by rw [k76214.2.1, tyf76084]; rfl) (by decide) (Nat.le_of_ble_eq_true rfl)) (by decide) ml7 pp7 (Nat.le_of_ble_eq_true rfl) rfl (by decide) (by decide) ?_
              refine ev_aload_n rfl ?_
              refine g_fget0 g76214 qf76084 ft0_0 ?_
              refine ev_bipush ?_
              refine ev_in (d := 5) (a := 0) (b := 0) (cd' := c94_0) (m := 2) (L0 := [(2, 19), (0, 11)]) (jcall_v (A := [(0, 11)]) (S' := []) (r := 19) rfl (g76214.lt ad19) (g76214.tg ad19) (Nat.le_of_ble_eq_true rfl)) (by decide) ml94 pp94 (Nat.le_of_ble_eq_true rfl) rfl (by decide) (by decide) ?_
              refine ev_aload_n rfl ?_
              refine g_getv (r := 19) (v := 0) g76214 ad19 (by decide) ft7_5 ((jw_eq e76214)) ?_
              refine ev_bipush ?_
              refine ev_icmpge f94_19 (fun c76239 => absurd c76239 (by omega)) (fun c76239 => ?_)
              refine ev_aload_n rfl ?_
              refine g_getp (r := 19) (c := 22) g76214 ad19 (by decide) (by decide) rf19_2 ft7_2 ?_
              refine ev_aload_n rfl ?_
              refine g_getv (r := 19) (v := 0) g76214 ad19 (by decide) ft7_5 ((jw_eq e76214)) ?_
              refine ev_iload_n rfl ?_
              refine g_iast g76214 ad22 rt22 (fun _ => rfl) (by omega) (by omega) (by omega) (by omega) (fun h76240 e76240 g76240 => ?_)
              have k76240 := k76214.wr e76240 rfl
              refine ev_aload_n rfl ?_
              refine ev_dup (by decide) ?_
              refine g_getv (r := 19) (v := 0) g76240 ad19 (by decide) ft7_5 (((jw_ne e76240 (Or.inl (by decide))).trans (jw_eq e76214))) ?_
              refine ev_iconst ?_
              refine ev_iadd (r := 1) (by decide) ?_
              refine g_putf (r := 19) g76240 ad19 (by decide) ft7_5 (by decide) (fun e => absurd e nz7_5) rf19_5 (by decide) (by omega) (by omega) (fun h76241 e76241 g76241 => ?_)
              have k76241 := k76240.wr e76241 rfl
              refine ev_ret rfl (by decide) (by decide) ?_
              show jEv _ _ _ _ _ _ _ (_, [(2, (f76084 : Int)), (0, a3)], [], _, _, _)
              refine ev_iload_n rfl ?_
              refine ev_aload_n rfl ?_
              refine ev_getf (g76241.flt qf76084) (g76241.ffam qf76084) ft0_1 (((jw_ne e76241 (Or.inl (ne83 bf76084 (by decide)))).trans ((jw_ne e76240 (Or.inl (ne83 bf76084 (by decide)))).trans ((jw_ne e76214 (Or.inl (ne83 bf76084 (by decide)))).trans ev76085)))) ?_
              refine g_ixorG (fun v76242 ev76242 lv76242 uv76242 => ?_)
              refine ev_ret rfl (by decide) (by decide) ?_
              show jEv _ _ _ _ _ _ _ (_, [(2, 0), (0, a1), (0, a2), (0, a3), (2, (f76084 : Int))], [(0, v76242)], _, _, _)
              exact ev_ret rfl (by decide) (by decide) ⟨_, rfl, g76241, k76241, Or.inr ⟨(by unfold AV0; rw [ev76082]; omega), f76084, ef76084, by rw [tyf76084, show kdT 3 = 4 from rfl, show a2 = 2 by omega, ev76085, ev76086, ac_4_2]; (try rw [ev76242]); all_goals (first | rfl | omega | (unfold w32 at *; omega)), by rw [tyf76084, show kdT 3 = 4 from rfl, show a2 = 2 by omega, tr_4_2]; exact ⟨(((jw_eq e76241))), (((jw_ne e76241 (Or.inl (by decide))).trans (jw_eq e76240))), trivial⟩⟩⟩
            · refine ev_sw (t := 77) (by rw [if_pos (show _ ∨ _ by omega)]; rfl) f210_77 ?_
              refine ev_aload rfl ?_
              refine ev_iload_n rfl ?_
              refine ev_in (d := 6) (a := 0) (b := 0) (cd' := c8_0) (m := 2) (L0 := [(2, (f76084 : Int)), (0, a3)]) (jcall_F (A := [(0, a3)]) (S' := []) (r := f76084) (k := 8) rfl (g76214.flt qf76084) (g76214.ffam qf76084) (by rw [k76214.2.1, tyf76084]; rfl) (by decide) (Nat.le_of_ble_eq_true rfl)) (by decide) ml8 pp8 (Nat.le_of_ble_eq_true rfl) rfl (by decide) (by decide) ?_
              refine ev_aload_n rfl ?_
              refine g_fget0 g76214 qf76084 ft0_0 ?_
              refine ev_iconst ?_
              refine ev_in (d := 5) (a := 0) (b := 0) (cd' := c94_0) (m := 2) (L0 := [(2, 19), (0, 2)]) (jcall_v (A := [(0, 2)]) (S' := []) (r := 19) rfl (g76214.lt ad19) (g76214.tg ad19) (Nat.le_of_ble_eq_true rfl)) (by decide) ml94 pp94 (Nat.le_of_ble_eq_true rfl) rfl (by decide) (by decide) ?_
              refine ev_aload_n rfl ?_
              refine g_getv (r := 19) (v := 0) g76214 ad19 (by decide) ft7_5 ((jw_eq e76214)) ?_
              refine ev_bipush ?_
              refine ev_icmpge f94_19 (fun c76243 => absurd c76243 (by omega)) (fun c76243 => ?_)
              refine ev_aload_n rfl ?_
              refine g_getp (r := 19) (c := 22) g76214 ad19 (by decide) (by decide) rf19_2 ft7_2 ?_
              refine ev_aload_n rfl ?_
              refine g_getv (r := 19) (v := 0) g76214 ad19 (by decide) ft7_5 ((jw_eq e76214)) ?_
              refine ev_iload_n rfl ?_
              refine g_iast g76214 ad22 rt22 (fun _ => rfl) (by omega) (by omega) (by omega) (by omega) (fun h76244 e76244 g76244 => ?_)
              have k76244 := k76214.wr e76244 rfl
              refine ev_aload_n rfl ?_
              refine ev_dup (by decide) ?_
              refine g_getv (r := 19) (v := 0) g76244 ad19 (by decide) ft7_5 (((jw_ne e76244 (Or.inl (by decide))).trans (jw_eq e76214))) ?_
              refine ev_iconst ?_
              refine ev_iadd (r := 1) (by decide) ?_
              refine g_putf (r := 19) g76244 ad19 (by decide) ft7_5 (by decide) (fun e => absurd e nz7_5) rf19_5 (by decide) (by omega) (by omega) (fun h76245 e76245 g76245 => ?_)
              have k76245 := k76244.wr e76245 rfl
              refine ev_ret rfl (by decide) (by decide) ?_
              show jEv _ _ _ _ _ _ _ (_, [(2, (f76084 : Int)), (0, a3)], [], _, _, _)
              refine ev_aload_n rfl ?_
              refine ev_iload_n rfl ?_
              refine ev_in (d := 5) (a := 0) (b := 0) (cd' := c6_0) (m := 2) (L0 := [(2, (f76084 : Int)), (0, a3)]) (jcall_F (A := [(0, a3)]) (S' := []) (r := f76084) (k := 6) rfl (g76245.flt qf76084) (g76245.ffam qf76084) (by rw [k76245.2.1, tyf76084]; rfl) (by decide) (Nat.le_of_ble_eq_true rfl)) (by decide) ml6 pp6 (Nat.le_of_ble_eq_true rfl) rfl (by decide) (by decide) ?_
              refine ev_aload_n rfl ?_
              refine g_fget0 g76245 qf76084 ft0_0 ?_
              refine ev_bipush ?_
              refine ev_in (d := 4) (a := 0) (b := 0) (cd' := c94_0) (m := 2) (L0 := [(2, 19), (0, 10)]) (jcall_v (A := [(0, 10)]) (S' := []) (r := 19) rfl (g76245.lt ad19) (g76245.tg ad19) (Nat.le_of_ble_eq_true rfl)) (by decide) ml94 pp94 (Nat.le_of_ble_eq_true rfl) rfl (by decide) (by decide) ?_
              refine ev_aload_n rfl ?_
              refine g_getv (r := 19) (v := 1) g76245 ad19 (by decide) ft7_5 ((jw_eq e76245)) ?_
              refine ev_bipush ?_
              refine ev_icmpge f94_19 (fun c76246 => absurd c76246 (by omega)) (fun c76246 => ?_)
              refine ev_aload_n rfl ?_
              refine g_getp (r := 19) (c := 22) g76245 ad19 (by decide) (by decide) rf19_2 ft7_2 ?_
              refine ev_aload_n rfl ?_
              refine g_getv (r := 19) (v := 1) g76245 ad19 (by decide) ft7_5 ((jw_eq e76245)) ?_
              refine ev_iload_n rfl ?_
              refine g_iast g76245 ad22 rt22 (fun _ => rfl) (by omega) (by omega) (by omega) (by omega) (fun h76247 e76247 g76247 => ?_)
              have k76247 := k76245.wr e76247 rfl
              refine ev_aload_n rfl ?_
              refine ev_dup (by decide) ?_
              refine g_getv (r := 19) (v := 1) g76247 ad19 (by decide) ft7_5 (((jw_ne e76247 (Or.inl (by decide))).trans (jw_eq e76245))) ?_
              refine ev_iconst ?_
              refine ev_iadd (r := 2) (by decide) ?_
              refine g_putf (r := 19) g76247 ad19 (by decide) ft7_5 (by decide) (fun e => absurd e nz7_5) rf19_5 (by decide) (by omega) (by omega) (fun h76248 e76248 g76248 => ?_)
              have k76248 := k76247.wr e76248 rfl
              refine ev_ret rfl (by decide) (by decide) ?_
              show jEv _ _ _ _ _ _ _ (_, [(2, (f76084 : Int)), (0, a3)], [], _, _, _)
              refine ev_aload_n rfl ?_
              refine ev_iload_n rfl ?_
              refine ev_in (d := 4) (a := 0) (b := 0) (cd' := c20_0) (m := 2) (L0 := [(2, (f76084 : Int)), (0, a3)]) (jcall_F (A := [(0, a3)]) (S' := []) (r := f76084) (k := 20) rfl (g76248.flt qf76084) (g76248.ffam qf76084) (by rw [k76248.2.1, tyf76084]; rfl) (by decide) (Nat.le_of_ble_eq_true rfl)) (by decide) ml20 pp20 (Nat.le_of_ble_eq_true rfl) rfl (by decide) (by decide) ?_
              refine ev_aload_n rfl ?_
              refine g_fget0 g76248 qf76084 ft0_0 ?_
              refine ev_bipush ?_
              refine ev_in (d := 3) (a := 0) (b := 0) (cd' := c94_0) (m := 2) (L0 := [(2, 19), (0, 50)]) (jcall_v (A := [(0, 50)]) (S' := []) (r := 19) rfl (g76248.lt ad19) (g76248.tg ad19) (Nat.le_of_ble_eq_true rfl)) (by decide) ml94 pp94 (Nat.le_of_ble_eq_true rfl) rfl (by decide) (by decide) ?_
              refine ev_aload_n rfl ?_
              refine g_getv (r := 19) (v := 2) g76248 ad19 (by decide) ft7_5 ((jw_eq e76248)) ?_
              refine ev_bipush ?_
              refine ev_icmpge f94_19 (fun c76249 => absurd c76249 (by omega)) (fun c76249 => ?_)
              refine ev_aload_n rfl ?_
              refine g_getp (r := 19) (c := 22) g76248 ad19 (by decide) (by decide) rf19_2 ft7_2 ?_
              refine ev_aload_n rfl ?_
              refine g_getv (r := 19) (v := 2) g76248 ad19 (by decide) ft7_5 ((jw_eq e76248)) ?_
              refine ev_iload_n rfl ?_
              refine g_iast g76248 ad22 rt22 (fun _ => rfl) (by omega) (by omega) (by omega) (by omega) (fun h76250 e76250 g76250 => ?_)
              have k76250 := k76248.wr e76250 rfl
              refine ev_aload_n rfl ?_
              refine ev_dup (by decide) ?_
              refine g_getv (r := 19) (v := 2) g76250 ad19 (by decide) ft7_5 (((jw_ne e76250 (Or.inl (by decide))).trans (jw_eq e76248))) ?_
              refine ev_iconst ?_
              refine ev_iadd (r := 3) (by decide) ?_
              refine g_putf (r := 19) g76250 ad19 (by decide) ft7_5 (by decide) (fun e => absurd e nz7_5) rf19_5 (by decide) (by omega) (by omega) (fun h76251 e76251 g76251 => ?_)
              have k76251 := k76250.wr e76251 rfl
              refine ev_ret rfl (by decide) (by decide) ?_
              show jEv _ _ _ _ _ _ _ (_, [(2, (f76084 : Int)), (0, a3)], [], _, _, _)
              refine ev_aload_n rfl ?_
              refine ev_iload_n rfl ?_
              refine ev_in (d := 3) (a := 0) (b := 0) (cd' := c5_0) (m := 2) (L0 := [(2, (f76084 : Int)), (0, a3)]) (jcall_u (A := [(0, a3)]) (S' := []) (r := f76084) rfl (g76251.flt qf76084) (g76251.ffam qf76084) (Nat.le_of_ble_eq_true rfl)) (by decide) ml5 pp5 (Nat.le_of_ble_eq_true rfl) rfl (by decide) (by decide) ?_
              refine ev_aload_n rfl ?_
              refine g_fget0 g76251 qf76084 ft0_0 ?_
              refine ev_iconst ?_
              refine ev_in (d := 2) (a := 0) (b := 0) (cd' := c94_0) (m := 2) (L0 := [(2, 19), (0, 1)]) (jcall_v (A := [(0, 1)]) (S' := []) (r := 19) rfl (g76251.lt ad19) (g76251.tg ad19) (Nat.le_of_ble_eq_true rfl)) (by decide) ml94 pp94 (Nat.le_of_ble_eq_true rfl) rfl (by decide) (by decide) ?_
              refine ev_aload_n rfl ?_
              refine g_getv (r := 19) (v := 3) g76251 ad19 (by decide) ft7_5 ((jw_eq e76251)) ?_
              refine ev_bipush ?_
              refine ev_icmpge f94_19 (fun c76252 => absurd c76252 (by omega)) (fun c76252 => ?_)
              refine ev_aload_n rfl ?_
              refine g_getp (r := 19) (c := 22) g76251 ad19 (by decide) (by decide) rf19_2 ft7_2 ?_
              refine ev_aload_n rfl ?_
              refine g_getv (r := 19) (v := 3) g76251 ad19 (by decide) ft7_5 ((jw_eq e76251)) ?_
              refine ev_iload_n rfl ?_
              refine g_iast g76251 ad22 rt22 (fun _ => rfl) (by omega) (by omega) (by omega) (by omega) (fun h76253 e76253 g76253 => ?_)
              have k76253 := k76251.wr e76253 rfl
              refine ev_aload_n rfl ?_
              refine ev_dup (by decide) ?_
              refine g_getv (r := 19) (v := 3) g76253 ad19 (by decide) ft7_5 (((jw_ne e76253 (Or.inl (by decide))).trans (jw_eq e76251))) ?_
              refine ev_iconst ?_
              refine ev_iadd (r := 4) (by decide) ?_
              refine g_putf (r := 19) g76253 ad19 (by decide) ft7_5 (by decide) (fun e => absurd e nz7_5) rf19_5 (by decide) (by omega) (by omega) (fun h76254 e76254 g76254 => ?_)
              have k76254 := k76253.wr e76254 rfl
              refine ev_ret rfl (by decide) (by decide) ?_
              show jEv _ _ _ _ _ _ _ (_, [(2, (f76084 : Int)), (0, a3)], [], _, _, _)
              refine ev_iload_n rfl ?_
              refine ev_aload_n rfl ?_
              refine ev_getf (g76254.flt qf76084) (g76254.ffam qf76084) ft0_1 (((jw_ne e76254 (Or.inl (ne83 bf76084 (by decide)))).trans ((jw_ne e76253 (Or.inl (ne83 bf76084 (by decide)))).trans ((jw_ne e76251 (Or.inl (ne83 bf76084 (by decide)))).trans ((jw_ne e76250 (Or.inl (ne83 bf76084 (by decide)))).trans ((jw_ne e76248 (Or.inl (ne83 bf76084 (by decide)))).trans ((jw_ne e76247 (Or.inl (ne83 bf76084 (by decide)))).trans ((jw_ne e76245 (Or.inl (ne83 bf76084 (by decide)))).trans ((jw_ne e76244 (Or.inl (ne83 bf76084 (by decide)))).trans ((jw_ne e76214 (Or.inl (ne83 bf76084 (by decide)))).trans ev76085)))))))))) ?_
              refine g_iaddG (fun v76255 ev76255 lv76255 uv76255 => ?_)
              refine ev_ret rfl (by decide) (by decide) ?_
              show jEv _ _ _ _ _ _ _ (_, [(2, (f76084 : Int)), (0, a3)], [(0, v76255)], _, _, _)
              refine ev_aload_n rfl ?_
              refine ev_getf (g76254.flt qf76084) (g76254.ffam qf76084) ft0_2 (((jw_ne e76254 (Or.inl (ne83 bf76084 (by decide)))).trans ((jw_ne e76253 (Or.inl (ne83 bf76084 (by decide)))).trans ((jw_ne e76251 (Or.inl (ne83 bf76084 (by decide)))).trans ((jw_ne e76250 (Or.inl (ne83 bf76084 (by decide)))).trans ((jw_ne e76248 (Or.inl (ne83 bf76084 (by decide)))).trans ((jw_ne e76247 (Or.inl (ne83 bf76084 (by decide)))).trans ((jw_ne e76245 (Or.inl (ne83 bf76084 (by decide)))).trans ((jw_ne e76244 (Or.inl (ne83 bf76084 (by decide)))).trans ((jw_ne e76214 (Or.inl (ne83 bf76084 (by decide)))).trans ev76086)))))))))) ?_
              refine g_iaddG (fun v76256 ev76256 lv76256 uv76256 => ?_)
              refine ev_ret rfl (by decide) (by decide) ?_
              show jEv _ _ _ _ _ _ _ (_, [(2, (f76084 : Int)), (0, a3)], [(0, v76256)], _, _, _)
              refine ev_iconst ?_
              refine g_imulG (fun v76257 ev76257 lv76257 uv76257 => ?_)
              refine ev_ret rfl (by decide) (by decide) ?_
              show jEv _ _ _ _ _ _ _ (_, [(2, (f76084 : Int)), (0, a3)], [(0, v76257)], _, _, _)
              refine ev_aload_n rfl ?_
              refine ev_iconst ?_
              refine ev_in (d := 5) (a := 0) (b := 0) (cd' := c7_0) (m := 2) (L0 := [(2, (f76084 : Int)), (0, 1)]) (jcall_F (A := [(0, 1)]) (S' := [(0, v76257)]) (r := f76084) (k := 7) rfl (g76254.flt qf76084) (g76254.ffam qf76084) (by rw [k76254.2.1, tyf76084]; rfl) (by decide) (Nat.le_of_ble_eq_true rfl)) (by decide) ml7 pp7 (Nat.le_of_ble_eq_true rfl) rfl (by decide) (by decide) ?_
              refine ev_aload_n rfl ?_
              refine g_fget0 g76254 qf76084 ft0_0 ?_
              refine ev_bipush ?_
              refine ev_in (d := 4) (a := 0) (b := 0) (cd' := c94_0) (m := 2) (L0 := [(2, 19), (0, 11)]) (jcall_v (A := [(0, 11)]) (S' := []) (r := 19) rfl (g76254.lt ad19) (g76254.tg ad19) (Nat.le_of_ble_eq_true rfl)) (by decide) ml94 pp94 (Nat.le_of_ble_eq_true rfl) rfl (by decide) (by decide) ?_
              refine ev_aload_n rfl ?_
              refine g_getv (r := 19) (v := 4) g76254 ad19 (by decide) ft7_5 ((jw_eq e76254)) ?_
              refine ev_bipush ?_
              refine ev_icmpge f94_19 (fun c76258 => absurd c76258 (by omega)) (fun c76258 => ?_)
              refine ev_aload_n rfl ?_
              refine g_getp (r := 19) (c := 22) g76254 ad19 (by decide) (by decide) rf19_2 ft7_2 ?_
              refine ev_aload_n rfl ?_
              refine g_getv (r := 19) (v := 4) g76254 ad19 (by decide) ft7_5 ((jw_eq e76254)) ?_
              refine ev_iload_n rfl ?_
              refine g_iast g76254 ad22 rt22 (fun _ => rfl) (by omega) (by omega) (by omega) (by omega) (fun h76259 e76259 g76259 => ?_)
              have k76259 := k76254.wr e76259 rfl
              refine ev_aload_n rfl ?_
              refine ev_dup (by decide) ?_
              refine g_getv (r := 19) (v := 4) g76259 ad19 (by decide) ft7_5 (((jw_ne e76259 (Or.inl (by decide))).trans (jw_eq e76254))) ?_
              refine ev_iconst ?_
              refine ev_iadd (r := 5) (by decide) ?_
              refine g_putf (r := 19) g76259 ad19 (by decide) ft7_5 (by decide) (fun e => absurd e nz7_5) rf19_5 (by decide) (by omega) (by omega) (fun h76260 e76260 g76260 => ?_)
              have k76260 := k76259.wr e76260 rfl
              refine ev_ret rfl (by decide) (by decide) ?_
              show jEv _ _ _ _ _ _ _ (_, [(2, (f76084 : Int)), (0, 1)], [], _, _, _)
              refine ev_iload_n rfl ?_
              refine ev_aload_n rfl ?_
              refine ev_getf (g76260.flt qf76084) (g76260.ffam qf76084) ft0_1 (((jw_ne e76260 (Or.inl (ne83 bf76084 (by decide)))).trans ((jw_ne e76259 (Or.inl (ne83 bf76084 (by decide)))).trans ((jw_ne e76254 (Or.inl (ne83 bf76084 (by decide)))).trans ((jw_ne e76253 (Or.inl (ne83 bf76084 (by decide)))).trans ((jw_ne e76251 (Or.inl (ne83 bf76084 (by decide)))).trans ((jw_ne e76250 (Or.inl (ne83 bf76084 (by decide)))).trans ((jw_ne e76248 (Or.inl (ne83 bf76084 (by decide)))).trans ((jw_ne e76247 (Or.inl (ne83 bf76084 (by decide)))).trans ((jw_ne e76245 (Or.inl (ne83 bf76084 (by decide)))).trans ((jw_ne e76244 (Or.inl (ne83 bf76084 (by decide)))).trans ((jw_ne e76214 (Or.inl (ne83 bf76084 (by decide)))).trans ev76085)))))))))))) ?_
              refine g_ixorB (k := 5) (hi := 31) (by decide) (by decide) (by omega) (by omega) (by omega) (by omega) (fun v76261 ev76261 lv76261 uv76261 => ?_)
              refine ev_ret rfl (by decide) (by decide) ?_
              show jEv _ _ _ _ _ _ _ (_, [(2, (f76084 : Int)), (0, a3)], [(0, v76261), (0, v76257)], _, _, _)
              refine g_isubG (fun v76262 ev76262 lv76262 uv76262 => ?_)
              refine ev_ret rfl (by decide) (by decide) ?_
              show jEv _ _ _ _ _ _ _ (_, [(2, 0), (0, a1), (0, a2), (0, a3), (2, (f76084 : Int))], [(0, v76262)], _, _, _)
              exact ev_ret rfl (by decide) (by decide) ⟨_, rfl, g76260, k76260, Or.inr ⟨(by unfold AV0; rw [ev76082]; omega), f76084, ef76084, by rw [tyf76084, show kdT 3 = 4 from rfl, show a2 = 3 by omega, ev76085, ev76086, ac_4_3]; (try rw [ev76255]); (try rw [ev76256]); (try rw [ev76257]); (try rw [ev76261]); (try rw [ev76262]); all_goals (first | rfl | omega | (unfold w32 at *; omega)), by rw [tyf76084, show kdT 3 = 4 from rfl, show a2 = 3 by omega, tr_4_3]; exact ⟨(((jw_eq e76260))), (((jw_ne e76260 (Or.inl (by decide))).trans ((jw_ne e76259 (Or.inr (by decide))).trans ((jw_ne e76254 (Or.inl (by decide))).trans ((jw_ne e76253 (Or.inr (by decide))).trans ((jw_ne e76251 (Or.inl (by decide))).trans ((jw_ne e76250 (Or.inr (by decide))).trans ((jw_ne e76248 (Or.inl (by decide))).trans ((jw_ne e76247 (Or.inr (by decide))).trans ((jw_ne e76245 (Or.inl (by decide))).trans (jw_eq e76244))))))))))), (((jw_ne e76260 (Or.inl (by decide))).trans ((jw_ne e76259 (Or.inr (by decide))).trans ((jw_ne e76254 (Or.inl (by decide))).trans ((jw_ne e76253 (Or.inr (by decide))).trans ((jw_ne e76251 (Or.inl (by decide))).trans ((jw_ne e76250 (Or.inr (by decide))).trans ((jw_ne e76248 (Or.inl (by decide))).trans (jw_eq e76247))))))))), (((jw_ne e76260 (Or.inl (by decide))).trans ((jw_ne e76259 (Or.inr (by decide))).trans ((jw_ne e76254 (Or.inl (by decide))).trans ((jw_ne e76253 (Or.inr (by decide))).trans ((jw_ne e76251 (Or.inl (by decide))).trans (jw_eq e76250))))))), (((jw_ne e76260 (Or.inl (by decide))).trans ((jw_ne e76259 (Or.inr (by decide))).trans ((jw_ne e76254 (Or.inl (by decide))).trans (jw_eq e76253))))), (((jw_ne e76260 (Or.inl (by decide))).trans (jw_eq e76259))), trivial⟩⟩⟩
          · refine ev_iconst ?_
            exact ev_ret rfl (by decide) (by decide) ⟨_, rfl, g76214, k76214, Or.inl ⟨(by unfold AV0; rw [ev76082]; omega), rfl, ((jw_eq e76214))⟩⟩
      · refine ev_ret rfl (by decide) (by decide) ?_
        show jEv _ _ _ _ _ _ _ (_, [(2, 0), (0, a1), (0, a2), (0, a3), (9, 0)], [(2, (f76084 : Int))], _, _, _)
        refine ev_astore (L' := [(2, 0), (0, a1), (0, a2), (0, a3), (2, (f76084 : Int))]) (Nat.le_of_ble_eq_true rfl) rfl ?_
        refine ev_aload_n rfl ?_
        refine g_getp (r := 0) (c := 19) g ad0 (by decide) (by decide) rf0_4 ft11_4 ?_
        refine ev_in (d := 6) (a := 0) (b := 0) (cd' := c93_0) (m := 1) (L0 := [(2, 19)]) (jcall_v (A := []) (S' := []) (r := 19) rfl (g.lt ad19) (g.tg ad19) (Nat.le_of_ble_eq_true rfl)) (by decide) ml93 pp93 (Nat.le_of_ble_eq_true rfl) rfl (by decide) (by decide) ?_
        refine ev_aload_n rfl ?_
        refine ev_iconst ?_
        refine g_putf (r := 19) g ad19 (by decide) ft7_5 (by decide) (fun e => absurd e nz7_5) rf19_5 (by decide) (by omega) (by omega) (fun h76263 e76263 g76263 => ?_)
        have k76263 := k0.wr e76263 rfl
        refine ev_ret rfl (by decide) (by decide) ?_
        show jEv _ _ _ _ _ _ _ (_, [(2, 0), (0, a1), (0, a2), (0, a3), (2, (f76084 : Int))], [], _, _, _)
        refine ev_aload rfl ?_
        refine ev_ifnull f210_28 (fun c76264 => absurd c76264 (by omega)) (fun c76264 => ?_)
        refine ev_iload_n rfl ?_
        refine ev_iflt f210_28 (fun c76265 => ?_) (fun c76265 => ?_)
        · refine ev_iconst ?_
          exact ev_ret rfl (by decide) (by decide) ⟨_, rfl, g76263, k76263, Or.inl ⟨(by unfold AV0; rw [ev76082]; omega), rfl, ((jw_eq e76263))⟩⟩
        · refine ev_iload_n rfl ?_
          refine ev_iconst ?_
          refine ev_icmple f210_30 (fun c76266 => ?_) (fun c76266 => ?_)
          · refine ev_iload_n rfl ?_
            rcases (show a2 = 0 ∨ a2 = 1 ∨ a2 = 2 ∨ 2 < a2 by omega) with c76267 | c76267 | c76267 | c76267
            · refine ev_sw (t := 56) (by rw [c76267]; decide) f210_56 ?_
              refine ev_aload rfl ?_
              refine ev_iload_n rfl ?_
              refine ev_in (d := 6) (a := 0) (b := 0) (cd' := c5_0) (m := 2) (L0 := [(2, (f76084 : Int)), (0, a3)]) (jcall_F (A := [(0, a3)]) (S' := []) (r := f76084) (k := 5) rfl (g76263.flt qf76084) (g76263.ffam qf76084) (by rw [k76263.2.1, tyf76084]; rfl) (by decide) (Nat.le_of_ble_eq_true rfl)) (by decide) ml5 pp5 (Nat.le_of_ble_eq_true rfl) rfl (by decide) (by decide) ?_
              refine ev_aload_n rfl ?_
              refine g_fget0 g76263 qf76084 ft0_0 ?_
              refine ev_iconst ?_
              refine ev_in (d := 5) (a := 0) (b := 0) (cd' := c94_0) (m := 2) (L0 := [(2, 19), (0, 1)]) (jcall_v (A := [(0, 1)]) (S' := []) (r := 19) rfl (g76263.lt ad19) (g76263.tg ad19) (Nat.le_of_ble_eq_true rfl)) (by decide) ml94 pp94 (Nat.le_of_ble_eq_true rfl) rfl (by decide) (by decide) ?_
              refine ev_aload_n rfl ?_
              refine g_getv (r := 19) (v := 0) g76263 ad19 (by decide) ft7_5 ((jw_eq e76263)) ?_
              refine ev_bipush ?_
              refine ev_icmpge f94_19 (fun c76268 => absurd c76268 (by omega)) (fun c76268 => ?_)
              refine ev_aload_n rfl ?_
              refine g_getp (r := 19) (c := 22) g76263 ad19 (by decide) (by decide) rf19_2 ft7_2 ?_
              refine ev_aload_n rfl ?_
              refine g_getv (r := 19) (v := 0) g76263 ad19 (by decide) ft7_5 ((jw_eq e76263)) ?_
              refine ev_iload_n rfl ?_
              refine g_iast g76263 ad22 rt22 (fun _ => rfl) (by omega) (by omega) (by omega) (by omega) (fun h76269 e76269 g76269 => ?_)
              have k76269 := k76263.wr e76269 rfl
              refine ev_aload_n rfl ?_
              refine ev_dup (by decide) ?_
              refine g_getv (r := 19) (v := 0) g76269 ad19 (by decide) ft7_5 (((jw_ne e76269 (Or.inl (by decide))).trans (jw_eq e76263))) ?_
              refine ev_iconst ?_
              refine ev_iadd (r := 1) (by decide) ?_
              refine g_putf (r := 19) g76269 ad19 (by decide) ft7_5 (by decide) (fun e => absurd e nz7_5) rf19_5 (by decide) (by omega) (by omega) (fun h76270 e76270 g76270 => ?_)
              have k76270 := k76269.wr e76270 rfl
              refine ev_ret rfl (by decide) (by decide) ?_
              show jEv _ _ _ _ _ _ _ (_, [(2, (f76084 : Int)), (0, a3)], [], _, _, _)
              refine ev_iload_n rfl ?_
              refine ev_aload_n rfl ?_
              refine ev_getf (g76270.flt qf76084) (g76270.ffam qf76084) ft0_1 (((jw_ne e76270 (Or.inl (ne83 bf76084 (by decide)))).trans ((jw_ne e76269 (Or.inl (ne83 bf76084 (by decide)))).trans ((jw_ne e76263 (Or.inl (ne83 bf76084 (by decide)))).trans ev76085)))) ?_
              refine g_iaddG (fun v76271 ev76271 lv76271 uv76271 => ?_)
              refine ev_ret rfl (by decide) (by decide) ?_
              show jEv _ _ _ _ _ _ _ (_, [(2, 0), (0, a1), (0, a2), (0, a3), (2, (f76084 : Int))], [(0, v76271)], _, _, _)
              exact ev_ret rfl (by decide) (by decide) ⟨_, rfl, g76270, k76270, Or.inr ⟨(by unfold AV0; rw [ev76082]; omega), f76084, ef76084, by rw [tyf76084, show kdT 6 = 3 from rfl, show a2 = 0 by omega, ev76085, ev76086, ac_3_0]; (try rw [ev76271]); all_goals (first | rfl | omega | (unfold w32 at *; omega)), by rw [tyf76084, show kdT 6 = 3 from rfl, show a2 = 0 by omega, tr_3_0]; exact ⟨(((jw_eq e76270))), (((jw_ne e76270 (Or.inl (by decide))).trans (jw_eq e76269))), trivial⟩⟩⟩
            · refine ev_sw (t := 63) (by rw [c76267]; decide) f210_63 ?_
              refine ev_aload rfl ?_
              refine ev_iload_n rfl ?_
              refine ev_in (d := 6) (a := 0) (b := 0) (cd' := c86_0) (m := 2) (L0 := [(2, (f76084 : Int)), (0, a3)]) (jcall_F (A := [(0, a3)]) (S' := []) (r := f76084) (k := 86) rfl (g76263.flt qf76084) (g76263.ffam qf76084) (by rw [k76263.2.1, tyf76084]; rfl) (by decide) (Nat.le_of_ble_eq_true rfl)) (by decide) ml86 pp86 (Nat.le_of_ble_eq_true rfl) rfl (by decide) (by decide) ?_
              refine ev_aload_n rfl ?_
              refine g_fget0 g76263 qf76084 ft0_0 ?_
              refine ev_bipush ?_
              refine ev_in (d := 5) (a := 0) (b := 0) (cd' := c94_0) (m := 2) (L0 := [(2, 19), (0, 40)]) (jcall_v (A := [(0, 40)]) (S' := []) (r := 19) rfl (g76263.lt ad19) (g76263.tg ad19) (Nat.le_of_ble_eq_true rfl)) (by decide) ml94 pp94 (Nat.le_of_ble_eq_true rfl) rfl (by decide) (by decide) ?_
              refine ev_aload_n rfl ?_
              refine g_getv (r := 19) (v := 0) g76263 ad19 (by decide) ft7_5 ((jw_eq e76263)) ?_
              refine ev_bipush ?_
              refine ev_icmpge f94_19 (fun c76272 => absurd c76272 (by omega)) (fun c76272 => ?_)
              refine ev_aload_n rfl ?_
              refine g_getp (r := 19) (c := 22) g76263 ad19 (by decide) (by decide) rf19_2 ft7_2 ?_
              refine ev_aload_n rfl ?_
              refine g_getv (r := 19) (v := 0) g76263 ad19 (by decide) ft7_5 ((jw_eq e76263)) ?_
              refine ev_iload_n rfl ?_
              refine g_iast g76263 ad22 rt22 (fun _ => rfl) (by omega) (by omega) (by omega) (by omega) (fun h76273 e76273 g76273 => ?_)
              have k76273 := k76263.wr e76273 rfl
              refine ev_aload_n rfl ?_
              refine ev_dup (by decide) ?_
              refine g_getv (r := 19) (v := 0) g76273 ad19 (by decide) ft7_5 (((jw_ne e76273 (Or.inl (by decide))).trans (jw_eq e76263))) ?_
              refine ev_iconst ?_
              refine ev_iadd (r := 1) (by decide) ?_
              refine g_putf (r := 19) g76273 ad19 (by decide) ft7_5 (by decide) (fun e => absurd e nz7_5) rf19_5 (by decide) (by omega) (by omega) (fun h76274 e76274 g76274 => ?_)
              have k76274 := k76273.wr e76274 rfl
              refine ev_ret rfl (by decide) (by decide) ?_
              show jEv _ _ _ _ _ _ _ (_, [(2, (f76084 : Int)), (0, a3)], [], _, _, _)
              refine ev_aload_n rfl ?_
              refine ev_iload_n rfl ?_
              refine ev_in (d := 5) (a := 0) (b := 0) (cd' := c12_0) (m := 2) (L0 := [(2, (f76084 : Int)), (0, a3)]) (jcall_u (A := [(0, a3)]) (S' := []) (r := f76084) rfl (g76274.flt qf76084) (g76274.ffam qf76084) (Nat.le_of_ble_eq_true rfl)) (by decide) ml12 pp12 (Nat.le_of_ble_eq_true rfl) rfl (by decide) (by decide) ?_
              refine ev_aload_n rfl ?_
              refine g_fget0 g76274 qf76084 ft0_0 ?_
              refine ev_bipush ?_
              refine ev_in (d := 4) (a := 0) (b := 0) (cd' := c94_0) (m := 2) (L0 := [(2, 19), (0, 20)]) (jcall_v (A := [(0, 20)]) (S' := []) (r := 19) rfl (g76274.lt ad19) (g76274.tg ad19) (Nat.le_of_ble_eq_true rfl)) (by decide) ml94 pp94 (Nat.le_of_ble_eq_true rfl) rfl (by decide) (by decide) ?_
              refine ev_aload_n rfl ?_
              refine g_getv (r := 19) (v := 1) g76274 ad19 (by decide) ft7_5 ((jw_eq e76274)) ?_
              refine ev_bipush ?_
              refine ev_icmpge f94_19 (fun c76275 => absurd c76275 (by omega)) (fun c76275 => ?_)
              refine ev_aload_n rfl ?_
              refine g_getp (r := 19) (c := 22) g76274 ad19 (by decide) (by decide) rf19_2 ft7_2 ?_
              refine ev_aload_n rfl ?_
              refine g_getv (r := 19) (v := 1) g76274 ad19 (by decide) ft7_5 ((jw_eq e76274)) ?_
              refine ev_iload_n rfl ?_
              refine g_iast g76274 ad22 rt22 (fun _ => rfl) (by omega) (by omega) (by omega) (by omega) (fun h76276 e76276 g76276 => ?_)
              have k76276 := k76274.wr e76276 rfl
              refine ev_aload_n rfl ?_
              refine ev_dup (by decide) ?_
              refine g_getv (r := 19) (v := 1) g76276 ad19 (by decide) ft7_5 (((jw_ne e76276 (Or.inl (by decide))).trans (jw_eq e76274))) ?_
              refine ev_iconst ?_
              refine ev_iadd (r := 2) (by decide) ?_
              refine g_putf (r := 19) g76276 ad19 (by decide) ft7_5 (by decide) (fun e => absurd e nz7_5) rf19_5 (by decide) (by omega) (by omega) (fun h76277 e76277 g76277 => ?_)
              have k76277 := k76276.wr e76277 rfl
              refine ev_ret rfl (by decide) (by decide) ?_
              show jEv _ _ _ _ _ _ _ (_, [(2, (f76084 : Int)), (0, a3)], [], _, _, _)
              refine ev_aload_n rfl ?_
              refine ev_iload_n rfl ?_
              refine ev_in (d := 4) (a := 0) (b := 0) (cd' := c6_0) (m := 2) (L0 := [(2, (f76084 : Int)), (0, a3)]) (jcall_u (A := [(0, a3)]) (S' := []) (r := f76084) rfl (g76277.flt qf76084) (g76277.ffam qf76084) (Nat.le_of_ble_eq_true rfl)) (by decide) ml6 pp6 (Nat.le_of_ble_eq_true rfl) rfl (by decide) (by decide) ?_
              refine ev_aload_n rfl ?_
              refine g_fget0 g76277 qf76084 ft0_0 ?_
              refine ev_bipush ?_
              refine ev_in (d := 3) (a := 0) (b := 0) (cd' := c94_0) (m := 2) (L0 := [(2, 19), (0, 10)]) (jcall_v (A := [(0, 10)]) (S' := []) (r := 19) rfl (g76277.lt ad19) (g76277.tg ad19) (Nat.le_of_ble_eq_true rfl)) (by decide) ml94 pp94 (Nat.le_of_ble_eq_true rfl) rfl (by decide) (by decide) ?_
              refine ev_aload_n rfl ?_
              refine g_getv (r := 19) (v := 2) g76277 ad19 (by decide) ft7_5 ((jw_eq e76277)) ?_
              refine ev_bipush ?_
              refine ev_icmpge f94_19 (fun c76278 => absurd c76278 (by omega)) (fun c76278 => ?_)
              refine ev_aload_n rfl ?_
              refine g_getp (r := 19) (c := 22) g76277 ad19 (by decide) (by decide) rf19_2 ft7_2 ?_
              refine ev_aload_n rfl ?_
              refine g_getv (r := 19) (v := 2) g76277 ad19 (by decide) ft7_5 ((jw_eq e76277)) ?_
              refine ev_iload_n rfl ?_
              refine g_iast g76277 ad22 rt22 (fun _ => rfl) (by omega) (by omega) (by omega) (by omega) (fun h76279 e76279 g76279 => ?_)
              have k76279 := k76277.wr e76279 rfl
              refine ev_aload_n rfl ?_
              refine ev_dup (by decide) ?_
              refine g_getv (r := 19) (v := 2) g76279 ad19 (by decide) ft7_5 (((jw_ne e76279 (Or.inl (by decide))).trans (jw_eq e76277))) ?_
              refine ev_iconst ?_
              refine ev_iadd (r := 3) (by decide) ?_
              refine g_putf (r := 19) g76279 ad19 (by decide) ft7_5 (by decide) (fun e => absurd e nz7_5) rf19_5 (by decide) (by omega) (by omega) (fun h76280 e76280 g76280 => ?_)
              have k76280 := k76279.wr e76280 rfl
              refine ev_ret rfl (by decide) (by decide) ?_
              show jEv _ _ _ _ _ _ _ (_, [(2, (f76084 : Int)), (0, a3)], [], _, _, _)
              refine ev_aload_n rfl ?_
              refine ev_iload_n rfl ?_
              refine ev_in (d := 3) (a := 0) (b := 0) (cd' := c5_0) (m := 2) (L0 := [(2, (f76084 : Int)), (0, a3)]) (jcall_F (A := [(0, a3)]) (S' := []) (r := f76084) (k := 5) rfl (g76280.flt qf76084) (g76280.ffam qf76084) (by rw [k76280.2.1, tyf76084]; rfl) (by decide) (Nat.le_of_ble_eq_true rfl)) (by decide) ml5 pp5 (Nat.le_of_ble_eq_true rfl) rfl (by decide) (by decide) ?_
              refine ev_aload_n rfl ?_
              refine g_fget0 g76280 qf76084 ft0_0 ?_
              refine ev_iconst ?_
              refine ev_in (d := 2) (a := 0) (b := 0) (cd' := c94_0) (m := 2) (L0 := [(2, 19), (0, 1)]) (jcall_v (A := [(0, 1)]) (S' := []) (r := 19) rfl (g76280.lt ad19) (g76280.tg ad19) (Nat.le_of_ble_eq_true rfl)) (by decide) ml94 pp94 (Nat.le_of_ble_eq_true rfl) rfl (by decide) (by decide) ?_
              refine ev_aload_n rfl ?_
              refine g_getv (r := 19) (v := 3) g76280 ad19 (by decide) ft7_5 ((jw_eq e76280)) ?_
              refine ev_bipush ?_
              refine ev_icmpge f94_19 (fun c76281 => absurd c76281 (by omega)) (fun c76281 => ?_)
              refine ev_aload_n rfl ?_
              refine g_getp (r := 19) (c := 22) g76280 ad19 (by decide) (by decide) rf19_2 ft7_2 ?_
              refine ev_aload_n rfl ?_
              refine g_getv (r := 19) (v := 3) g76280 ad19 (by decide) ft7_5 ((jw_eq e76280)) ?_
              refine ev_iload_n rfl ?_
              refine g_iast g76280 ad22 rt22 (fun _ => rfl) (by omega) (by omega) (by omega) (by omega) (fun h76282 e76282 g76282 => ?_)
              have k76282 := k76280.wr e76282 rfl
              refine ev_aload_n rfl ?_
              refine ev_dup (by decide) ?_
              refine g_getv (r := 19) (v := 3) g76282 ad19 (by decide) ft7_5 (((jw_ne e76282 (Or.inl (by decide))).trans (jw_eq e76280))) ?_
              refine ev_iconst ?_
              refine ev_iadd (r := 4) (by decide) ?_
              refine g_putf (r := 19) g76282 ad19 (by decide) ft7_5 (by decide) (fun e => absurd e nz7_5) rf19_5 (by decide) (by omega) (by omega) (fun h76283 e76283 g76283 => ?_)
              have k76283 := k76282.wr e76283 rfl
              refine ev_ret rfl (by decide) (by decide) ?_
              show jEv _ _ _ _ _ _ _ (_, [(2, (f76084 : Int)), (0, a3)], [], _, _, _)
              refine ev_iload_n rfl ?_
              refine ev_aload_n rfl ?_
              refine ev_getf (g76283.flt qf76084) (g76283.ffam qf76084) ft0_1 (((jw_ne e76283 (Or.inl (ne83 bf76084 (by decide)))).trans ((jw_ne e76282 (Or.inl (ne83 bf76084 (by decide)))).trans ((jw_ne e76280 (Or.inl (ne83 bf76084 (by decide)))).trans ((jw_ne e76279 (Or.inl (ne83 bf76084 (by decide)))).trans ((jw_ne e76277 (Or.inl (ne83 bf76084 (by decide)))).trans ((jw_ne e76276 (Or.inl (ne83 bf76084 (by decide)))).trans ((jw_ne e76274 (Or.inl (ne83 bf76084 (by decide)))).trans ((jw_ne e76273 (Or.inl (ne83 bf76084 (by decide)))).trans ((jw_ne e76263 (Or.inl (ne83 bf76084 (by decide)))).trans ev76085)))))))))) ?_
              refine g_iaddG (fun v76284 ev76284 lv76284 uv76284 => ?_)
              refine ev_ret rfl (by decide) (by decide) ?_
              show jEv _ _ _ _ _ _ _ (_, [(2, (f76084 : Int)), (0, a3)], [(0, v76284)], _, _, _)
              refine ev_iconst ?_
              refine g_imulG (fun v76285 ev76285 lv76285 uv76285 => ?_)
              refine ev_ret rfl (by decide) (by decide) ?_
              show jEv _ _ _ _ _ _ _ (_, [(2, (f76084 : Int)), (0, a3)], [(0, v76285)], _, _, _)
              refine ev_iconst ?_
              refine g_isubG (fun v76286 ev76286 lv76286 uv76286 => ?_)
              refine ev_ret rfl (by decide) (by decide) ?_
              show jEv _ _ _ _ _ _ _ (_, [(2, (f76084 : Int)), (0, a3)], [(0, v76286)], _, _, _)
              refine ev_aload_n rfl ?_
              refine ev_iconst ?_
              refine ev_in (d := 5) (a := 0) (b := 0) (cd' := c7_0) (m := 2) (L0 := [(2, (f76084 : Int)), (0, 2)]) (jcall_F (A := [(0, 2)]) (S' := [(0, v76286)]) (r := f76084) (k := 7) rfl (g76283.flt qf76084) (g76283.ffam qf76084) (by rw [k76283.2.1, tyf76084]; rfl) (by decide) (Nat.le_of_ble_eq_true rfl)) (by decide) ml7 pp7 (Nat.le_of_ble_eq_true rfl) rfl (by decide) (by decide) ?_
              refine ev_aload_n rfl ?_
              refine g_fget0 g76283 qf76084 ft0_0 ?_
              refine ev_bipush ?_
              refine ev_in (d := 4) (a := 0) (b := 0) (cd' := c94_0) (m := 2) (L0 := [(2, 19), (0, 11)]) (jcall_v (A := [(0, 11)]) (S' := []) (r := 19) rfl (g76283.lt ad19) (g76283.tg ad19) (Nat.le_of_ble_eq_true rfl)) (by decide) ml94 pp94 (Nat.le_of_ble_eq_true rfl) rfl (by decide) (by decide) ?_
              refine ev_aload_n rfl ?_
              refine g_getv (r := 19) (v := 4) g76283 ad19 (by decide) ft7_5 ((jw_eq e76283)) ?_
              refine ev_bipush ?_
              refine ev_icmpge f94_19 (fun c76287 => absurd c76287 (by omega)) (fun c76287 => ?_)
              refine ev_aload_n rfl ?_
              refine g_getp (r := 19) (c := 22) g76283 ad19 (by decide) (by decide) rf19_2 ft7_2 ?_
              refine ev_aload_n rfl ?_
              refine g_getv (r := 19) (v := 4) g76283 ad19 (by decide) ft7_5 ((jw_eq e76283)) ?_
              refine ev_iload_n rfl ?_
              refine g_iast g76283 ad22 rt22 (fun _ => rfl) (by omega) (by omega) (by omega) (by omega) (fun h76288 e76288 g76288 => ?_)
              have k76288 := k76283.wr e76288 rfl
              refine ev_aload_n rfl ?_
              refine ev_dup (by decide) ?_
              refine g_getv (r := 19) (v := 4) g76288 ad19 (by decide) ft7_5 (((jw_ne e76288 (Or.inl (by decide))).trans (jw_eq e76283))) ?_
              refine ev_iconst ?_
              refine ev_iadd (r := 5) (by decide) ?_
              refine g_putf (r := 19) g76288 ad19 (by decide) ft7_5 (by decide) (fun e => absurd e nz7_5) rf19_5 (by decide) (by omega) (by omega) (fun h76289 e76289 g76289 => ?_)
              have k76289 := k76288.wr e76289 rfl
              refine ev_ret rfl (by decide) (by decide) ?_
              show jEv _ _ _ _ _ _ _ (_, [(2, (f76084 : Int)), (0, 2)], [], _, _, _)
              refine ev_iload_n rfl ?_
              refine ev_aload_n rfl ?_
              refine ev_getf (g76289.flt qf76084) (g76289.ffam qf76084) ft0_1 (((jw_ne e76289 (Or.inl (ne83 bf76084 (by decide)))).trans ((jw_ne e76288 (Or.inl (ne83 bf76084 (by decide)))).trans ((jw_ne e76283 (Or.inl (ne83 bf76084 (by decide)))).trans ((jw_ne e76282 (Or.inl (ne83 bf76084 (by decide)))).trans ((jw_ne e76280 (Or.inl (ne83 bf76084 (by decide)))).trans ((jw_ne e76279 (Or.inl (ne83 bf76084 (by decide)))).trans ((jw_ne e76277 (Or.inl (ne83 bf76084 (by decide)))).trans ((jw_ne e76276 (Or.inl (ne83 bf76084 (by decide)))).trans ((jw_ne e76274 (Or.inl (ne83 bf76084 (by decide)))).trans ((jw_ne e76273 (Or.inl (ne83 bf76084 (by decide)))).trans ((jw_ne e76263 (Or.inl (ne83 bf76084 (by decide)))).trans ev76085)))))))))))) ?_
              refine g_ixorB (k := 5) (hi := 31) (by decide) (by decide) (by omega) (by omega) (by omega) (by omega) (fun v76290 ev76290 lv76290 uv76290 => ?_)
              refine ev_ret rfl (by decide) (by decide) ?_
              show jEv _ _ _ _ _ _ _ (_, [(2, (f76084 : Int)), (0, a3)], [(0, v76290), (0, v76286)], _, _, _)
              refine g_iaddG (fun v76291 ev76291 lv76291 uv76291 => ?_)
              refine ev_ret rfl (by decide) (by decide) ?_
              show jEv _ _ _ _ _ _ _ (_, [(2, 0), (0, a1), (0, a2), (0, a3), (2, (f76084 : Int))], [(0, v76291)], _, _, _)
              exact ev_ret rfl (by decide) (by decide) ⟨_, rfl, g76289, k76289, Or.inr ⟨(by unfold AV0; rw [ev76082]; omega), f76084, ef76084, by rw [tyf76084, show kdT 6 = 3 from rfl, show a2 = 1 by omega, ev76085, ev76086, ac_3_1]; (try rw [ev76284]); (try rw [ev76285]); (try rw [ev76286]); (try rw [ev76290]); (try rw [ev76291]); all_goals (first | rfl | omega | (unfold w32 at *; omega)), by rw [tyf76084, show kdT 6 = 3 from rfl, show a2 = 1 by omega, tr_3_1]; exact ⟨(((jw_eq e76289))), (((jw_ne e76289 (Or.inl (by decide))).trans ((jw_ne e76288 (Or.inr (by decide))).trans ((jw_ne e76283 (Or.inl (by decide))).trans ((jw_ne e76282 (Or.inr (by decide))).trans ((jw_ne e76280 (Or.inl (by decide))).trans ((jw_ne e76279 (Or.inr (by decide))).trans ((jw_ne e76277 (Or.inl (by decide))).trans ((jw_ne e76276 (Or.inr (by decide))).trans ((jw_ne e76274 (Or.inl (by decide))).trans (jw_eq e76273))))))))))), (((jw_ne e76289 (Or.inl (by decide))).trans ((jw_ne e76288 (Or.inr (by decide))).trans ((jw_ne e76283 (Or.inl (by decide))).trans ((jw_ne e76282 (Or.inr (by decide))).trans ((jw_ne e76280 (Or.inl (by decide))).trans ((jw_ne e76279 (Or.inr (by decide))).trans ((jw_ne e76277 (Or.inl (by decide))).trans (jw_eq e76276))))))))), (((jw_ne e76289 (Or.inl (by decide))).trans ((jw_ne e76288 (Or.inr (by decide))).trans ((jw_ne e76283 (Or.inl (by decide))).trans ((jw_ne e76282 (Or.inr (by decide))).trans ((jw_ne e76280 (Or.inl (by decide))).trans (jw_eq e76279))))))), (((jw_ne e76289 (Or.inl (by decide))).trans ((jw_ne e76288 (Or.inr (by decide))).trans ((jw_ne e76283 (Or.inl (by decide))).trans (jw_eq e76282))))), (((jw_ne e76289 (Or.inl (by decide))).trans (jw_eq e76288))), trivial⟩⟩⟩
            · refine ev_sw (t := 70) (by rw [c76267]; decide) f210_70 ?_
              refine ev_aload rfl ?_
              refine ev_iload_n rfl ?_
              refine ev_in (d := 6) (a := 0) (b := 0) (cd' := c7_0) (m := 2) (L0 := [(2, (f76084 : Int)), (0, a3)]) (jcall_F (A := [(0, a3)]) (S' := []) (r := f76084) (k := 7) rfl (g76263.flt qf76084) (g76263.ffam qf76084) (by rw [k76263.2.1, tyf76084]; rfl) (by decide) (Nat.le_of_ble_eq_true rfl)) (by decide) ml7 pp7 (Nat.le_of_ble_eq_true rfl) rfl (by decide) (by decide) ?_
              refine ev_aload_n rfl ?_
              refine g_fget0 g76263 qf76084 ft0_0 ?_
              refine ev_bipush ?_
              refine ev_in (d := 5) (a := 0) (b := 0) (cd' := c94_0) (m := 2) (L0 := [(2, 19), (0, 11)]) (jcall_v (A := [(0, 11)]) (S' := []) (r := 19) rfl (g76263.lt ad19) (g76263.tg ad19) (Nat.le_of_ble_eq_true rfl)) (by decide) ml94 pp94 (Nat.le_of_ble_eq_true rfl) rfl (by decide) (by decide) ?_
              refine ev_aload_n rfl ?_
              refine g_getv (r := 19) (v := 0) g76263 ad19 (by decide) ft7_5 ((jw_eq e76263)) ?_
              refine ev_bipush ?_
              refine ev_icmpge f94_19 (fun c76292 => absurd c76292 (by omega)) (fun c76292 => ?_)
              refine ev_aload_n rfl ?_
              refine g_getp (r := 19) (c := 22) g76263 ad19 (by decide) (by decide) rf19_2 ft7_2 ?_
              refine ev_aload_n rfl ?_
              refine g_getv (r := 19) (v := 0) g76263 ad19 (by decide) ft7_5 ((jw_eq e76263)) ?_
              refine ev_iload_n rfl ?_
              refine g_iast g76263 ad22 rt22 (fun _ => rfl) (by omega) (by omega) (by omega) (by omega) (fun h76293 e76293 g76293 => ?_)
              have k76293 := k76263.wr e76293 rfl
              refine ev_aload_n rfl ?_
              refine ev_dup (by decide) ?_
              refine g_getv (r := 19) (v := 0) g76293 ad19 (by decide) ft7_5 (((jw_ne e76293 (Or.inl (by decide))).trans (jw_eq e76263))) ?_
              refine ev_iconst ?_
              refine ev_iadd (r := 1) (by decide) ?_
              refine g_putf (r := 19) g76293 ad19 (by decide) ft7_5 (by decide) (fun e => absurd e nz7_5) rf19_5 (by decide) (by omega) (by omega) (fun h76294 e76294 g76294 => ?_)
              have k76294 := k76293.wr e76294 rfl
              refine ev_ret rfl (by decide) (by decide) ?_
              show jEv _ _ _ _ _ _ _ (_, [(2, (f76084 : Int)), (0, a3)], [], _, _, _)
              refine ev_iload_n rfl ?_
              refine ev_aload_n rfl ?_
              refine ev_getf (g76294.flt qf76084) (g76294.ffam qf76084) ft0_1 (((jw_ne e76294 (Or.inl (ne83 bf76084 (by decide)))).trans ((jw_ne e76293 (Or.inl (ne83 bf76084 (by decide)))).trans ((jw_ne e76263 (Or.inl (ne83 bf76084 (by decide)))).trans ev76085)))) ?_
              refine g_ixorG (fun v76295 ev76295 lv76295 uv76295 => ?_)
              refine ev_ret rfl (by decide) (by decide) ?_
              show jEv _ _ _ _ _ _ _ (_, [(2, 0), (0, a1), (0, a2), (0, a3), (2, (f76084 : Int))], [(0, v76295)], _, _, _)
              exact ev_ret rfl (by decide) (by decide) ⟨_, rfl, g76294, k76294, Or.inr ⟨(by unfold AV0; rw [ev76082]; omega), f76084, ef76084, by rw [tyf76084, show kdT 6 = 3 from rfl, show a2 = 2 by omega, ev76085, ev76086, ac_3_2]; (try rw [ev76295]); all_goals (first | rfl | omega | (unfold w32 at *; omega)), by rw [tyf76084, show kdT 6 = 3 from rfl, show a2 = 2 by omega, tr_3_2]; exact ⟨(((jw_eq e76294))), (((jw_ne e76294 (Or.inl (by decide))).trans (jw_eq e76293))), trivial⟩⟩⟩
            · refine ev_sw (t := 77) (by rw [if_pos (show _ ∨ _ by omega)]; rfl) f210_77 ?_
              refine ev_aload rfl ?_
              refine ev_iload_n rfl ?_
              refine ev_in (d := 6) (a := 0) (b := 0) (cd' := c87_0) (m := 2) (L0 := [(2, (f76084 : Int)), (0, a3)]) (jcall_F (A := [(0, a3)]) (S' := []) (r := f76084) (k := 87) rfl (g76263.flt qf76084) (g76263.ffam qf76084) (by rw [k76263.2.1, tyf76084]; rfl) (by decide) (Nat.le_of_ble_eq_true rfl)) (by decide) ml87 pp87 (Nat.le_of_ble_eq_true rfl) rfl (by decide) (by decide) ?_
              refine ev_aload_n rfl ?_
              refine g_fget0 g76263 qf76084 ft0_0 ?_
              refine ev_bipush ?_
              refine ev_in (d := 5) (a := 0) (b := 0) (cd' := c94_0) (m := 2) (L0 := [(2, 19), (0, 41)]) (jcall_v (A := [(0, 41)]) (S' := []) (r := 19) rfl (g76263.lt ad19) (g76263.tg ad19) (Nat.le_of_ble_eq_true rfl)) (by decide) ml94 pp94 (Nat.le_of_ble_eq_true rfl) rfl (by decide) (by decide) ?_
              refine ev_aload_n rfl ?_
              refine g_getv (r := 19) (v := 0) g76263 ad19 (by decide) ft7_5 ((jw_eq e76263)) ?_
              refine ev_bipush ?_
              refine ev_icmpge f94_19 (fun c76296 => absurd c76296 (by omega)) (fun c76296 => ?_)
              refine ev_aload_n rfl ?_
              refine g_getp (r := 19) (c := 22) g76263 ad19 (by decide) (by decide) rf19_2 ft7_2 ?_
              refine ev_aload_n rfl ?_
              refine g_getv (r := 19) (v := 0) g76263 ad19 (by decide) ft7_5 ((jw_eq e76263)) ?_
              refine ev_iload_n rfl ?_
              refine g_iast g76263 ad22 rt22 (fun _ => rfl) (by omega) (by omega) (by omega) (by omega) (fun h76297 e76297 g76297 => ?_)
              have k76297 := k76263.wr e76297 rfl
              refine ev_aload_n rfl ?_
              refine ev_dup (by decide) ?_
              refine g_getv (r := 19) (v := 0) g76297 ad19 (by decide) ft7_5 (((jw_ne e76297 (Or.inl (by decide))).trans (jw_eq e76263))) ?_
              refine ev_iconst ?_
              refine ev_iadd (r := 1) (by decide) ?_
              refine g_putf (r := 19) g76297 ad19 (by decide) ft7_5 (by decide) (fun e => absurd e nz7_5) rf19_5 (by decide) (by omega) (by omega) (fun h76298 e76298 g76298 => ?_)
              have k76298 := k76297.wr e76298 rfl
              refine ev_ret rfl (by decide) (by decide) ?_
              show jEv _ _ _ _ _ _ _ (_, [(2, (f76084 : Int)), (0, a3)], [], _, _, _)
              refine ev_aload_n rfl ?_
              refine ev_iload_n rfl ?_
              refine ev_iconst ?_
              refine g_iaddG (fun v76299 ev76299 lv76299 uv76299 => ?_)
              refine ev_in (d := 5) (a := 0) (b := 0) (cd' := c8_0) (m := 2) (L0 := [(2, (f76084 : Int)), (0, v76299)]) (jcall_u (A := [(0, v76299)]) (S' := []) (r := f76084) rfl (g76298.flt qf76084) (g76298.ffam qf76084) (Nat.le_of_ble_eq_true rfl)) (by decide) ml8 pp8 (Nat.le_of_ble_eq_true rfl) rfl (by decide) (by decide) ?_
              refine ev_aload_n rfl ?_
              refine g_fget0 g76298 qf76084 ft0_0 ?_
              refine ev_iconst ?_
              refine ev_in (d := 4) (a := 0) (b := 0) (cd' := c94_0) (m := 2) (L0 := [(2, 19), (0, 2)]) (jcall_v (A := [(0, 2)]) (S' := []) (r := 19) rfl (g76298.lt ad19) (g76298.tg ad19) (Nat.le_of_ble_eq_true rfl)) (by decide) ml94 pp94 (Nat.le_of_ble_eq_true rfl) rfl (by decide) (by decide) ?_
              refine ev_aload_n rfl ?_
              refine g_getv (r := 19) (v := 1) g76298 ad19 (by decide) ft7_5 ((jw_eq e76298)) ?_
              refine ev_bipush ?_
              refine ev_icmpge f94_19 (fun c76300 => absurd c76300 (by omega)) (fun c76300 => ?_)
              refine ev_aload_n rfl ?_
              refine g_getp (r := 19) (c := 22) g76298 ad19 (by decide) (by decide) rf19_2 ft7_2 ?_
              refine ev_aload_n rfl ?_
              refine g_getv (r := 19) (v := 1) g76298 ad19 (by decide) ft7_5 ((jw_eq e76298)) ?_
              refine ev_iload_n rfl ?_
              refine g_iast g76298 ad22 rt22 (fun _ => rfl) (by omega) (by omega) (by omega) (by omega) (fun h76301 e76301 g76301 => ?_)
              have k76301 := k76298.wr e76301 rfl
              refine ev_aload_n rfl ?_
              refine ev_dup (by decide) ?_
              refine g_getv (r := 19) (v := 1) g76301 ad19 (by decide) ft7_5 (((jw_ne e76301 (Or.inl (by decide))).trans (jw_eq e76298))) ?_
              refine ev_iconst ?_
              refine ev_iadd (r := 2) (by decide) ?_
              refine g_putf (r := 19) g76301 ad19 (by decide) ft7_5 (by decide) (fun e => absurd e nz7_5) rf19_5 (by decide) (by omega) (by omega) (fun h76302 e76302 g76302 => ?_)
              have k76302 := k76301.wr e76302 rfl
              refine ev_ret rfl (by decide) (by decide) ?_
              show jEv _ _ _ _ _ _ _ (_, [(2, (f76084 : Int)), (0, v76299)], [], _, _, _)
              refine ev_aload_n rfl ?_
              refine ev_iload_n rfl ?_
              refine ev_in (d := 4) (a := 0) (b := 0) (cd' := c86_0) (m := 2) (L0 := [(2, (f76084 : Int)), (0, v76299)]) (jcall_F (A := [(0, v76299)]) (S' := []) (r := f76084) (k := 86) rfl (g76302.flt qf76084) (g76302.ffam qf76084) (by rw [k76302.2.1, tyf76084]; rfl) (by decide) (Nat.le_of_ble_eq_true rfl)) (by decide) ml86 pp86 (Nat.le_of_ble_eq_true rfl) rfl (by decide) (by decide) ?_
              refine ev_aload_n rfl ?_
              refine g_fget0 g76302 qf76084 ft0_0 ?_
              refine ev_bipush ?_
              refine ev_in (d := 3) (a := 0) (b := 0) (cd' := c94_0) (m := 2) (L0 := [(2, 19), (0, 40)]) (jcall_v (A := [(0, 40)]) (S' := []) (r := 19) rfl (g76302.lt ad19) (g76302.tg ad19) (Nat.le_of_ble_eq_true rfl)) (by decide) ml94 pp94 (Nat.le_of_ble_eq_true rfl) rfl (by decide) (by decide) ?_
              refine ev_aload_n rfl ?_
              refine g_getv (r := 19) (v := 2) g76302 ad19 (by decide) ft7_5 ((jw_eq e76302)) ?_
              refine ev_bipush ?_
              refine ev_icmpge f94_19 (fun c76303 => absurd c76303 (by omega)) (fun c76303 => ?_)
              refine ev_aload_n rfl ?_
              refine g_getp (r := 19) (c := 22) g76302 ad19 (by decide) (by decide) rf19_2 ft7_2 ?_
              refine ev_aload_n rfl ?_
              refine g_getv (r := 19) (v := 2) g76302 ad19 (by decide) ft7_5 ((jw_eq e76302)) ?_
              refine ev_iload_n rfl ?_
              refine g_iast g76302 ad22 rt22 (fun _ => rfl) (by omega) (by omega) (by omega) (by omega) (fun h76304 e76304 g76304 => ?_)
              have k76304 := k76302.wr e76304 rfl
              refine ev_aload_n rfl ?_
              refine ev_dup (by decide) ?_
              refine g_getv (r := 19) (v := 2) g76304 ad19 (by decide) ft7_5 (((jw_ne e76304 (Or.inl (by decide))).trans (jw_eq e76302))) ?_
              refine ev_iconst ?_
              refine ev_iadd (r := 3) (by decide) ?_
              refine g_putf (r := 19) g76304 ad19 (by decide) ft7_5 (by decide) (fun e => absurd e nz7_5) rf19_5 (by decide) (by omega) (by omega) (fun h76305 e76305 g76305 => ?_)
              have k76305 := k76304.wr e76305 rfl
              refine ev_ret rfl (by decide) (by decide) ?_
              show jEv _ _ _ _ _ _ _ (_, [(2, (f76084 : Int)), (0, v76299)], [], _, _, _)
              refine ev_aload_n rfl ?_
              refine ev_iload_n rfl ?_
              refine ev_in (d := 3) (a := 0) (b := 0) (cd' := c12_0) (m := 2) (L0 := [(2, (f76084 : Int)), (0, v76299)]) (jcall_u (A := [(0, v76299)]) (S' := []) (r := f76084) rfl (g76305.flt qf76084) (g76305.ffam qf76084) (Nat.le_of_ble_eq_true rfl)) (by decide) ml12 pp12 (Nat.le_of_ble_eq_true rfl) rfl (by decide) (by decide) ?_
              refine ev_aload_n rfl ?_
              refine g_fget0 g76305 qf76084 ft0_0 ?_
              refine ev_bipush ?_
              refine ev_in (d := 2) (a := 0) (b := 0) (cd' := c94_0) (m := 2) (L0 := [(2, 19), (0, 20)]) (jcall_v (A := [(0, 20)]) (S' := []) (r := 19) rfl (g76305.lt ad19) (g76305.tg ad19) (Nat.le_of_ble_eq_true rfl)) (by decide) ml94 pp94 (Nat.le_of_ble_eq_true rfl) rfl (by decide) (by decide) ?_
              refine ev_aload_n rfl ?_
              refine g_getv (r := 19) (v := 3) g76305 ad19 (by decide) ft7_5 ((jw_eq e76305)) ?_
              refine ev_bipush ?_
              refine ev_icmpge f94_19 (fun c76306 => absurd c76306 (by omega)) (fun c76306 => ?_)
              refine ev_aload_n rfl ?_
              refine g_getp (r := 19) (c := 22) g76305 ad19 (by decide) (by decide) rf19_2 ft7_2 ?_
              refine ev_aload_n rfl ?_
              refine g_getv (r := 19) (v := 3) g76305 ad19 (by decide) ft7_5 ((jw_eq e76305)) ?_
              refine ev_iload_n rfl ?_
              refine g_iast g76305 ad22 rt22 (fun _ => rfl) (by omega) (by omega) (by omega) (by omega) (fun h76307 e76307 g76307 => ?_)
              have k76307 := k76305.wr e76307 rfl
              refine ev_aload_n rfl ?_
              refine ev_dup (by decide) ?_
              refine g_getv (r := 19) (v := 3) g76307 ad19 (by decide) ft7_5 (((jw_ne e76307 (Or.inl (by decide))).trans (jw_eq e76305))) ?_
              refine ev_iconst ?_
              refine ev_iadd (r := 4) (by decide) ?_
              refine g_putf (r := 19) g76307 ad19 (by decide) ft7_5 (by decide) (fun e => absurd e nz7_5) rf19_5 (by decide) (by omega) (by omega) (fun h76308 e76308 g76308 => ?_)
              have k76308 := k76307.wr e76308 rfl
              refine ev_ret rfl (by decide) (by decide) ?_
              show jEv _ _ _ _ _ _ _ (_, [(2, (f76084 : Int)), (0, v76299)], [], _, _, _)
              refine ev_aload_n rfl ?_
              refine ev_iload_n rfl ?_
              refine ev_in (d := 2) (a := 0) (b := 0) (cd' := c6_0) (m := 2) (L0 := [(2, (f76084 : Int)), (0, v76299)]) (jcall_u (A := [(0, v76299)]) (S' := []) (r := f76084) rfl (g76308.flt qf76084) (g76308.ffam qf76084) (Nat.le_of_ble_eq_true rfl)) (by decide) ml6 pp6 (Nat.le_of_ble_eq_true rfl) rfl (by decide) (by decide) ?_
              refine ev_aload_n rfl ?_
              refine g_fget0 g76308 qf76084 ft0_0 ?_
              refine ev_bipush ?_
              refine ev_in (d := 1) (a := 0) (b := 0) (cd' := c94_0) (m := 2) (L0 := [(2, 19), (0, 10)]) (jcall_v (A := [(0, 10)]) (S' := []) (r := 19) rfl (g76308.lt ad19) (g76308.tg ad19) (Nat.le_of_ble_eq_true rfl)) (by decide) ml94 pp94 (Nat.le_of_ble_eq_true rfl) rfl (by decide) (by decide) ?_
              refine ev_aload_n rfl ?_
              refine g_getv (r := 19) (v := 4) g76308 ad19 (by decide) ft7_5 ((jw_eq e76308)) ?_
              refine ev_bipush ?_
              refine ev_icmpge f94_19 (fun c76309 => absurd c76309 (by omega)) (fun c76309 => ?_)
              refine ev_aload_n rfl ?_
              refine g_getp (r := 19) (c := 22) g76308 ad19 (by decide) (by decide) rf19_2 ft7_2 ?_
              refine ev_aload_n rfl ?_
              refine g_getv (r := 19) (v := 4) g76308 ad19 (by decide) ft7_5 ((jw_eq e76308)) ?_
              refine ev_iload_n rfl ?_
              refine g_iast g76308 ad22 rt22 (fun _ => rfl) (by omega) (by omega) (by omega) (by omega) (fun h76310 e76310 g76310 => ?_)
              have k76310 := k76308.wr e76310 rfl
              refine ev_aload_n rfl ?_
              refine ev_dup (by decide) ?_
              refine g_getv (r := 19) (v := 4) g76310 ad19 (by decide) ft7_5 (((jw_ne e76310 (Or.inl (by decide))).trans (jw_eq e76308))) ?_
              refine ev_iconst ?_
              refine ev_iadd (r := 5) (by decide) ?_
              refine g_putf (r := 19) g76310 ad19 (by decide) ft7_5 (by decide) (fun e => absurd e nz7_5) rf19_5 (by decide) (by omega) (by omega) (fun h76311 e76311 g76311 => ?_)
              have k76311 := k76310.wr e76311 rfl
              refine ev_ret rfl (by decide) (by decide) ?_
              show jEv _ _ _ _ _ _ _ (_, [(2, (f76084 : Int)), (0, v76299)], [], _, _, _)
              refine ev_aload_n rfl ?_
              refine ev_iload_n rfl ?_
              refine ev_in (d := 1) (a := 0) (b := 0) (cd' := c5_0) (m := 2) (L0 := [(2, (f76084 : Int)), (0, v76299)]) (jcall_F (A := [(0, v76299)]) (S' := []) (r := f76084) (k := 5) rfl (g76311.flt qf76084) (g76311.ffam qf76084) (by rw [k76311.2.1, tyf76084]; rfl) (by decide) (Nat.le_of_ble_eq_true rfl)) (by decide) ml5 pp5 (Nat.le_of_ble_eq_true rfl) rfl (by decide) (by decide) ?_
              refine ev_aload_n rfl ?_
              refine g_fget0 g76311 qf76084 ft0_0 ?_
              refine ev_iconst ?_
              refine ev_in (d := 0) (a := 0) (b := 0) (cd' := c94_0) (m := 2) (L0 := [(2, 19), (0, 1)]) (jcall_v (A := [(0, 1)]) (S' := []) (r := 19) rfl (g76311.lt ad19) (g76311.tg ad19) (Nat.le_of_ble_eq_true rfl)) (by decide) ml94 pp94 (Nat.le_of_ble_eq_true rfl) rfl (by decide) (by decide) ?_
              refine ev_aload_n rfl ?_
              refine g_getv (r := 19) (v := 5) g76311 ad19 (by decide) ft7_5 ((jw_eq e76311)) ?_
              refine ev_bipush ?_
              refine ev_icmpge f94_19 (fun c76312 => absurd c76312 (by omega)) (fun c76312 => ?_)
              refine ev_aload_n rfl ?_
              refine g_getp (r := 19) (c := 22) g76311 ad19 (by decide) (by decide) rf19_2 ft7_2 ?_
              refine ev_aload_n rfl ?_
              refine g_getv (r := 19) (v := 5) g76311 ad19 (by decide) ft7_5 ((jw_eq e76311)) ?_
              refine ev_iload_n rfl ?_
              refine g_iast g76311 ad22 rt22 (fun _ => rfl) (by omega) (by omega) (by omega) (by omega) (fun h76313 e76313 g76313 => ?_)
              have k76313 := k76311.wr e76313 rfl
              refine ev_aload_n rfl ?_
              refine ev_dup (by decide) ?_
              refine g_getv (r := 19) (v := 5) g76313 ad19 (by decide) ft7_5 (((jw_ne e76313 (Or.inl (by decide))).trans (jw_eq e76311))) ?_
              refine ev_iconst ?_
              refine ev_iadd (r := 6) (by decide) ?_
              refine g_putf (r := 19) g76313 ad19 (by decide) ft7_5 (by decide) (fun e => absurd e nz7_5) rf19_5 (by decide) (by omega) (by omega) (fun h76314 e76314 g76314 => ?_)
              have k76314 := k76313.wr e76314 rfl
              refine ev_ret rfl (by decide) (by decide) ?_
              show jEv _ _ _ _ _ _ _ (_, [(2, (f76084 : Int)), (0, v76299)], [], _, _, _)
              refine ev_iload_n rfl ?_
              refine ev_aload_n rfl ?_
              refine ev_getf (g76314.flt qf76084) (g76314.ffam qf76084) ft0_1 (((jw_ne e76314 (Or.inl (ne83 bf76084 (by decide)))).trans ((jw_ne e76313 (Or.inl (ne83 bf76084 (by decide)))).trans ((jw_ne e76311 (Or.inl (ne83 bf76084 (by decide)))).trans ((jw_ne e76310 (Or.inl (ne83 bf76084 (by decide)))).trans ((jw_ne e76308 (Or.inl (ne83 bf76084 (by decide)))).trans ((jw_ne e76307 (Or.inl (ne83 bf76084 (by decide)))).trans ((jw_ne e76305 (Or.inl (ne83 bf76084 (by decide)))).trans ((jw_ne e76304 (Or.inl (ne83 bf76084 (by decide)))).trans ((jw_ne e76302 (Or.inl (ne83 bf76084 (by decide)))).trans ((jw_ne e76301 (Or.inl (ne83 bf76084 (by decide)))).trans ((jw_ne e76298 (Or.inl (ne83 bf76084 (by decide)))).trans ((jw_ne e76297 (Or.inl (ne83 bf76084 (by decide)))).trans ((jw_ne e76263 (Or.inl (ne83 bf76084 (by decide)))).trans ev76085)))))))))))))) ?_
              refine g_iaddG (fun v76315 ev76315 lv76315 uv76315 => ?_)
              refine ev_ret rfl (by decide) (by decide) ?_
              show jEv _ _ _ _ _ _ _ (_, [(2, (f76084 : Int)), (0, v76299)], [(0, v76315)], _, _, _)
              refine ev_iconst ?_
              refine g_imulG (fun v76316 ev76316 lv76316 uv76316 => ?_)
              refine ev_ret rfl (by decide) (by decide) ?_
              show jEv _ _ _ _ _ _ _ (_, [(2, (f76084 : Int)), (0, v76299)], [(0, v76316)], _, _, _)
              refine ev_iconst ?_
              refine g_isubG (fun v76317 ev76317 lv76317 uv76317 => ?_)
              refine ev_ret rfl (by decide) (by decide) ?_
              show jEv _ _ _ _ _ _ _ (_, [(2, (f76084 : Int)), (0, v76299)], [(0, v76317)], _, _, _)
              refine ev_aload_n rfl ?_
              refine ev_iconst ?_
              refine ev_in (d := 3) (a := 0) (b := 0) (cd' := c7_0) (m := 2) (L0 := [(2, (f76084 : Int)), (0, 2)]) (jcall_F (A := [(0, 2)]) (S' := [(0, v76317)]) (r := f76084) (k := 7) rfl (g76314.flt qf76084) (g76314.ffam qf76084) (by rw [k76314.2.1, tyf76084]; rfl) (by decide) (Nat.le_of_ble_eq_true rfl)) (by decide) ml7 pp7 (Nat.le_of_ble_eq_true rfl) rfl (by decide) (by decide) ?_
              refine ev_aload_n rfl ?_
              refine g_fget0 g76314 qf76084 ft0_0 ?_
              refine ev_bipush ?_
              refine ev_in (d := 2) (a := 0) (b := 0) (cd' := c94_0) (m := 2) (L0 := [(2, 19), (0, 11)]) (jcall_v (A := [(0, 11)]) (S' := []) (r := 19) rfl (g76314.lt ad19) (g76314.tg ad19) (Nat.le_of_ble_eq_true rfl)) (by decide) ml94 pp94 (Nat.le_of_ble_eq_true rfl) rfl (by decide) (by decide) ?_
              refine ev_aload_n rfl ?_
              refine g_getv (r := 19) (v := 6) g76314 ad19 (by decide) ft7_5 ((jw_eq e76314)) ?_
              refine ev_bipush ?_
              refine ev_icmpge f94_19 (fun c76318 => absurd c76318 (by omega)) (fun c76318 => ?_)
              refine ev_aload_n rfl ?_
              refine g_getp (r := 19) (c := 22) g76314 ad19 (by decide) (by decide) rf19_2 ft7_2 ?_
              refine ev_aload_n rfl ?_
              refine g_getv (r := 19) (v := 6) g76314 ad19 (by decide) ft7_5 ((jw_eq e76314)) ?_
              refine ev_iload_n rfl ?_
              refine g_iast g76314 ad22 rt22 (fun _ => rfl) (by omega) (by omega) (by omega) (by omega) (fun h76319 e76319 g76319 => ?_)
              have k76319 := k76314.wr e76319 rfl
              refine ev_aload_n rfl ?_
              refine ev_dup (by decide) ?_
              refine g_getv (r := 19) (v := 6) g76319 ad19 (by decide) ft7_5 (((jw_ne e76319 (Or.inl (by decide))).trans (jw_eq e76314))) ?_
              refine ev_iconst ?_
              refine ev_iadd (r := 7) (by decide) ?_
              refine g_putf (r := 19) g76319 ad19 (by decide) ft7_5 (by decide) (fun e => absurd e nz7_5) rf19_5 (by decide) (by omega) (by omega) (fun h76320 e76320 g76320 => ?_)
              have k76320 := k76319.wr e76320 rfl
              refine ev_ret rfl (by decide) (by decide) ?_
              show jEv _ _ _ _ _ _ _ (_, [(2, (f76084 : Int)), (0, 2)], [], _, _, _)
              refine ev_iload_n rfl ?_
              refine ev_aload_n rfl ?_
              refine ev_getf (g76320.flt qf76084) (g76320.ffam qf76084) ft0_1 (((jw_ne e76320 (Or.inl (ne83 bf76084 (by decide)))).trans ((jw_ne e76319 (Or.inl (ne83 bf76084 (by decide)))).trans ((jw_ne e76314 (Or.inl (ne83 bf76084 (by decide)))).trans ((jw_ne e76313 (Or.inl (ne83 bf76084 (by decide)))).trans ((jw_ne e76311 (Or.inl (ne83 bf76084 (by decide)))).trans ((jw_ne e76310 (Or.inl (ne83 bf76084 (by decide)))).trans ((jw_ne e76308 (Or.inl (ne83 bf76084 (by decide)))).trans ((jw_ne e76307 (Or.inl (ne83 bf76084 (by decide)))).trans ((jw_ne e76305 (Or.inl (ne83 bf76084 (by decide)))).trans ((jw_ne e76304 (Or.inl (ne83 bf76084 (by decide)))).trans ((jw_ne e76302 (Or.inl (ne83 bf76084 (by decide)))).trans ((jw_ne e76301 (Or.inl (ne83 bf76084 (by decide)))).trans ((jw_ne e76298 (Or.inl (ne83 bf76084 (by decide)))).trans ((jw_ne e76297 (Or.inl (ne83 bf76084 (by decide)))).trans ((jw_ne e76263 (Or.inl (ne83 bf76084 (by decide)))).trans ev76085)))))))))))))))) ?_
              refine g_ixorB (k := 5) (hi := 31) (by decide) (by decide) (by omega) (by omega) (by omega) (by omega) (fun v76321 ev76321 lv76321 uv76321 => ?_)
              refine ev_ret rfl (by decide) (by decide) ?_
              show jEv _ _ _ _ _ _ _ (_, [(2, (f76084 : Int)), (0, v76299)], [(0, v76321), (0, v76317)], _, _, _)
              refine g_iaddG (fun v76322 ev76322 lv76322 uv76322 => ?_)
              refine ev_ret rfl (by decide) (by decide) ?_
              show jEv _ _ _ _ _ _ _ (_, [(2, (f76084 : Int)), (0, v76299)], [(0, v76322)], _, _, _)
              refine ev_aload_n rfl ?_
              refine ev_iconst ?_
              refine ev_in (d := 4) (a := 0) (b := 0) (cd' := c7_0) (m := 2) (L0 := [(2, (f76084 : Int)), (0, 1)]) (jcall_F (A := [(0, 1)]) (S' := [(0, v76322)]) (r := f76084) (k := 7) rfl (g76320.flt qf76084) (g76320.ffam qf76084) (by rw [k76320.2.1, tyf76084]; rfl) (by decide) (Nat.le_of_ble_eq_true rfl)) (by decide) ml7 pp7 (Nat.le_of_ble_eq_true rfl) rfl (by decide) (by decide) ?_
              refine ev_aload_n rfl ?_
              refine g_fget0 g76320 qf76084 ft0_0 ?_
              refine ev_bipush ?_
              refine ev_in (d := 3) (a := 0) (b := 0) (cd' := c94_0) (m := 2) (L0 := [(2, 19), (0, 11)]) (jcall_v (A := [(0, 11)]) (S' := []) (r := 19) rfl (g76320.lt ad19) (g76320.tg ad19) (Nat.le_of_ble_eq_true rfl)) (by decide) ml94 pp94 (Nat.le_of_ble_eq_true rfl) rfl (by decide) (by decide) ?_
              refine ev_aload_n rfl ?_
              refine g_getv (r := 19) (v := 7) g76320 ad19 (by decide) ft7_5 ((jw_eq e76320)) ?_
              refine ev_bipush ?_
              refine ev_icmpge f94_19 (fun c76323 => absurd c76323 (by omega)) (fun c76323 => ?_)
              refine ev_aload_n rfl ?_
              refine g_getp (r := 19) (c := 22) g76320 ad19 (by decide) (by decide) rf19_2 ft7_2 ?_
              refine ev_aload_n rfl ?_
              refine g_getv (r := 19) (v := 7) g76320 ad19 (by decide) ft7_5 ((jw_eq e76320)) ?_
              refine ev_iload_n rfl ?_
              refine g_iast g76320 ad22 rt22 (fun _ => rfl) (by omega) (by omega) (by omega) (by omega) (fun h76324 e76324 g76324 => ?_)
              have k76324 := k76320.wr e76324 rfl
              refine ev_aload_n rfl ?_
              refine ev_dup (by decide) ?_
              refine g_getv (r := 19) (v := 7) g76324 ad19 (by decide) ft7_5 (((jw_ne e76324 (Or.inl (by decide))).trans (jw_eq e76320))) ?_
              refine ev_iconst ?_
              refine ev_iadd (r := 8) (by decide) ?_
              refine g_putf (r := 19) g76324 ad19 (by decide) ft7_5 (by decide) (fun e => absurd e nz7_5) rf19_5 (by decide) (by omega) (by omega) (fun h76325 e76325 g76325 => ?_)
              have k76325 := k76324.wr e76325 rfl
              refine ev_ret rfl (by decide) (by decide) ?_
              show jEv _ _ _ _ _ _ _ (_, [(2, (f76084 : Int)), (0, 1)], [], _, _, _)
              refine ev_iload_n rfl ?_
              refine ev_aload_n rfl ?_
              refine ev_getf (g76325.flt qf76084) (g76325.ffam qf76084) ft0_1 (((jw_ne e76325 (Or.inl (ne83 bf76084 (by decide)))).trans ((jw_ne e76324 (Or.inl (ne83 bf76084 (by decide)))).trans ((jw_ne e76320 (Or.inl (ne83 bf76084 (by decide)))).trans ((jw_ne e76319 (Or.inl (ne83 bf76084 (by decide)))).trans ((jw_ne e76314 (Or.inl (ne83 bf76084 (by decide)))).trans ((jw_ne e76313 (Or.inl (ne83 bf76084 (by decide)))).trans ((jw_ne e76311 (Or.inl (ne83 bf76084 (by decide)))).trans ((jw_ne e76310 (Or.inl (ne83 bf76084 (by decide)))).trans ((jw_ne e76308 (Or.inl (ne83 bf76084 (by decide)))).trans ((jw_ne e76307 (Or.inl (ne83 bf76084 (by decide)))).trans ((jw_ne e76305 (Or.inl (ne83 bf76084 (by decide)))).trans ((jw_ne e76304 (Or.inl (ne83 bf76084 (by decide)))).trans ((jw_ne e76302 (Or.inl (ne83 bf76084 (by decide)))).trans ((jw_ne e76301 (Or.inl (ne83 bf76084 (by decide)))).trans ((jw_ne e76298 (Or.inl (ne83 bf76084 (by decide)))).trans ((jw_ne e76297 (Or.inl (ne83 bf76084 (by decide)))).trans ((jw_ne e76263 (Or.inl (ne83 bf76084 (by decide)))).trans ev76085)))))))))))))))))) ?_
              refine g_ixorB (k := 5) (hi := 31) (by decide) (by decide) (by omega) (by omega) (by omega) (by omega) (fun v76326 ev76326 lv76326 uv76326 => ?_)
              refine ev_ret rfl (by decide) (by decide) ?_
              show jEv _ _ _ _ _ _ _ (_, [(2, (f76084 : Int)), (0, v76299)], [(0, v76326), (0, v76322)], _, _, _)
              refine g_isubG (fun v76327 ev76327 lv76327 uv76327 => ?_)
              refine ev_ret rfl (by decide) (by decide) ?_
              show jEv _ _ _ _ _ _ _ (_, [(2, (f76084 : Int)), (0, a3)], [(0, v76327)], _, _, _)
              refine ev_ret rfl (by decide) (by decide) ?_
              show jEv _ _ _ _ _ _ _ (_, [(2, 0), (0, a1), (0, a2), (0, a3), (2, (f76084 : Int))], [(0, v76327)], _, _, _)
              exact ev_ret rfl (by decide) (by decide) ⟨_, rfl, g76325, k76325, Or.inr ⟨(by unfold AV0; rw [ev76082]; omega), f76084, ef76084, by rw [tyf76084, show kdT 6 = 3 from rfl, show a2 = 3 by omega, ev76085, ev76086, ac_3_3]; (try rw [ev76299]); (try rw [ev76315]); (try rw [ev76316]); (try rw [ev76317]); (try rw [ev76321]); (try rw [ev76322]); (try rw [ev76326]); (try rw [ev76327]); all_goals (first | rfl | omega | (unfold w32 at *; omega)), by rw [tyf76084, show kdT 6 = 3 from rfl, show a2 = 3 by omega, tr_3_3]; exact ⟨(((jw_eq e76325))), (((jw_ne e76325 (Or.inl (by decide))).trans ((jw_ne e76324 (Or.inr (by decide))).trans ((jw_ne e76320 (Or.inl (by decide))).trans ((jw_ne e76319 (Or.inr (by decide))).trans ((jw_ne e76314 (Or.inl (by decide))).trans ((jw_ne e76313 (Or.inr (by decide))).trans ((jw_ne e76311 (Or.inl (by decide))).trans ((jw_ne e76310 (Or.inr (by decide))).trans ((jw_ne e76308 (Or.inl (by decide))).trans ((jw_ne e76307 (Or.inr (by decide))).trans ((jw_ne e76305 (Or.inl (by decide))).trans ((jw_ne e76304 (Or.inr (by decide))).trans ((jw_ne e76302 (Or.inl (by decide))).trans ((jw_ne e76301 (Or.inr (by decide))).trans ((jw_ne e76298 (Or.inl (by decide))).trans (jw_eq e76297))))))))))))))))), (((jw_ne e76325 (Or.inl (by decide))).trans ((jw_ne e76324 (Or.inr (by decide))).trans ((jw_ne e76320 (Or.inl (by decide))).trans ((jw_ne e76319 (Or.inr (by decide))).trans ((jw_ne e76314 (Or.inl (by decide))).trans ((jw_ne e76313 (Or.inr (by decide))).trans ((jw_ne e76311 (Or.inl (by decide))).trans ((jw_ne e76310 (Or.inr (by decide))).trans ((jw_ne e76308 (Or.inl (by decide))).trans ((jw_ne e76307 (Or.inr (by decide))).trans ((jw_ne e76305 (Or.inl (by decide))).trans ((jw_ne e76304 (Or.inr (by decide))).trans ((jw_ne e76302 (Or.inl (by decide))).trans (jw_eq e76301))))))))))))))), (((jw_ne e76325 (Or.inl (by decide))).trans ((jw_ne e76324 (Or.inr (by decide))).trans ((jw_ne e76320 (Or.inl (by decide))).trans ((jw_ne e76319 (Or.inr (by decide))).trans ((jw_ne e76314 (Or.inl (by decide))).trans ((jw_ne e76313 (Or.inr (by decide))).trans ((jw_ne e76311 (Or.inl (by decide))).trans ((jw_ne e76310 (Or.inr (by decide))).trans ((jw_ne e76308 (Or.inl (by decide))).trans ((jw_ne e76307 (Or.inr (by decide))).trans ((jw_ne e76305 (Or.inl (by decide))).trans (jw_eq e76304))))))))))))), (((jw_ne e76325 (Or.inl (by decide))).trans ((jw_ne e76324 (Or.inr (by decide))).trans ((jw_ne e76320 (Or.inl (by decide))).trans ((jw_ne e76319 (Or.inr (by decide))).trans ((jw_ne e76314 (Or.inl (by decide))).trans ((jw_ne e76313 (Or.inr (by decide))).trans ((jw_ne e76311 (Or.inl (by decide))).trans ((jw_ne e76310 (Or.inr (by decide))).trans ((jw_ne e76308 (Or.inl (by decide))).trans (jw_eq e76307))))))))))), (((jw_ne e76325 (Or.inl (by decide))).trans ((jw_ne e76324 (Or.inr (by decide))).trans ((jw_ne e76320 (Or.inl (by decide))).trans ((jw_ne e76319 (Or.inr (by decide))).trans ((jw_ne e76314 (Or.inl (by decide))).trans ((jw_ne e76313 (Or.inr (by decide))).trans ((jw_ne e76311 (Or.inl (by decide))).trans (jw_eq e76310))))))))), (((jw_ne e76325 (Or.inl (by decide))).trans ((jw_ne e76324 (Or.inr (by decide))).trans ((jw_ne e76320 (Or.inl (by decide))).trans ((jw_ne e76319 (Or.inr (by decide))).trans ((jw_ne e76314 (Or.inl (by decide))).trans (jw_eq e76313))))))), (((jw_ne e76325 (Or.inl (by decide))).trans ((jw_ne e76324 (Or.inr (by decide))).trans ((jw_ne e76320 (Or.inl (by decide))).trans (jw_eq e76319))))), (((jw_ne e76325 (Or.inl (by decide))).trans (jw_eq e76324))), trivial⟩⟩⟩
          · refine ev_iconst ?_
            exact ev_ret rfl (by decide) (by decide) ⟨_, rfl, g76263, k76263, Or.inl ⟨(by unfold AV0; rw [ev76082]; omega), rfl, ((jw_eq e76263))⟩⟩
      · refine ev_ret rfl (by decide) (by decide) ?_
        show jEv _ _ _ _ _ _ _ (_, [(2, 0), (0, a1), (0, a2), (0, a3), (9, 0)], [(2, (f76084 : Int))], _, _, _)
        refine ev_astore (L' := [(2, 0), (0, a1), (0, a2), (0, a3), (2, (f76084 : Int))]) (Nat.le_of_ble_eq_true rfl) rfl ?_
        refine ev_aload_n rfl ?_
        refine g_getp (r := 0) (c := 19) g ad0 (by decide) (by decide) rf0_4 ft11_4 ?_
        refine ev_in (d := 6) (a := 0) (b := 0) (cd' := c93_0) (m := 1) (L0 := [(2, 19)]) (jcall_v (A := []) (S' := []) (r := 19) rfl (g.lt ad19) (g.tg ad19) (Nat.le_of_ble_eq_true rfl)) (by decide) ml93 pp93 (Nat.le_of_ble_eq_true rfl) rfl (by decide) (by decide) ?_
        refine ev_aload_n rfl ?_
        refine ev_iconst ?_
        refine g_putf (r := 19) g ad19 (by decide) ft7_5 (by decide) (fun e => absurd e nz7_5) rf19_5 (by decide) (by omega) (by omega) (fun h76328 e76328 g76328 => ?_)
        have k76328 := k0.wr e76328 rfl
        refine ev_ret rfl (by decide) (by decide) ?_
        show jEv _ _ _ _ _ _ _ (_, [(2, 0), (0, a1), (0, a2), (0, a3), (2, (f76084 : Int))], [], _, _, _)
        refine ev_aload rfl ?_
        refine ev_ifnull f210_28 (fun c76329 => absurd c76329 (by omega)) (fun c76329 => ?_)
        refine ev_iload_n rfl ?_
        refine ev_iflt f210_28 (fun c76330 => ?_) (fun c76330 => ?_)
        · refine ev_iconst ?_
          exact ev_ret rfl (by decide) (by decide) ⟨_, rfl, g76328, k76328, Or.inl ⟨(by unfold AV0; rw [ev76082]; omega), rfl, ((jw_eq e76328))⟩⟩
        · refine ev_iload_n rfl ?_
          refine ev_iconst ?_
          refine ev_icmple f210_30 (fun c76331 => ?_) (fun c76331 => ?_)
          · refine ev_iload_n rfl ?_
            rcases (show a2 = 0 ∨ a2 = 1 ∨ a2 = 2 ∨ 2 < a2 by omega) with c76332 | c76332 | c76332 | c76332
            · refine ev_sw (t := 56) (by rw [c76332]; decide) f210_56 ?_
              refine ev_aload rfl ?_
              refine ev_iload_n rfl ?_
              refine ev_in (d := 6) (a := 0) (b := 0) (cd' := c100_0) (m := 2) (L0 := [(2, (f76084 : Int)), (0, a3)]) (jcall_F (A := [(0, a3)]) (S' := []) (r := f76084) (k := 100) rfl (g76328.flt qf76084) (g76328.ffam qf76084) (by rw [k76328.2.1, tyf76084]; rfl) (by decide) (Nat.le_of_ble_eq_true rfl)) (by decide) ml100 pp100 (Nat.le_of_ble_eq_true rfl) rfl (by decide) (by decide) ?_
              refine ev_aload_n rfl ?_
              refine g_fget0 g76328 qf76084 ft0_0 ?_
              refine ev_bipush ?_
              refine ev_in (d := 5) (a := 0) (b := 0) (cd' := c94_0) (m := 2) (L0 := [(2, 19), (0, 60)]) (jcall_v (A := [(0, 60)]) (S' := []) (r := 19) rfl (g76328.lt ad19) (g76328.tg ad19) (Nat.le_of_ble_eq_true rfl)) (by decide) ml94 pp94 (Nat.le_of_ble_eq_true rfl) rfl (by decide) (by decide) ?_
              refine ev_aload_n rfl ?_
              refine g_getv (r := 19) (v := 0) g76328 ad19 (by decide) ft7_5 ((jw_eq e76328)) ?_
              refine ev_bipush ?_
              refine ev_icmpge f94_19 (fun c76333 => absurd c76333 (by omega)) (fun c76333 => ?_)
              refine ev_aload_n rfl ?_
              refine g_getp (r := 19) (c := 22) g76328 ad19 (by decide) (by decide) rf19_2 ft7_2 ?_
              refine ev_aload_n rfl ?_
              refine g_getv (r := 19) (v := 0) g76328 ad19 (by decide) ft7_5 ((jw_eq e76328)) ?_
              refine ev_iload_n rfl ?_
              refine g_iast g76328 ad22 rt22 (fun _ => rfl) (by omega) (by omega) (by omega) (by omega) (fun h76334 e76334 g76334 => ?_)
              have k76334 := k76328.wr e76334 rfl
              refine ev_aload_n rfl ?_
              refine ev_dup (by decide) ?_
              refine g_getv (r := 19) (v := 0) g76334 ad19 (by decide) ft7_5 (((jw_ne e76334 (Or.inl (by decide))).trans (jw_eq e76328))) ?_
              refine ev_iconst ?_
              refine ev_iadd (r := 1) (by decide) ?_
              refine g_putf (r := 19) g76334 ad19 (by decide) ft7_5 (by decide) (fun e => absurd e nz7_5) rf19_5 (by decide) (by omega) (by omega) (fun h76335 e76335 g76335 => ?_)
              have k76335 := k76334.wr e76335 rfl
              refine ev_ret rfl (by decide) (by decide) ?_
              show jEv _ _ _ _ _ _ _ (_, [(2, (f76084 : Int)), (0, a3)], [], _, _, _)
              refine ev_aload_n rfl ?_
              refine ev_iload_n rfl ?_
              refine ev_in (d := 5) (a := 0) (b := 0) (cd' := c20_0) (m := 2) (L0 := [(2, (f76084 : Int)), (0, a3)]) (jcall_u (A := [(0, a3)]) (S' := []) (r := f76084) rfl (g76335.flt qf76084) (g76335.ffam qf76084) (Nat.le_of_ble_eq_true rfl)) (by decide) ml20 pp20 (Nat.le_of_ble_eq_true rfl) rfl (by decide) (by decide) ?_
              refine ev_aload_n rfl ?_
              refine g_fget0 g76335 qf76084 ft0_0 ?_
              refine ev_bipush ?_
              refine ev_in (d := 4) (a := 0) (b := 0) (cd' := c94_0) (m := 2) (L0 := [(2, 19), (0, 50)]) (jcall_v (A := [(0, 50)]) (S' := []) (r := 19) rfl (g76335.lt ad19) (g76335.tg ad19) (Nat.le_of_ble_eq_true rfl)) (by decide) ml94 pp94 (Nat.le_of_ble_eq_true rfl) rfl (by decide) (by decide) ?_
              refine ev_aload_n rfl ?_
              refine g_getv (r := 19) (v := 1) g76335 ad19 (by decide) ft7_5 ((jw_eq e76335)) ?_
              refine ev_bipush ?_
              refine ev_icmpge f94_19 (fun c76336 => absurd c76336 (by omega)) (fun c76336 => ?_)
              refine ev_aload_n rfl ?_
              refine g_getp (r := 19) (c := 22) g76335 ad19 (by decide) (by decide) rf19_2 ft7_2 ?_
              refine ev_aload_n rfl ?_
              refine g_getv (r := 19) (v := 1) g76335 ad19 (by decide) ft7_5 ((jw_eq e76335)) ?_
              refine ev_iload_n rfl ?_
              refine g_iast g76335 ad22 rt22 (fun _ => rfl) (by omega) (by omega) (by omega) (by omega) (fun h76337 e76337 g76337 => ?_)
              have k76337 := k76335.wr e76337 rfl
              refine ev_aload_n rfl ?_
              refine ev_dup (by decide) ?_
              refine g_getv (r := 19) (v := 1) g76337 ad19 (by decide) ft7_5 (((jw_ne e76337 (Or.inl (by decide))).trans (jw_eq e76335))) ?_
              refine ev_iconst ?_
              refine ev_iadd (r := 2) (by decide) ?_
              refine g_putf (r := 19) g76337 ad19 (by decide) ft7_5 (by decide) (fun e => absurd e nz7_5) rf19_5 (by decide) (by omega) (by omega) (fun h76338 e76338 g76338 => ?_)
              have k76338 := k76337.wr e76338 rfl
              refine ev_ret rfl (by decide) (by decide) ?_
              show jEv _ _ _ _ _ _ _ (_, [(2, (f76084 : Int)), (0, a3)], [], _, _, _)
              refine ev_aload_n rfl ?_
              refine ev_iload_n rfl ?_
              refine ev_in (d := 4) (a := 0) (b := 0) (cd' := c5_0) (m := 2) (L0 := [(2, (f76084 : Int)), (0, a3)]) (jcall_u (A := [(0, a3)]) (S' := []) (r := f76084) rfl (g76338.flt qf76084) (g76338.ffam qf76084) (Nat.le_of_ble_eq_true rfl)) (by decide) ml5 pp5 (Nat.le_of_ble_eq_true rfl) rfl (by decide) (by decide) ?_
              refine ev_aload_n rfl ?_
              refine g_fget0 g76338 qf76084 ft0_0 ?_
              refine ev_iconst ?_
              refine ev_in (d := 3) (a := 0) (b := 0) (cd' := c94_0) (m := 2) (L0 := [(2, 19), (0, 1)]) (jcall_v (A := [(0, 1)]) (S' := []) (r := 19) rfl (g76338.lt ad19) (g76338.tg ad19) (Nat.le_of_ble_eq_true rfl)) (by decide) ml94 pp94 (Nat.le_of_ble_eq_true rfl) rfl (by decide) (by decide) ?_
              refine ev_aload_n rfl ?_
              refine g_getv (r := 19) (v := 2) g76338 ad19 (by decide) ft7_5 ((jw_eq e76338)) ?_
              refine ev_bipush ?_
              refine ev_icmpge f94_19 (fun c76339 => absurd c76339 (by omega)) (fun c76339 => ?_)
              refine ev_aload_n rfl ?_
              refine g_getp (r := 19) (c := 22) g76338 ad19 (by decide) (by decide) rf19_2 ft7_2 ?_
              refine ev_aload_n rfl ?_
              refine g_getv (r := 19) (v := 2) g76338 ad19 (by decide) ft7_5 ((jw_eq e76338)) ?_
              refine ev_iload_n rfl ?_
              refine g_iast g76338 ad22 rt22 (fun _ => rfl) (by omega) (by omega) (by omega) (by omega) (fun h76340 e76340 g76340 => ?_)
              have k76340 := k76338.wr e76340 rfl
              refine ev_aload_n rfl ?_
              refine ev_dup (by decide) ?_
              refine g_getv (r := 19) (v := 2) g76340 ad19 (by decide) ft7_5 (((jw_ne e76340 (Or.inl (by decide))).trans (jw_eq e76338))) ?_
              refine ev_iconst ?_
              refine ev_iadd (r := 3) (by decide) ?_
              refine g_putf (r := 19) g76340 ad19 (by decide) ft7_5 (by decide) (fun e => absurd e nz7_5) rf19_5 (by decide) (by omega) (by omega) (fun h76341 e76341 g76341 => ?_)
              have k76341 := k76340.wr e76341 rfl
              refine ev_ret rfl (by decide) (by decide) ?_
              show jEv _ _ _ _ _ _ _ (_, [(2, (f76084 : Int)), (0, a3)], [], _, _, _)
              refine ev_iload_n rfl ?_
              refine ev_aload_n rfl ?_
              refine ev_getf (g76341.flt qf76084) (g76341.ffam qf76084) ft0_1 (((jw_ne e76341 (Or.inl (ne83 bf76084 (by decide)))).trans ((jw_ne e76340 (Or.inl (ne83 bf76084 (by decide)))).trans ((jw_ne e76338 (Or.inl (ne83 bf76084 (by decide)))).trans ((jw_ne e76337 (Or.inl (ne83 bf76084 (by decide)))).trans ((jw_ne e76335 (Or.inl (ne83 bf76084 (by decide)))).trans ((jw_ne e76334 (Or.inl (ne83 bf76084 (by decide)))).trans ((jw_ne e76328 (Or.inl (ne83 bf76084 (by decide)))).trans ev76085)))))))) ?_
              refine g_iaddG (fun v76342 ev76342 lv76342 uv76342 => ?_)
              refine ev_ret rfl (by decide) (by decide) ?_
              show jEv _ _ _ _ _ _ _ (_, [(2, (f76084 : Int)), (0, a3)], [(0, v76342)], _, _, _)
              refine ev_aload_n rfl ?_
              refine ev_getf (g76341.flt qf76084) (g76341.ffam qf76084) ft0_2 (((jw_ne e76341 (Or.inl (ne83 bf76084 (by decide)))).trans ((jw_ne e76340 (Or.inl (ne83 bf76084 (by decide)))).trans ((jw_ne e76338 (Or.inl (ne83 bf76084 (by decide)))).trans ((jw_ne e76337 (Or.inl (ne83 bf76084 (by decide)))).trans ((jw_ne e76335 (Or.inl (ne83 bf76084 (by decide)))).trans ((jw_ne e76334 (Or.inl (ne83 bf76084 (by decide)))).trans ((jw_ne e76328 (Or.inl (ne83 bf76084 (by decide)))).trans ev76086)))))))) ?_
              refine g_iaddG (fun v76343 ev76343 lv76343 uv76343 => ?_)
              refine ev_ret rfl (by decide) (by decide) ?_
              show jEv _ _ _ _ _ _ _ (_, [(2, (f76084 : Int)), (0, a3)], [(0, v76343)], _, _, _)
              refine g_inegG (fun v76344 ev76344 lv76344 uv76344 => ?_)
              refine ev_ret rfl (by decide) (by decide) ?_
              show jEv _ _ _ _ _ _ _ (_, [(2, 0), (0, a1), (0, a2), (0, a3), (2, (f76084 : Int))], [(0, v76344)], _, _, _)
              exact ev_ret rfl (by decide) (by decide) ⟨_, rfl, g76341, k76341, Or.inr ⟨(by unfold AV0; rw [ev76082]; omega), f76084, ef76084, by rw [tyf76084, show kdT 8 = 5 from rfl, show a2 = 0 by omega, ev76085, ev76086, ac_5_0]; (try rw [ev76342]); (try rw [ev76343]); (try rw [ev76344]); all_goals (first | rfl | omega | (unfold w32 at *; omega)), by rw [tyf76084, show kdT 8 = 5 from rfl, show a2 = 0 by omega, tr_5_0]; exact ⟨(((jw_eq e76341))), (((jw_ne e76341 (Or.inl (by decide))).trans ((jw_ne e76340 (Or.inr (by decide))).trans ((jw_ne e76338 (Or.inl (by decide))).trans ((jw_ne e76337 (Or.inr (by decide))).trans ((jw_ne e76335 (Or.inl (by decide))).trans (jw_eq e76334))))))), (((jw_ne e76341 (Or.inl (by decide))).trans ((jw_ne e76340 (Or.inr (by decide))).trans ((jw_ne e76338 (Or.inl (by decide))).trans (jw_eq e76337))))), (((jw_ne e76341 (Or.inl (by decide))).trans (jw_eq e76340))), trivial⟩⟩⟩
            · refine ev_sw (t := 63) (by rw [c76332]; decide) f210_63 ?_
              refine ev_aload rfl ?_
              refine ev_iload_n rfl ?_
              refine ev_in (d := 6) (a := 0) (b := 0) (cd' := c6_0) (m := 2) (L0 := [(2, (f76084 : Int)), (0, a3)]) (jcall_F (A := [(0, a3)]) (S' := []) (r := f76084) (k := 6) rfl (g76328.flt qf76084) (g76328.ffam qf76084) (by rw [k76328.2.1, tyf76084]; rfl) (by decide) (Nat.le_of_ble_eq_true rfl)) (by decide) ml6 pp6 (Nat.le_of_ble_eq_true rfl) rfl (by decide) (by decide) ?_
              refine ev_aload_n rfl ?_
              refine g_fget0 g76328 qf76084 ft0_0 ?_
              refine ev_bipush ?_
              refine ev_in (d := 5) (a := 0) (b := 0) (cd' := c94_0) (m := 2) (L0 := [(2, 19), (0, 10)]) (jcall_v (A := [(0, 10)]) (S' := []) (r := 19) rfl (g76328.lt ad19) (g76328.tg ad19) (Nat.le_of_ble_eq_true rfl)) (by decide) ml94 pp94 (Nat.le_of_ble_eq_true rfl) rfl (by decide) (by decide) ?_
              refine ev_aload_n rfl ?_
              refine g_getv (r := 19) (v := 0) g76328 ad19 (by decide) ft7_5 ((jw_eq e76328)) ?_
              refine ev_bipush ?_
              refine ev_icmpge f94_19 (fun c76345 => absurd c76345 (by omega)) (fun c76345 => ?_)
              refine ev_aload_n rfl ?_
              refine g_getp (r := 19) (c := 22) g76328 ad19 (by decide) (by decide) rf19_2 ft7_2 ?_
              refine ev_aload_n rfl ?_
              refine g_getv (r := 19) (v := 0) g76328 ad19 (by decide) ft7_5 ((jw_eq e76328)) ?_
              refine ev_iload_n rfl ?_
              refine g_iast g76328 ad22 rt22 (fun _ => rfl) (by omega) (by omega) (by omega) (by omega) (fun h76346 e76346 g76346 => ?_)
              have k76346 := k76328.wr e76346 rfl
              refine ev_aload_n rfl ?_
              refine ev_dup (by decide) ?_
              refine g_getv (r := 19) (v := 0) g76346 ad19 (by decide) ft7_5 (((jw_ne e76346 (Or.inl (by decide))).trans (jw_eq e76328))) ?_
              refine ev_iconst ?_
              refine ev_iadd (r := 1) (by decide) ?_
              refine g_putf (r := 19) g76346 ad19 (by decide) ft7_5 (by decide) (fun e => absurd e nz7_5) rf19_5 (by decide) (by omega) (by omega) (fun h76347 e76347 g76347 => ?_)
              have k76347 := k76346.wr e76347 rfl
              refine ev_ret rfl (by decide) (by decide) ?_
              show jEv _ _ _ _ _ _ _ (_, [(2, (f76084 : Int)), (0, a3)], [], _, _, _)
              refine ev_aload_n rfl ?_
              refine ev_iload_n rfl ?_
              refine ev_in (d := 5) (a := 0) (b := 0) (cd' := c100_0) (m := 2) (L0 := [(2, (f76084 : Int)), (0, a3)]) (jcall_F (A := [(0, a3)]) (S' := []) (r := f76084) (k := 100) rfl (g76347.flt qf76084) (g76347.ffam qf76084) (by rw [k76347.2.1, tyf76084]; rfl) (by decide) (Nat.le_of_ble_eq_true rfl)) (by decide) ml100 pp100 (Nat.le_of_ble_eq_true rfl) rfl (by decide) (by decide) ?_
              refine ev_aload_n rfl ?_
              refine g_fget0 g76347 qf76084 ft0_0 ?_
              refine ev_bipush ?_
              refine ev_in (d := 4) (a := 0) (b := 0) (cd' := c94_0) (m := 2) (L0 := [(2, 19), (0, 60)]) (jcall_v (A := [(0, 60)]) (S' := []) (r := 19) rfl (g76347.lt ad19) (g76347.tg ad19) (Nat.le_of_ble_eq_true rfl)) (by decide) ml94 pp94 (Nat.le_of_ble_eq_true rfl) rfl (by decide) (by decide) ?_
              refine ev_aload_n rfl ?_
              refine g_getv (r := 19) (v := 1) g76347 ad19 (by decide) ft7_5 ((jw_eq e76347)) ?_
              refine ev_bipush ?_
              refine ev_icmpge f94_19 (fun c76348 => absurd c76348 (by omega)) (fun c76348 => ?_)
              refine ev_aload_n rfl ?_
              refine g_getp (r := 19) (c := 22) g76347 ad19 (by decide) (by decide) rf19_2 ft7_2 ?_
              refine ev_aload_n rfl ?_
              refine g_getv (r := 19) (v := 1) g76347 ad19 (by decide) ft7_5 ((jw_eq e76347)) ?_
              refine ev_iload_n rfl ?_
              refine g_iast g76347 ad22 rt22 (fun _ => rfl) (by omega) (by omega) (by omega) (by omega) (fun h76349 e76349 g76349 => ?_)
              have k76349 := k76347.wr e76349 rfl
              refine ev_aload_n rfl ?_
              refine ev_dup (by decide) ?_
              refine g_getv (r := 19) (v := 1) g76349 ad19 (by decide) ft7_5 (((jw_ne e76349 (Or.inl (by decide))).trans (jw_eq e76347))) ?_
              refine ev_iconst ?_
              refine ev_iadd (r := 2) (by decide) ?_
              refine g_putf (r := 19) g76349 ad19 (by decide) ft7_5 (by decide) (fun e => absurd e nz7_5) rf19_5 (by decide) (by omega) (by omega) (fun h76350 e76350 g76350 => ?_)
              have k76350 := k76349.wr e76350 rfl
              refine ev_ret rfl (by decide) (by decide) ?_
              show jEv _ _ _ _ _ _ _ (_, [(2, (f76084 : Int)), (0, a3)], [], _, _, _)
              refine ev_aload_n rfl ?_
              refine ev_iload_n rfl ?_
              refine ev_in (d := 4) (a := 0) (b := 0) (cd' := c20_0) (m := 2) (L0 := [(2, (f76084 : Int)), (0, a3)]) (jcall_u (A := [(0, a3)]) (S' := []) (r := f76084) rfl (g76350.flt qf76084) (g76350.ffam qf76084) (Nat.le_of_ble_eq_true rfl)) (by decide) ml20 pp20 (Nat.le_of_ble_eq_true rfl) rfl (by decide) (by decide) ?_
              refine ev_aload_n rfl ?_
              refine g_fget0 g76350 qf76084 ft0_0 ?_
              refine ev_bipush ?_
              refine ev_in (d := 3) (a := 0) (b := 0) (cd' := c94_0) (m := 2) (L0 := [(2, 19), (0, 50)]) (jcall_v (A := [(0, 50)]) (S' := []) (r := 19) rfl (g76350.lt ad19) (g76350.tg ad19) (Nat.le_of_ble_eq_true rfl)) (by decide) ml94 pp94 (Nat.le_of_ble_eq_true rfl) rfl (by decide) (by decide) ?_
              refine ev_aload_n rfl ?_
              refine g_getv (r := 19) (v := 2) g76350 ad19 (by decide) ft7_5 ((jw_eq e76350)) ?_
              refine ev_bipush ?_
              refine ev_icmpge f94_19 (fun c76351 => absurd c76351 (by omega)) (fun c76351 => ?_)
              refine ev_aload_n rfl ?_
              refine g_getp (r := 19) (c := 22) g76350 ad19 (by decide) (by decide) rf19_2 ft7_2 ?_
              refine ev_aload_n rfl ?_
              refine g_getv (r := 19) (v := 2) g76350 ad19 (by decide) ft7_5 ((jw_eq e76350)) ?_
              refine ev_iload_n rfl ?_
              refine g_iast g76350 ad22 rt22 (fun _ => rfl) (by omega) (by omega) (by omega) (by omega) (fun h76352 e76352 g76352 => ?_)
              have k76352 := k76350.wr e76352 rfl
              refine ev_aload_n rfl ?_
              refine ev_dup (by decide) ?_
              refine g_getv (r := 19) (v := 2) g76352 ad19 (by decide) ft7_5 (((jw_ne e76352 (Or.inl (by decide))).trans (jw_eq e76350))) ?_
              refine ev_iconst ?_
              refine ev_iadd (r := 3) (by decide) ?_
              refine g_putf (r := 19) g76352 ad19 (by decide) ft7_5 (by decide) (fun e => absurd e nz7_5) rf19_5 (by decide) (by omega) (by omega) (fun h76353 e76353 g76353 => ?_)
              have k76353 := k76352.wr e76353 rfl
              refine ev_ret rfl (by decide) (by decide) ?_
              show jEv _ _ _ _ _ _ _ (_, [(2, (f76084 : Int)), (0, a3)], [], _, _, _)
              refine ev_aload_n rfl ?_
              refine ev_iload_n rfl ?_
              refine ev_in (d := 3) (a := 0) (b := 0) (cd' := c5_0) (m := 2) (L0 := [(2, (f76084 : Int)), (0, a3)]) (jcall_u (A := [(0, a3)]) (S' := []) (r := f76084) rfl (g76353.flt qf76084) (g76353.ffam qf76084) (Nat.le_of_ble_eq_true rfl)) (by decide) ml5 pp5 (Nat.le_of_ble_eq_true rfl) rfl (by decide) (by decide) ?_
              refine ev_aload_n rfl ?_
              refine g_fget0 g76353 qf76084 ft0_0 ?_
              refine ev_iconst ?_
              refine ev_in (d := 2) (a := 0) (b := 0) (cd' := c94_0) (m := 2) (L0 := [(2, 19), (0, 1)]) (jcall_v (A := [(0, 1)]) (S' := []) (r := 19) rfl (g76353.lt ad19) (g76353.tg ad19) (Nat.le_of_ble_eq_true rfl)) (by decide) ml94 pp94 (Nat.le_of_ble_eq_true rfl) rfl (by decide) (by decide) ?_
              refine ev_aload_n rfl ?_
              refine g_getv (r := 19) (v := 3) g76353 ad19 (by decide) ft7_5 ((jw_eq e76353)) ?_
              refine ev_bipush ?_
              refine ev_icmpge f94_19 (fun c76354 => absurd c76354 (by omega)) (fun c76354 => ?_)
              refine ev_aload_n rfl ?_
              refine g_getp (r := 19) (c := 22) g76353 ad19 (by decide) (by decide) rf19_2 ft7_2 ?_
              refine ev_aload_n rfl ?_
              refine g_getv (r := 19) (v := 3) g76353 ad19 (by decide) ft7_5 ((jw_eq e76353)) ?_
              refine ev_iload_n rfl ?_
              refine g_iast g76353 ad22 rt22 (fun _ => rfl) (by omega) (by omega) (by omega) (by omega) (fun h76355 e76355 g76355 => ?_)
              have k76355 := k76353.wr e76355 rfl
              refine ev_aload_n rfl ?_
              refine ev_dup (by decide) ?_
              refine g_getv (r := 19) (v := 3) g76355 ad19 (by decide) ft7_5 (((jw_ne e76355 (Or.inl (by decide))).trans (jw_eq e76353))) ?_
              refine ev_iconst ?_
              refine ev_iadd (r := 4) (by decide) ?_
              refine g_putf (r := 19) g76355 ad19 (by decide) ft7_5 (by decide) (fun e => absurd e nz7_5) rf19_5 (by decide) (by omega) (by omega) (fun h76356 e76356 g76356 => ?_)
              have k76356 := k76355.wr e76356 rfl
              refine ev_ret rfl (by decide) (by decide) ?_
              show jEv _ _ _ _ _ _ _ (_, [(2, (f76084 : Int)), (0, a3)], [], _, _, _)
              refine ev_iload_n rfl ?_
              refine ev_aload_n rfl ?_
              refine ev_getf (g76356.flt qf76084) (g76356.ffam qf76084) ft0_1 (((jw_ne e76356 (Or.inl (ne83 bf76084 (by decide)))).trans ((jw_ne e76355 (Or.inl (ne83 bf76084 (by decide)))).trans ((jw_ne e76353 (Or.inl (ne83 bf76084 (by decide)))).trans ((jw_ne e76352 (Or.inl (ne83 bf76084 (by decide)))).trans ((jw_ne e76350 (Or.inl (ne83 bf76084 (by decide)))).trans ((jw_ne e76349 (Or.inl (ne83 bf76084 (by decide)))).trans ((jw_ne e76347 (Or.inl (ne83 bf76084 (by decide)))).trans ((jw_ne e76346 (Or.inl (ne83 bf76084 (by decide)))).trans ((jw_ne e76328 (Or.inl (ne83 bf76084 (by decide)))).trans ev76085)))))))))) ?_
              refine g_iaddG (fun v76357 ev76357 lv76357 uv76357 => ?_)
              refine ev_ret rfl (by decide) (by decide) ?_
              show jEv _ _ _ _ _ _ _ (_, [(2, (f76084 : Int)), (0, a3)], [(0, v76357)], _, _, _)
              refine ev_aload_n rfl ?_
              refine ev_getf (g76356.flt qf76084) (g76356.ffam qf76084) ft0_2 (((jw_ne e76356 (Or.inl (ne83 bf76084 (by decide)))).trans ((jw_ne e76355 (Or.inl (ne83 bf76084 (by decide)))).trans ((jw_ne e76353 (Or.inl (ne83 bf76084 (by decide)))).trans ((jw_ne e76352 (Or.inl (ne83 bf76084 (by decide)))).trans ((jw_ne e76350 (Or.inl (ne83 bf76084 (by decide)))).trans ((jw_ne e76349 (Or.inl (ne83 bf76084 (by decide)))).trans ((jw_ne e76347 (Or.inl (ne83 bf76084 (by decide)))).trans ((jw_ne e76346 (Or.inl (ne83 bf76084 (by decide)))).trans ((jw_ne e76328 (Or.inl (ne83 bf76084 (by decide)))).trans ev76086)))))))))) ?_
              refine g_iaddG (fun v76358 ev76358 lv76358 uv76358 => ?_)
              refine ev_ret rfl (by decide) (by decide) ?_
              show jEv _ _ _ _ _ _ _ (_, [(2, (f76084 : Int)), (0, a3)], [(0, v76358)], _, _, _)
              refine g_inegG (fun v76359 ev76359 lv76359 uv76359 => ?_)
              refine ev_ret rfl (by decide) (by decide) ?_
              show jEv _ _ _ _ _ _ _ (_, [(2, (f76084 : Int)), (0, a3)], [(0, v76359)], _, _, _)
              refine ev_iconst ?_
              refine g_imulG (fun v76360 ev76360 lv76360 uv76360 => ?_)
              refine ev_ret rfl (by decide) (by decide) ?_
              show jEv _ _ _ _ _ _ _ (_, [(2, 0), (0, a1), (0, a2), (0, a3), (2, (f76084 : Int))], [(0, v76360)], _, _, _)
              exact ev_ret rfl (by decide) (by decide) ⟨_, rfl, g76356, k76356, Or.inr ⟨(by unfold AV0; rw [ev76082]; omega), f76084, ef76084, by rw [tyf76084, show kdT 8 = 5 from rfl, show a2 = 1 by omega, ev76085, ev76086, ac_5_1]; (try rw [ev76357]); (try rw [ev76358]); (try rw [ev76359]); (try rw [ev76360]); all_goals (first | rfl | omega | (unfold w32 at *; omega)), by rw [tyf76084, show kdT 8 = 5 from rfl, show a2 = 1 by omega, tr_5_1]; exact ⟨(((jw_eq e76356))), (((jw_ne e76356 (Or.inl (by decide))).trans ((jw_ne e76355 (Or.inr (by decide))).trans ((jw_ne e76353 (Or.inl (by decide))).trans ((jw_ne e76352 (Or.inr (by decide))).trans ((jw_ne e76350 (Or.inl (by decide))).trans ((jw_ne e76349 (Or.inr (by decide))).trans ((jw_ne e76347 (Or.inl (by decide))).trans (jw_eq e76346))))))))), (((jw_ne e76356 (Or.inl (by decide))).trans ((jw_ne e76355 (Or.inr (by decide))).trans ((jw_ne e76353 (Or.inl (by decide))).trans ((jw_ne e76352 (Or.inr (by decide))).trans ((jw_ne e76350 (Or.inl (by decide))).trans (jw_eq e76349))))))), (((jw_ne e76356 (Or.inl (by decide))).trans ((jw_ne e76355 (Or.inr (by decide))).trans ((jw_ne e76353 (Or.inl (by decide))).trans (jw_eq e76352))))), (((jw_ne e76356 (Or.inl (by decide))).trans (jw_eq e76355))), trivial⟩⟩⟩
            · refine ev_sw (t := 70) (by rw [c76332]; decide) f210_70 ?_
              refine ev_aload rfl ?_
              refine ev_iload_n rfl ?_
              refine ev_in (d := 6) (a := 0) (b := 0) (cd' := c101_0) (m := 2) (L0 := [(2, (f76084 : Int)), (0, a3)]) (jcall_F (A := [(0, a3)]) (S' := []) (r := f76084) (k := 101) rfl (g76328.flt qf76084) (g76328.ffam qf76084) (by rw [k76328.2.1, tyf76084]; rfl) (by decide) (Nat.le_of_ble_eq_true rfl)) (by decide) ml101 pp101 (Nat.le_of_ble_eq_true rfl) rfl (by decide) (by decide) ?_
              refine ev_aload_n rfl ?_
              refine g_fget0 g76328 qf76084 ft0_0 ?_
              refine ev_bipush ?_
              refine ev_in (d := 5) (a := 0) (b := 0) (cd' := c94_0) (m := 2) (L0 := [(2, 19), (0, 61)]) (jcall_v (A := [(0, 61)]) (S' := []) (r := 19) rfl (g76328.lt ad19) (g76328.tg ad19) (Nat.le_of_ble_eq_true rfl)) (by decide) ml94 pp94 (Nat.le_of_ble_eq_true rfl) rfl (by decide) (by decide) ?_
              refine ev_aload_n rfl ?_
              refine g_getv (r := 19) (v := 0) g76328 ad19 (by decide) ft7_5 ((jw_eq e76328)) ?_
              refine ev_bipush ?_
              refine ev_icmpge f94_19 (fun c76361 => absurd c76361 (by omega)) (fun c76361 => ?_)
              refine ev_aload_n rfl ?_
              refine g_getp (r := 19) (c := 22) g76328 ad19 (by decide) (by decide) rf19_2 ft7_2 ?_
              refine ev_aload_n rfl ?_
              refine g_getv (r := 19) (v := 0) g76328 ad19 (by decide) ft7_5 ((jw_eq e76328)) ?_
              refine ev_iload_n rfl ?_
              refine g_iast g76328 ad22 rt22 (fun _ => rfl) (by omega) (by omega) (by omega) (by omega) (fun h76362 e76362 g76362 => ?_)
              have k76362 := k76328.wr e76362 rfl
              refine ev_aload_n rfl ?_
              refine ev_dup (by decide) ?_
              refine g_getv (r := 19) (v := 0) g76362 ad19 (by decide) ft7_5 (((jw_ne e76362 (Or.inl (by decide))).trans (jw_eq e76328))) ?_
              refine ev_iconst ?_
              refine ev_iadd (r := 1) (by decide) ?_
              refine g_putf (r := 19) g76362 ad19 (by decide) ft7_5 (by decide) (fun e => absurd e nz7_5) rf19_5 (by decide) (by omega) (by omega) (fun h76363 e76363 g76363 => ?_)
              have k76363 := k76362.wr e76363 rfl
              refine ev_ret rfl (by decide) (by decide) ?_
              show jEv _ _ _ _ _ _ _ (_, [(2, (f76084 : Int)), (0, a3)], [], _, _, _)
              refine ev_aload_n rfl ?_
              refine ev_iload_n rfl ?_
              refine ev_in (d := 5) (a := 0) (b := 0) (cd' := c7_0) (m := 2) (L0 := [(2, (f76084 : Int)), (0, a3)]) (jcall_u (A := [(0, a3)]) (S' := []) (r := f76084) rfl (g76363.flt qf76084) (g76363.ffam qf76084) (Nat.le_of_ble_eq_true rfl)) (by decide) ml7 pp7 (Nat.le_of_ble_eq_true rfl) rfl (by decide) (by decide) ?_
              refine ev_aload_n rfl ?_
              refine g_fget0 g76363 qf76084 ft0_0 ?_
              refine ev_bipush ?_
              refine ev_in (d := 4) (a := 0) (b := 0) (cd' := c94_0) (m := 2) (L0 := [(2, 19), (0, 11)]) (jcall_v (A := [(0, 11)]) (S' := []) (r := 19) rfl (g76363.lt ad19) (g76363.tg ad19) (Nat.le_of_ble_eq_true rfl)) (by decide) ml94 pp94 (Nat.le_of_ble_eq_true rfl) rfl (by decide) (by decide) ?_
              refine ev_aload_n rfl ?_
              refine g_getv (r := 19) (v := 1) g76363 ad19 (by decide) ft7_5 ((jw_eq e76363)) ?_
              refine ev_bipush ?_
              refine ev_icmpge f94_19 (fun c76364 => absurd c76364 (by omega)) (fun c76364 => ?_)
              refine ev_aload_n rfl ?_
              refine g_getp (r := 19) (c := 22) g76363 ad19 (by decide) (by decide) rf19_2 ft7_2 ?_
              refine ev_aload_n rfl ?_
              refine g_getv (r := 19) (v := 1) g76363 ad19 (by decide) ft7_5 ((jw_eq e76363)) ?_
              refine ev_iload_n rfl ?_
              refine g_iast g76363 ad22 rt22 (fun _ => rfl) (by omega) (by omega) (by omega) (by omega) (fun h76365 e76365 g76365 => ?_)
              have k76365 := k76363.wr e76365 rfl
              refine ev_aload_n rfl ?_
              refine ev_dup (by decide) ?_
              refine g_getv (r := 19) (v := 1) g76365 ad19 (by decide) ft7_5 (((jw_ne e76365 (Or.inl (by decide))).trans (jw_eq e76363))) ?_
              refine ev_iconst ?_
              refine ev_iadd (r := 2) (by decide) ?_
              refine g_putf (r := 19) g76365 ad19 (by decide) ft7_5 (by decide) (fun e => absurd e nz7_5) rf19_5 (by decide) (by omega) (by omega) (fun h76366 e76366 g76366 => ?_)
              have k76366 := k76365.wr e76366 rfl
              refine ev_ret rfl (by decide) (by decide) ?_
              show jEv _ _ _ _ _ _ _ (_, [(2, (f76084 : Int)), (0, a3)], [], _, _, _)
              refine ev_iload_n rfl ?_
              refine ev_aload_n rfl ?_
              refine ev_getf (g76366.flt qf76084) (g76366.ffam qf76084) ft0_1 (((jw_ne e76366 (Or.inl (ne83 bf76084 (by decide)))).trans ((jw_ne e76365 (Or.inl (ne83 bf76084 (by decide)))).trans ((jw_ne e76363 (Or.inl (ne83 bf76084 (by decide)))).trans ((jw_ne e76362 (Or.inl (ne83 bf76084 (by decide)))).trans ((jw_ne e76328 (Or.inl (ne83 bf76084 (by decide)))).trans ev76085)))))) ?_
              refine g_ixorG (fun v76367 ev76367 lv76367 uv76367 => ?_)
              refine ev_ret rfl (by decide) (by decide) ?_
              show jEv _ _ _ _ _ _ _ (_, [(2, (f76084 : Int)), (0, a3)], [(0, v76367)], _, _, _)
              refine ev_aload_n rfl ?_
              refine ev_iconst ?_
              refine ev_in (d := 5) (a := 0) (b := 0) (cd' := c100_0) (m := 2) (L0 := [(2, (f76084 : Int)), (0, 1)]) (jcall_v (A := [(0, 1)]) (S' := [(0, v76367)]) (r := f76084) rfl (g76366.flt qf76084) (by rw [k76366.2.1]; exact tyf76084) (Nat.le_of_ble_eq_true rfl)) (by decide) ml100 pp100 (Nat.le_of_ble_eq_true rfl) rfl (by decide) (by decide) ?_
              refine ev_aload_n rfl ?_
              refine g_fget0 g76366 qf76084 ft0_0 ?_
              refine ev_bipush ?_
              refine ev_in (d := 4) (a := 0) (b := 0) (cd' := c94_0) (m := 2) (L0 := [(2, 19), (0, 60)]) (jcall_v (A := [(0, 60)]) (S' := []) (r := 19) rfl (g76366.lt ad19) (g76366.tg ad19) (Nat.le_of_ble_eq_true rfl)) (by decide) ml94 pp94 (Nat.le_of_ble_eq_true rfl) rfl (by decide) (by decide) ?_
              refine ev_aload_n rfl ?_
              refine g_getv (r := 19) (v := 2) g76366 ad19 (by decide) ft7_5 ((jw_eq e76366)) ?_
              refine ev_bipush ?_
              refine ev_icmpge f94_19 (fun c76368 => absurd c76368 (by omega)) (fun c76368 => ?_)
              refine ev_aload_n rfl ?_
              refine g_getp (r := 19) (c := 22) g76366 ad19 (by decide) (by decide) rf19_2 ft7_2 ?_
              refine ev_aload_n rfl ?_
              refine g_getv (r := 19) (v := 2) g76366 ad19 (by decide) ft7_5 ((jw_eq e76366)) ?_
              refine ev_iload_n rfl ?_
              refine g_iast g76366 ad22 rt22 (fun _ => rfl) (by omega) (by omega) (by omega) (by omega) (fun h76369 e76369 g76369 => ?_)
              have k76369 := k76366.wr e76369 rfl
              refine ev_aload_n rfl ?_
              refine ev_dup (by decide) ?_
              refine g_getv (r := 19) (v := 2) g76369 ad19 (by decide) ft7_5 (((jw_ne e76369 (Or.inl (by decide))).trans (jw_eq e76366))) ?_
              refine ev_iconst ?_
              refine ev_iadd (r := 3) (by decide) ?_
              refine g_putf (r := 19) g76369 ad19 (by decide) ft7_5 (by decide) (fun e => absurd e nz7_5) rf19_5 (by decide) (by omega) (by omega) (fun h76370 e76370 g76370 => ?_)
              have k76370 := k76369.wr e76370 rfl
              refine ev_ret rfl (by decide) (by decide) ?_
              show jEv _ _ _ _ _ _ _ (_, [(2, (f76084 : Int)), (0, 1)], [], _, _, _)
              refine ev_aload_n rfl ?_
              refine ev_iload_n rfl ?_
              refine ev_in (d := 4) (a := 0) (b := 0) (cd' := c20_0) (m := 2) (L0 := [(2, (f76084 : Int)), (0, 1)]) (jcall_u (A := [(0, 1)]) (S' := []) (r := f76084) rfl (g76370.flt qf76084) (g76370.ffam qf76084) (Nat.le_of_ble_eq_true rfl)) (by decide) ml20 pp20 (Nat.le_of_ble_eq_true rfl) rfl (by decide) (by decide) ?_
              refine ev_aload_n rfl ?_
              refine g_fget0 g76370 qf76084 ft0_0 ?_
              refine ev_bipush ?_
              refine ev_in (d := 3) (a := 0) (b := 0) (cd' := c94_0) (m := 2) (L0 := [(2, 19), (0, 50)]) (jcall_v (A := [(0, 50)]) (S' := []) (r := 19) rfl (g76370.lt ad19) (g76370.tg ad19) (Nat.le_of_ble_eq_true rfl)) (by decide) ml94 pp94 (Nat.le_of_ble_eq_true rfl) rfl (by decide) (by decide) ?_
              refine ev_aload_n rfl ?_
              refine g_getv (r := 19) (v := 3) g76370 ad19 (by decide) ft7_5 ((jw_eq e76370)) ?_
              refine ev_bipush ?_
              refine ev_icmpge f94_19 (fun c76371 => absurd c76371 (by omega)) (fun c76371 => ?_)
              refine ev_aload_n rfl ?_
              refine g_getp (r := 19) (c := 22) g76370 ad19 (by decide) (by decide) rf19_2 ft7_2 ?_
              refine ev_aload_n rfl ?_
              refine g_getv (r := 19) (v := 3) g76370 ad19 (by decide) ft7_5 ((jw_eq e76370)) ?_
              refine ev_iload_n rfl ?_
              refine g_iast g76370 ad22 rt22 (fun _ => rfl) (by omega) (by omega) (by omega) (by omega) (fun h76372 e76372 g76372 => ?_)
              have k76372 := k76370.wr e76372 rfl
              refine ev_aload_n rfl ?_
              refine ev_dup (by decide) ?_
              refine g_getv (r := 19) (v := 3) g76372 ad19 (by decide) ft7_5 (((jw_ne e76372 (Or.inl (by decide))).trans (jw_eq e76370))) ?_
              refine ev_iconst ?_
              refine ev_iadd (r := 4) (by decide) ?_
              refine g_putf (r := 19) g76372 ad19 (by decide) ft7_5 (by decide) (fun e => absurd e nz7_5) rf19_5 (by decide) (by omega) (by omega) (fun h76373 e76373 g76373 => ?_)
              have k76373 := k76372.wr e76373 rfl
              refine ev_ret rfl (by decide) (by decide) ?_
              show jEv _ _ _ _ _ _ _ (_, [(2, (f76084 : Int)), (0, 1)], [], _, _, _)
              refine ev_aload_n rfl ?_
              refine ev_iload_n rfl ?_
              refine ev_in (d := 3) (a := 0) (b := 0) (cd' := c5_0) (m := 2) (L0 := [(2, (f76084 : Int)), (0, 1)]) (jcall_u (A := [(0, 1)]) (S' := []) (r := f76084) rfl (g76373.flt qf76084) (g76373.ffam qf76084) (Nat.le_of_ble_eq_true rfl)) (by decide) ml5 pp5 (Nat.le_of_ble_eq_true rfl) rfl (by decide) (by decide) ?_
              refine ev_aload_n rfl ?_
              refine g_fget0 g76373 qf76084 ft0_0 ?_
              refine ev_iconst ?_
              refine ev_in (d := 2) (a := 0) (b := 0) (cd' := c94_0) (m := 2) (L0 := [(2, 19), (0, 1)]) (jcall_v (A := [(0, 1)]) (S' := []) (r := 19) rfl (g76373.lt ad19) (g76373.tg ad19) (Nat.le_of_ble_eq_true rfl)) (by decide) ml94 pp94 (Nat.le_of_ble_eq_true rfl) rfl (by decide) (by decide) ?_
              refine ev_aload_n rfl ?_
              refine g_getv (r := 19) (v := 4) g76373 ad19 (by decide) ft7_5 ((jw_eq e76373)) ?_
              refine ev_bipush ?_
              refine ev_icmpge f94_19 (fun c76374 => absurd c76374 (by omega)) (fun c76374 => ?_)
              refine ev_aload_n rfl ?_
              refine g_getp (r := 19) (c := 22) g76373 ad19 (by decide) (by decide) rf19_2 ft7_2 ?_
              refine ev_aload_n rfl ?_
              refine g_getv (r := 19) (v := 4) g76373 ad19 (by decide) ft7_5 ((jw_eq e76373)) ?_
              refine ev_iload_n rfl ?_
              refine g_iast g76373 ad22 rt22 (fun _ => rfl) (by omega) (by omega) (by omega) (by omega) (fun h76375 e76375 g76375 => ?_)
              have k76375 := k76373.wr e76375 rfl
              refine ev_aload_n rfl ?_
              refine ev_dup (by decide) ?_
              refine g_getv (r := 19) (v := 4) g76375 ad19 (by decide) ft7_5 (((jw_ne e76375 (Or.inl (by decide))).trans (jw_eq e76373))) ?_
              refine ev_iconst ?_
              refine ev_iadd (r := 5) (by decide) ?_
              refine g_putf (r := 19) g76375 ad19 (by decide) ft7_5 (by decide) (fun e => absurd e nz7_5) rf19_5 (by decide) (by omega) (by omega) (fun h76376 e76376 g76376 => ?_)
              have k76376 := k76375.wr e76376 rfl
              refine ev_ret rfl (by decide) (by decide) ?_
              show jEv _ _ _ _ _ _ _ (_, [(2, (f76084 : Int)), (0, 1)], [], _, _, _)
              refine ev_iload_n rfl ?_
              refine ev_aload_n rfl ?_
              refine ev_getf (g76376.flt qf76084) (g76376.ffam qf76084) ft0_1 (((jw_ne e76376 (Or.inl (ne83 bf76084 (by decide)))).trans ((jw_ne e76375 (Or.inl (ne83 bf76084 (by decide)))).trans ((jw_ne e76373 (Or.inl (ne83 bf76084 (by decide)))).trans ((jw_ne e76372 (Or.inl (ne83 bf76084 (by decide)))).trans ((jw_ne e76370 (Or.inl (ne83 bf76084 (by decide)))).trans ((jw_ne e76369 (Or.inl (ne83 bf76084 (by decide)))).trans ((jw_ne e76366 (Or.inl (ne83 bf76084 (by decide)))).trans ((jw_ne e76365 (Or.inl (ne83 bf76084 (by decide)))).trans ((jw_ne e76363 (Or.inl (ne83 bf76084 (by decide)))).trans ((jw_ne e76362 (Or.inl (ne83 bf76084 (by decide)))).trans ((jw_ne e76328 (Or.inl (ne83 bf76084 (by decide)))).trans ev76085)))))))))))) ?_
              refine ev_iadd (r := (v76085 + 1)) (by unfold w32; omega) ?_
              refine ev_ret rfl (by decide) (by decide) ?_
              show jEv _ _ _ _ _ _ _ (_, [(2, (f76084 : Int)), (0, 1)], [(0, (v76085 + 1))], _, _, _)
              refine ev_aload_n rfl ?_
              refine ev_getf (g76376.flt qf76084) (g76376.ffam qf76084) ft0_2 (((jw_ne e76376 (Or.inl (ne83 bf76084 (by decide)))).trans ((jw_ne e76375 (Or.inl (ne83 bf76084 (by decide)))).trans ((jw_ne e76373 (Or.inl (ne83 bf76084 (by decide)))).trans ((jw_ne e76372 (Or.inl (ne83 bf76084 (by decide)))).trans ((jw_ne e76370 (Or.inl (ne83 bf76084 (by decide)))).trans ((jw_ne e76369 (Or.inl (ne83 bf76084 (by decide)))).trans ((jw_ne e76366 (Or.inl (ne83 bf76084 (by decide)))).trans ((jw_ne e76365 (Or.inl (ne83 bf76084 (by decide)))).trans ((jw_ne e76363 (Or.inl (ne83 bf76084 (by decide)))).trans ((jw_ne e76362 (Or.inl (ne83 bf76084 (by decide)))).trans ((jw_ne e76328 (Or.inl (ne83 bf76084 (by decide)))).trans ev76086)))))))))))) ?_
              refine ev_iadd (r := (v76085 + v76086 + 1)) (by unfold w32; omega) ?_
              refine ev_ret rfl (by decide) (by decide) ?_
              show jEv _ _ _ _ _ _ _ (_, [(2, (f76084 : Int)), (0, 1)], [(0, (v76085 + v76086 + 1))], _, _, _)
              refine ev_ineg (r := ((-v76085) + (-v76086) - 1)) (by unfold w32; omega) ?_
              refine ev_ret rfl (by decide) (by decide) ?_
              show jEv _ _ _ _ _ _ _ (_, [(2, (f76084 : Int)), (0, a3)], [(0, ((-v76085) + (-v76086) - 1)), (0, v76367)], _, _, _)
              refine g_iaddG (fun v76377 ev76377 lv76377 uv76377 => ?_)
              refine ev_ret rfl (by decide) (by decide) ?_
              show jEv _ _ _ _ _ _ _ (_, [(2, 0), (0, a1), (0, a2), (0, a3), (2, (f76084 : Int))], [(0, v76377)], _, _, _)
              exact ev_ret rfl (by decide) (by decide) ⟨_, rfl, g76376, k76376, Or.inr ⟨(by unfold AV0; rw [ev76082]; omega), f76084, ef76084, by rw [tyf76084, show kdT 8 = 5 from rfl, show a2 = 2 by omega, ev76085, ev76086, ac_5_2]; (try rw [ev76367]); (try rw [ev76377]); all_goals (first | rfl | omega | (unfold w32 at *; omega)), by rw [tyf76084, show kdT 8 = 5 from rfl, show a2 = 2 by omega, tr_5_2]; exact ⟨(((jw_eq e76376))), (((jw_ne e76376 (Or.inl (by decide))).trans ((jw_ne e76375 (Or.inr (by decide))).trans ((jw_ne e76373 (Or.inl (by decide))).trans ((jw_ne e76372 (Or.inr (by decide))).trans ((jw_ne e76370 (Or.inl (by decide))).trans ((jw_ne e76369 (Or.inr (by decide))).trans ((jw_ne e76366 (Or.inl (by decide))).trans ((jw_ne e76365 (Or.inr (by decide))).trans ((jw_ne e76363 (Or.inl (by decide))).trans (jw_eq e76362))))))))))), (((jw_ne e76376 (Or.inl (by decide))).trans ((jw_ne e76375 (Or.inr (by decide))).trans ((jw_ne e76373 (Or.inl (by decide))).trans ((jw_ne e76372 (Or.inr (by decide))).trans ((jw_ne e76370 (Or.inl (by decide))).trans ((jw_ne e76369 (Or.inr (by decide))).trans ((jw_ne e76366 (Or.inl (by decide))).trans (jw_eq e76365))))))))), (((jw_ne e76376 (Or.inl (by decide))).trans ((jw_ne e76375 (Or.inr (by decide))).trans ((jw_ne e76373 (Or.inl (by decide))).trans ((jw_ne e76372 (Or.inr (by decide))).trans ((jw_ne e76370 (Or.inl (by decide))).trans (jw_eq e76369))))))), (((jw_ne e76376 (Or.inl (by decide))).trans ((jw_ne e76375 (Or.inr (by decide))).trans ((jw_ne e76373 (Or.inl (by decide))).trans (jw_eq e76372))))), (((jw_ne e76376 (Or.inl (by decide))).trans (jw_eq e76375))), trivial⟩⟩⟩
            · refine ev_sw (t := 77) (by rw [if_pos (show _ ∨ _ by omega)]; rfl) f210_77 ?_
              refine ev_aload rfl ?_
              refine ev_iload_n rfl ?_
              refine ev_in (d := 6) (a := 0) (b := 0) (cd' := c8_0) (m := 2) (L0 := [(2, (f76084 : Int)), (0, a3)]) (jcall_F (A := [(0, a3)]) (S' := []) (r := f76084) (k := 8) rfl (g76328.flt qf76084) (g76328.ffam qf76084) (by rw [k76328.2.1, tyf76084]; rfl) (by decide) (Nat.le_of_ble_eq_true rfl)) (by decide) ml8 pp8 (Nat.le_of_ble_eq_true rfl) rfl (by decide) (by decide) ?_
              refine ev_aload_n rfl ?_
              refine g_fget0 g76328 qf76084 ft0_0 ?_
              refine ev_iconst ?_
              refine ev_in (d := 5) (a := 0) (b := 0) (cd' := c94_0) (m := 2) (L0 := [(2, 19), (0, 2)]) (jcall_v (A := [(0, 2)]) (S' := []) (r := 19) rfl (g76328.lt ad19) (g76328.tg ad19) (Nat.le_of_ble_eq_true rfl)) (by decide) ml94 pp94 (Nat.le_of_ble_eq_true rfl) rfl (by decide) (by decide) ?_
              refine ev_aload_n rfl ?_
              refine g_getv (r := 19) (v := 0) g76328 ad19 (by decide) ft7_5 ((jw_eq e76328)) ?_
              refine ev_bipush ?_
              refine ev_icmpge f94_19 (fun c76378 => absurd c76378 (by omega)) (fun c76378 => ?_)
              refine ev_aload_n rfl ?_
              refine g_getp (r := 19) (c := 22) g76328 ad19 (by decide) (by decide) rf19_2 ft7_2 ?_
              refine ev_aload_n rfl ?_
              refine g_getv (r := 19) (v := 0) g76328 ad19 (by decide) ft7_5 ((jw_eq e76328)) ?_
              refine ev_iload_n rfl ?_
              refine g_iast g76328 ad22 rt22 (fun _ => rfl) (by omega) (by omega) (by omega) (by omega) (fun h76379 e76379 g76379 => ?_)
              have k76379 := k76328.wr e76379 rfl
              refine ev_aload_n rfl ?_
              refine ev_dup (by decide) ?_
              refine g_getv (r := 19) (v := 0) g76379 ad19 (by decide) ft7_5 (((jw_ne e76379 (Or.inl (by decide))).trans (jw_eq e76328))) ?_
              refine ev_iconst ?_
              refine ev_iadd (r := 1) (by decide) ?_
              refine g_putf (r := 19) g76379 ad19 (by decide) ft7_5 (by decide) (fun e => absurd e nz7_5) rf19_5 (by decide) (by omega) (by omega) (fun h76380 e76380 g76380 => ?_)
              have k76380 := k76379.wr e76380 rfl
              refine ev_ret rfl (by decide) (by decide) ?_
              show jEv _ _ _ _ _ _ _ (_, [(2, (f76084 : Int)), (0, a3)], [], _, _, _)
              refine ev_aload_n rfl ?_
              refine ev_iload_n rfl ?_
              refine ev_in (d := 5) (a := 0) (b := 0) (cd' := c6_0) (m := 2) (L0 := [(2, (f76084 : Int)), (0, a3)]) (jcall_F (A := [(0, a3)]) (S' := []) (r := f76084) (k := 6) rfl (g76380.flt qf76084) (g76380.ffam qf76084) (by rw [k76380.2.1, tyf76084]; rfl) (by decide) (Nat.le_of_ble_eq_true rfl)) (by decide) ml6 pp6 (Nat.le_of_ble_eq_true rfl) rfl (by decide) (by decide) ?_
              refine ev_aload_n rfl ?_
              refine g_fget0 g76380 qf76084 ft0_0 ?_
              refine ev_bipush ?_
              refine ev_in (d := 4) (a := 0) (b := 0) (cd' := c94_0) (m := 2) (L0 := [(2, 19), (0, 10)]) (jcall_v (A := [(0, 10)]) (S' := []) (r := 19) rfl (g76380.lt ad19) (g76380.tg ad19) (Nat.le_of_ble_eq_true rfl)) (by decide) ml94 pp94 (Nat.le_of_ble_eq_true rfl) rfl (by decide) (by decide) ?_
              refine ev_aload_n rfl ?_
              refine g_getv (r := 19) (v := 1) g76380 ad19 (by decide) ft7_5 ((jw_eq e76380)) ?_
              refine ev_bipush ?_
              refine ev_icmpge f94_19 (fun c76381 => absurd c76381 (by omega)) (fun c76381 => ?_)
              refine ev_aload_n rfl ?_
              refine g_getp (r := 19) (c := 22) g76380 ad19 (by decide) (by decide) rf19_2 ft7_2 ?_
              refine ev_aload_n rfl ?_
              refine g_getv (r := 19) (v := 1) g76380 ad19 (by decide) ft7_5 ((jw_eq e76380)) ?_
              refine ev_iload_n rfl ?_
              refine g_iast g76380 ad22 rt22 (fun _ => rfl) (by omega) (by omega) (by omega) (by omega) (fun h76382 e76382 g76382 => ?_)
              have k76382 := k76380.wr e76382 rfl
              refine ev_aload_n rfl ?_
              refine ev_dup (by decide) ?_
              refine g_getv (r := 19) (v := 1) g76382 ad19 (by decide) ft7_5 (((jw_ne e76382 (Or.inl (by decide))).trans (jw_eq e76380))) ?_
              refine ev_iconst ?_
              refine ev_iadd (r := 2) (by decide) ?_
              refine g_putf (r := 19) g76382 ad19 (by decide) ft7_5 (by decide) (fun e => absurd e nz7_5) rf19_5 (by decide) (by omega) (by omega) (fun h76383 e76383 g76383 => ?_)
              have k76383 := k76382.wr e76383 rfl
              refine ev_ret rfl (by decide) (by decide) ?_
              show jEv _ _ _ _ _ _ _ (_, [(2, (f76084 : Int)), (0, a3)], [], _, _, _)
              refine ev_aload_n rfl ?_
              refine ev_iload_n rfl ?_
              refine ev_in (d := 4) (a := 0) (b := 0) (cd' := c100_0) (m := 2) (L0 := [(2, (f76084 : Int)), (0, a3)]) (jcall_F (A := [(0, a3)]) (S' := []) (r := f76084) (k := 100) rfl (g76383.flt qf76084) (g76383.ffam qf76084) (by rw [k76383.2.1, tyf76084]; rfl) (by decide) (Nat.le_of_ble_eq_true rfl)) (by decide) ml100 pp100 (Nat.le_of_ble_eq_true rfl) rfl (by decide) (by decide) ?_
              refine ev_aload_n rfl ?_
              refine g_fget0 g76383 qf76084 ft0_0 ?_
              refine ev_bipush ?_
              refine ev_in (d := 3) (a := 0) (b := 0) (cd' := c94_0) (m := 2) (L0 := [(2, 19), (0, 60)]) (jcall_v (A := [(0, 60)]) (S' := []) (r := 19) rfl (g76383.lt ad19) (g76383.tg ad19) (Nat.le_of_ble_eq_true rfl)) (by decide) ml94 pp94 (Nat.le_of_ble_eq_true rfl) rfl (by decide) (by decide) ?_
              refine ev_aload_n rfl ?_
              refine g_getv (r := 19) (v := 2) g76383 ad19 (by decide) ft7_5 ((jw_eq e76383)) ?_
              refine ev_bipush ?_
              refine ev_icmpge f94_19 (fun c76384 => absurd c76384 (by omega)) (fun c76384 => ?_)
              refine ev_aload_n rfl ?_
              refine g_getp (r := 19) (c := 22) g76383 ad19 (by decide) (by decide) rf19_2 ft7_2 ?_
              refine ev_aload_n rfl ?_
              refine g_getv (r := 19) (v := 2) g76383 ad19 (by decide) ft7_5 ((jw_eq e76383)) ?_
              refine ev_iload_n rfl ?_
              refine g_iast g76383 ad22 rt22 (fun _ => rfl) (by omega) (by omega) (by omega) (by omega) (fun h76385 e76385 g76385 => ?_)
              have k76385 := k76383.wr e76385 rfl
              refine ev_aload_n rfl ?_
              refine ev_dup (by decide) ?_
              refine g_getv (r := 19) (v := 2) g76385 ad19 (by decide) ft7_5 (((jw_ne e76385 (Or.inl (by decide))).trans (jw_eq e76383))) ?_
              refine ev_iconst ?_
              refine ev_iadd (r := 3) (by decide) ?_
              refine g_putf (r := 19) g76385 ad19 (by decide) ft7_5 (by decide) (fun e => absurd e nz7_5) rf19_5 (by decide) (by omega) (by omega) (fun h76386 e76386 g76386 => ?_)
              have k76386 := k76385.wr e76386 rfl
              refine ev_ret rfl (by decide) (by decide) ?_
              show jEv _ _ _ _ _ _ _ (_, [(2, (f76084 : Int)), (0, a3)], [], _, _, _)
              refine ev_aload_n rfl ?_
              refine ev_iload_n rfl ?_
              refine ev_in (d := 3) (a := 0) (b := 0) (cd' := c20_0) (m := 2) (L0 := [(2, (f76084 : Int)), (0, a3)]) (jcall_u (A := [(0, a3)]) (S' := []) (r := f76084) rfl (g76386.flt qf76084) (g76386.ffam qf76084) (Nat.le_of_ble_eq_true rfl)) (by decide) ml20 pp20 (Nat.le_of_ble_eq_true rfl) rfl (by decide) (by decide) ?_
              refine ev_aload_n rfl ?_
              refine g_fget0 g76386 qf76084 ft0_0 ?_
              refine ev_bipush ?_
              refine ev_in (d := 2) (a := 0) (b := 0) (cd' := c94_0) (m := 2) (L0 := [(2, 19), (0, 50)]) (jcall_v (A := [(0, 50)]) (S' := []) (r := 19) rfl (g76386.lt ad19) (g76386.tg ad19) (Nat.le_of_ble_eq_true rfl)) (by decide) ml94 pp94 (Nat.le_of_ble_eq_true rfl) rfl (by decide) (by decide) ?_
              refine ev_aload_n rfl ?_
              refine g_getv (r := 19) (v := 3) g76386 ad19 (by decide) ft7_5 ((jw_eq e76386)) ?_
              refine ev_bipush ?_
              refine ev_icmpge f94_19 (fun c76387 => absurd c76387 (by omega)) (fun c76387 => ?_)
              refine ev_aload_n rfl ?_
              refine g_getp (r := 19) (c := 22) g76386 ad19 (by decide) (by decide) rf19_2 ft7_2 ?_
              refine ev_aload_n rfl ?_
              refine g_getv (r := 19) (v := 3) g76386 ad19 (by decide) ft7_5 ((jw_eq e76386)) ?_
              refine ev_iload_n rfl ?_
              refine g_iast g76386 ad22 rt22 (fun _ => rfl) (by omega) (by omega) (by omega) (by omega) (fun h76388 e76388 g76388 => ?_)
              have k76388 := k76386.wr e76388 rfl
              refine ev_aload_n rfl ?_
              refine ev_dup (by decide) ?_
              refine g_getv (r := 19) (v := 3) g76388 ad19 (by decide) ft7_5 (((jw_ne e76388 (Or.inl (by decide))).trans (jw_eq e76386))) ?_
              refine ev_iconst ?_
              refine ev_iadd (r := 4) (by decide) ?_
              refine g_putf (r := 19) g76388 ad19 (by decide) ft7_5 (by decide) (fun e => absurd e nz7_5) rf19_5 (by decide) (by omega) (by omega) (fun h76389 e76389 g76389 => ?_)
              have k76389 := k76388.wr e76389 rfl
              refine ev_ret rfl (by decide) (by decide) ?_
              show jEv _ _ _ _ _ _ _ (_, [(2, (f76084 : Int)), (0, a3)], [], _, _, _)
              refine ev_aload_n rfl ?_
              refine ev_iload_n rfl ?_
              refine ev_in (d := 2) (a := 0) (b := 0) (cd' := c5_0) (m := 2) (L0 := [(2, (f76084 : Int)), (0, a3)]) (jcall_u (A := [(0, a3)]) (S' := []) (r := f76084) rfl (g76389.flt qf76084) (g76389.ffam qf76084) (Nat.le_of_ble_eq_true rfl)) (by decide) ml5 pp5 (Nat.le_of_ble_eq_true rfl) rfl (by decide) (by decide) ?_
              refine ev_aload_n rfl ?_
              refine g_fget0 g76389 qf76084 ft0_0 ?_
              refine ev_iconst ?_
              refine ev_in (d := 1) (a := 0) (b := 0) (cd' := c94_0) (m := 2) (L0 := [(2, 19), (0, 1)]) (jcall_v (A := [(0, 1)]) (S' := []) (r := 19) rfl (g76389.lt ad19) (g76389.tg ad19) (Nat.le_of_ble_eq_true rfl)) (by decide) ml94 pp94 (Nat.le_of_ble_eq_true rfl) rfl (by decide) (by decide) ?_
              refine ev_aload_n rfl ?_
              refine g_getv (r := 19) (v := 4) g76389 ad19 (by decide) ft7_5 ((jw_eq e76389)) ?_
              refine ev_bipush ?_
              refine ev_icmpge f94_19 (fun c76390 => absurd c76390 (by omega)) (fun c76390 => ?_)
              refine ev_aload_n rfl ?_
              refine g_getp (r := 19) (c := 22) g76389 ad19 (by decide) (by decide) rf19_2 ft7_2 ?_
              refine ev_aload_n rfl ?_
              refine g_getv (r := 19) (v := 4) g76389 ad19 (by decide) ft7_5 ((jw_eq e76389)) ?_
              refine ev_iload_n rfl ?_
              refine g_iast g76389 ad22 rt22 (fun _ => rfl) (by omega) (by omega) (by omega) (by omega) (fun h76391 e76391 g76391 => ?_)
              have k76391 := k76389.wr e76391 rfl
              refine ev_aload_n rfl ?_
              refine ev_dup (by decide) ?_
              refine g_getv (r := 19) (v := 4) g76391 ad19 (by decide) ft7_5 (((jw_ne e76391 (Or.inl (by decide))).trans (jw_eq e76389))) ?_
              refine ev_iconst ?_
              refine ev_iadd (r := 5) (by decide) ?_
              refine g_putf (r := 19) g76391 ad19 (by decide) ft7_5 (by decide) (fun e => absurd e nz7_5) rf19_5 (by decide) (by omega) (by omega) (fun h76392 e76392 g76392 => ?_)
              have k76392 := k76391.wr e76392 rfl
              refine ev_ret rfl (by decide) (by decide) ?_
              show jEv _ _ _ _ _ _ _ (_, [(2, (f76084 : Int)), (0, a3)], [], _, _, _)
              refine ev_iload_n rfl ?_
              refine ev_aload_n rfl ?_
              refine ev_getf (g76392.flt qf76084) (g76392.ffam qf76084) ft0_1 (((jw_ne e76392 (Or.inl (ne83 bf76084 (by decide)))).trans ((jw_ne e76391 (Or.inl (ne83 bf76084 (by decide)))).trans ((jw_ne e76389 (Or.inl (ne83 bf76084 (by decide)))).trans ((jw_ne e76388 (Or.inl (ne83 bf76084 (by decide)))).trans ((jw_ne e76386 (Or.inl (ne83 bf76084 (by decide)))).trans ((jw_ne e76385 (Or.inl (ne83 bf76084 (by decide)))).trans ((jw_ne e76383 (Or.inl (ne83 bf76084 (by decide)))).trans ((jw_ne e76382 (Or.inl (ne83 bf76084 (by decide)))).trans ((jw_ne e76380 (Or.inl (ne83 bf76084 (by decide)))).trans ((jw_ne e76379 (Or.inl (ne83 bf76084 (by decide)))).trans ((jw_ne e76328 (Or.inl (ne83 bf76084 (by decide)))).trans ev76085)))))))))))) ?_
              refine g_iaddG (fun v76393 ev76393 lv76393 uv76393 => ?_)
              refine ev_ret rfl (by decide) (by decide) ?_
              show jEv _ _ _ _ _ _ _ (_, [(2, (f76084 : Int)), (0, a3)], [(0, v76393)], _, _, _)
              refine ev_aload_n rfl ?_
              refine ev_getf (g76392.flt qf76084) (g76392.ffam qf76084) ft0_2 (((jw_ne e76392 (Or.inl (ne83 bf76084 (by decide)))).trans ((jw_ne e76391 (Or.inl (ne83 bf76084 (by decide)))).trans ((jw_ne e76389 (Or.inl (ne83 bf76084 (by decide)))).trans ((jw_ne e76388 (Or.inl (ne83 bf76084 (by decide)))).trans ((jw_ne e76386 (Or.inl (ne83 bf76084 (by decide)))).trans ((jw_ne e76385 (Or.inl (ne83 bf76084 (by decide)))).trans ((jw_ne e76383 (Or.inl (ne83 bf76084 (by decide)))).trans ((jw_ne e76382 (Or.inl (ne83 bf76084 (by decide)))).trans ((jw_ne e76380 (Or.inl (ne83 bf76084 (by decide)))).trans ((jw_ne e76379 (Or.inl (ne83 bf76084 (by decide)))).trans ((jw_ne e76328 (Or.inl (ne83 bf76084 (by decide)))).trans ev76086)))))))))))) ?_
              refine g_iaddG (fun v76394 ev76394 lv76394 uv76394 => ?_)
              refine ev_ret rfl (by decide) (by decide) ?_
              show jEv _ _ _ _ _ _ _ (_, [(2, (f76084 : Int)), (0, a3)], [(0, v76394)], _, _, _)
              refine g_inegG (fun v76395 ev76395 lv76395 uv76395 => ?_)
              refine ev_ret rfl (by decide) (by decide) ?_
              show jEv _ _ _ _ _ _ _ (_, [(2, (f76084 : Int)), (0, a3)], [(0, v76395)], _, _, _)
              refine ev_iconst ?_
              refine g_imulG (fun v76396 ev76396 lv76396 uv76396 => ?_)
              refine ev_ret rfl (by decide) (by decide) ?_
              show jEv _ _ _ _ _ _ _ (_, [(2, (f76084 : Int)), (0, a3)], [(0, v76396)], _, _, _)
              refine ev_aload_n rfl ?_
              refine ev_iconst ?_
              refine ev_in (d := 5) (a := 0) (b := 0) (cd' := c101_0) (m := 2) (L0 := [(2, (f76084 : Int)), (0, 1)]) (jcall_F (A := [(0, 1)]) (S' := [(0, v76396)]) (r := f76084) (k := 101) rfl (g76392.flt qf76084) (g76392.ffam qf76084) (by rw [k76392.2.1, tyf76084]; rfl) (by decide) (Nat.le_of_ble_eq_true rfl)) (by decide) ml101 pp101 (Nat.le_of_ble_eq_true rfl) rfl (by decide) (by decide) ?_
              refine ev_aload_n rfl ?_
              refine g_fget0 g76392 qf76084 ft0_0 ?_
              refine ev_bipush ?_
              refine ev_in (d := 4) (a := 0) (b := 0) (cd' := c94_0) (m := 2) (L0 := [(2, 19), (0, 61)]) (jcall_v (A := [(0, 61)]) (S' := []) (r := 19) rfl (g76392.lt ad19) (g76392.tg ad19) (Nat.le_of_ble_eq_true rfl)) (by decide) ml94 pp94 (Nat.le_of_ble_eq_true rfl) rfl (by decide) (by decide) ?_
              refine ev_aload_n rfl ?_
              refine g_getv (r := 19) (v := 5) g76392 ad19 (by decide) ft7_5 ((jw_eq e76392)) ?_
              refine ev_bipush ?_
              refine ev_icmpge f94_19 (fun c76397 => absurd c76397 (by omega)) (fun c76397 => ?_)
              refine ev_aload_n rfl ?_
              refine g_getp (r := 19) (c := 22) g76392 ad19 (by decide) (by decide) rf19_2 ft7_2 ?_
              refine ev_aload_n rfl ?_
              refine g_getv (r := 19) (v := 5) g76392 ad19 (by decide) ft7_5 ((jw_eq e76392)) ?_
              refine ev_iload_n rfl ?_
              refine g_iast g76392 ad22 rt22 (fun _ => rfl) (by omega) (by omega) (by omega) (by omega) (fun h76398 e76398 g76398 => ?_)
              have k76398 := k76392.wr e76398 rfl
              refine ev_aload_n rfl ?_
              refine ev_dup (by decide) ?_
              refine g_getv (r := 19) (v := 5) g76398 ad19 (by decide) ft7_5 (((jw_ne e76398 (Or.inl (by decide))).trans (jw_eq e76392))) ?_
              refine ev_iconst ?_
              refine ev_iadd (r := 6) (by decide) ?_
              refine g_putf (r := 19) g76398 ad19 (by decide) ft7_5 (by decide) (fun e => absurd e nz7_5) rf19_5 (by decide) (by omega) (by omega) (fun h76399 e76399 g76399 => ?_)
              have k76399 := k76398.wr e76399 rfl
              refine ev_ret rfl (by decide) (by decide) ?_
              show jEv _ _ _ _ _ _ _ (_, [(2, (f76084 : Int)), (0, 1)], [], _, _, _)
              refine ev_aload_n rfl ?_
              refine ev_iload_n rfl ?_
              refine ev_in (d := 4) (a := 0) (b := 0) (cd' := c7_0) (m := 2) (L0 := [(2, (f76084 : Int)), (0, 1)]) (jcall_u (A := [(0, 1)]) (S' := []) (r := f76084) rfl (g76399.flt qf76084) (g76399.ffam qf76084) (Nat.le_of_ble_eq_true rfl)) (by decide) ml7 pp7 (Nat.le_of_ble_eq_true rfl) rfl (by decide) (by decide) ?_
              refine ev_aload_n rfl ?_
              refine g_fget0 g76399 qf76084 ft0_0 ?_
              refine ev_bipush ?_
              refine ev_in (d := 3) (a := 0) (b := 0) (cd' := c94_0) (m := 2) (L0 := [(2, 19), (0, 11)]) (jcall_v (A := [(0, 11)]) (S' := []) (r := 19) rfl (g76399.lt ad19) (g76399.tg ad19) (Nat.le_of_ble_eq_true rfl)) (by decide) ml94 pp94 (Nat.le_of_ble_eq_true rfl) rfl (by decide) (by decide) ?_
              refine ev_aload_n rfl ?_
              refine g_getv (r := 19) (v := 6) g76399 ad19 (by decide) ft7_5 ((jw_eq e76399)) ?_
              refine ev_bipush ?_
              refine ev_icmpge f94_19 (fun c76400 => absurd c76400 (by omega)) (fun c76400 => ?_)
              refine ev_aload_n rfl ?_
              refine g_getp (r := 19) (c := 22) g76399 ad19 (by decide) (by decide) rf19_2 ft7_2 ?_
              refine ev_aload_n rfl ?_
              refine g_getv (r := 19) (v := 6) g76399 ad19 (by decide) ft7_5 ((jw_eq e76399)) ?_
              refine ev_iload_n rfl ?_
              refine g_iast g76399 ad22 rt22 (fun _ => rfl) (by omega) (by omega) (by omega) (by omega) (fun h76401 e76401 g76401 => ?_)
              have k76401 := k76399.wr e76401 rfl
              refine ev_aload_n rfl ?_
              refine ev_dup (by decide) ?_
              refine g_getv (r := 19) (v := 6) g76401 ad19 (by decide) ft7_5 (((jw_ne e76401 (Or.inl (by decide))).trans (jw_eq e76399))) ?_
              refine ev_iconst ?_
              refine ev_iadd (r := 7) (by decide) ?_
              refine g_putf (r := 19) g76401 ad19 (by decide) ft7_5 (by decide) (fun e => absurd e nz7_5) rf19_5 (by decide) (by omega) (by omega) (fun h76402 e76402 g76402 => ?_)
              have k76402 := k76401.wr e76402 rfl
              refine ev_ret rfl (by decide) (by decide) ?_
              show jEv _ _ _ _ _ _ _ (_, [(2, (f76084 : Int)), (0, 1)], [], _, _, _)
              refine ev_iload_n rfl ?_
              refine ev_aload_n rfl ?_
              refine ev_getf (g76402.flt qf76084) (g76402.ffam qf76084) ft0_1 (((jw_ne e76402 (Or.inl (ne83 bf76084 (by decide)))).trans ((jw_ne e76401 (Or.inl (ne83 bf76084 (by decide)))).trans ((jw_ne e76399 (Or.inl (ne83 bf76084 (by decide)))).trans ((jw_ne e76398 (Or.inl (ne83 bf76084 (by decide)))).trans ((jw_ne e76392 (Or.inl (ne83 bf76084 (by decide)))).trans ((jw_ne e76391 (Or.inl (ne83 bf76084 (by decide)))).trans ((jw_ne e76389 (Or.inl (ne83 bf76084 (by decide)))).trans ((jw_ne e76388 (Or.inl (ne83 bf76084 (by decide)))).trans ((jw_ne e76386 (Or.inl (ne83 bf76084 (by decide)))).trans ((jw_ne e76385 (Or.inl (ne83 bf76084 (by decide)))).trans ((jw_ne e76383 (Or.inl (ne83 bf76084 (by decide)))).trans ((jw_ne e76382 (Or.inl (ne83 bf76084 (by decide)))).trans ((jw_ne e76380 (Or.inl (ne83 bf76084 (by decide)))).trans ((jw_ne e76379 (Or.inl (ne83 bf76084 (by decide)))).trans ((jw_ne e76328 (Or.inl (ne83 bf76084 (by decide)))).trans ev76085)))))))))))))))) ?_
              refine g_ixorB (k := 5) (hi := 31) (by decide) (by decide) (by omega) (by omega) (by omega) (by omega) (fun v76403 ev76403 lv76403 uv76403 => ?_)
              refine ev_ret rfl (by decide) (by decide) ?_
              show jEv _ _ _ _ _ _ _ (_, [(2, (f76084 : Int)), (0, 1)], [(0, v76403)], _, _, _)
              refine ev_aload_n rfl ?_
              refine ev_iconst ?_
              refine ev_in (d := 4) (a := 0) (b := 0) (cd' := c100_0) (m := 2) (L0 := [(2, (f76084 : Int)), (0, 1)]) (jcall_v (A := [(0, 1)]) (S' := [(0, v76403)]) (r := f76084) rfl (g76402.flt qf76084) (by rw [k76402.2.1]; exact tyf76084) (Nat.le_of_ble_eq_true rfl)) (by decide) ml100 pp100 (Nat.le_of_ble_eq_true rfl) rfl (by decide) (by decide) ?_
              refine ev_aload_n rfl ?_
              refine g_fget0 g76402 qf76084 ft0_0 ?_
              refine ev_bipush ?_
              refine ev_in (d := 3) (a := 0) (b := 0) (cd' := c94_0) (m := 2) (L0 := [(2, 19), (0, 60)]) (jcall_v (A := [(0, 60)]) (S' := []) (r := 19) rfl (g76402.lt ad19) (g76402.tg ad19) (Nat.le_of_ble_eq_true rfl)) (by decide) ml94 pp94 (Nat.le_of_ble_eq_true rfl) rfl (by decide) (by decide) ?_
              refine ev_aload_n rfl ?_
              refine g_getv (r := 19) (v := 7) g76402 ad19 (by decide) ft7_5 ((jw_eq e76402)) ?_
              refine ev_bipush ?_
              refine ev_icmpge f94_19 (fun c76404 => absurd c76404 (by omega)) (fun c76404 => ?_)
              refine ev_aload_n rfl ?_
              refine g_getp (r := 19) (c := 22) g76402 ad19 (by decide) (by decide) rf19_2 ft7_2 ?_
              refine ev_aload_n rfl ?_
              refine g_getv (r := 19) (v := 7) g76402 ad19 (by decide) ft7_5 ((jw_eq e76402)) ?_
              refine ev_iload_n rfl ?_
              refine g_iast g76402 ad22 rt22 (fun _ => rfl) (by omega) (by omega) (by omega) (by omega) (fun h76405 e76405 g76405 => ?_)
              have k76405 := k76402.wr e76405 rfl
              refine ev_aload_n rfl ?_
              refine ev_dup (by decide) ?_
              refine g_getv (r := 19) (v := 7) g76405 ad19 (by decide) ft7_5 (((jw_ne e76405 (Or.inl (by decide))).trans (jw_eq e76402))) ?_
              refine ev_iconst ?_
              refine ev_iadd (r := 8) (by decide) ?_
              refine g_putf (r := 19) g76405 ad19 (by decide) ft7_5 (by decide) (fun e => absurd e nz7_5) rf19_5 (by decide) (by omega) (by omega) (fun h76406 e76406 g76406 => ?_)
              have k76406 := k76405.wr e76406 rfl
              refine ev_ret rfl (by decide) (by decide) ?_
              show jEv _ _ _ _ _ _ _ (_, [(2, (f76084 : Int)), (0, 1)], [], _, _, _)
              refine ev_aload_n rfl ?_
              refine ev_iload_n rfl ?_
              refine ev_in (d := 3) (a := 0) (b := 0) (cd' := c20_0) (m := 2) (L0 := [(2, (f76084 : Int)), (0, 1)]) (jcall_u (A := [(0, 1)]) (S' := []) (r := f76084) rfl (g76406.flt qf76084) (g76406.ffam qf76084) (Nat.le_of_ble_eq_true rfl)) (by decide) ml20 pp20 (Nat.le_of_ble_eq_true rfl) rfl (by decide) (by decide) ?_
              refine ev_aload_n rfl ?_
              refine g_fget0 g76406 qf76084 ft0_0 ?_
              refine ev_bipush ?_
              refine ev_in (d := 2) (a := 0) (b := 0) (cd' := c94_0) (m := 2) (L0 := [(2, 19), (0, 50)]) (jcall_v (A := [(0, 50)]) (S' := []) (r := 19) rfl (g76406.lt ad19) (g76406.tg ad19) (Nat.le_of_ble_eq_true rfl)) (by decide) ml94 pp94 (Nat.le_of_ble_eq_true rfl) rfl (by decide) (by decide) ?_
              refine ev_aload_n rfl ?_
              refine g_getv (r := 19) (v := 8) g76406 ad19 (by decide) ft7_5 ((jw_eq e76406)) ?_
              refine ev_bipush ?_
              refine ev_icmpge f94_19 (fun c76407 => absurd c76407 (by omega)) (fun c76407 => ?_)
              refine ev_aload_n rfl ?_
              refine g_getp (r := 19) (c := 22) g76406 ad19 (by decide) (by decide) rf19_2 ft7_2 ?_
              refine ev_aload_n rfl ?_
              refine g_getv (r := 19) (v := 8) g76406 ad19 (by decide) ft7_5 ((jw_eq e76406)) ?_
              refine ev_iload_n rfl ?_
              refine g_iast g76406 ad22 rt22 (fun _ => rfl) (by omega) (by omega) (by omega) (by omega) (fun h76408 e76408 g76408 => ?_)
              have k76408 := k76406.wr e76408 rfl
              refine ev_aload_n rfl ?_
              refine ev_dup (by decide) ?_
              refine g_getv (r := 19) (v := 8) g76408 ad19 (by decide) ft7_5 (((jw_ne e76408 (Or.inl (by decide))).trans (jw_eq e76406))) ?_
              refine ev_iconst ?_
              refine ev_iadd (r := 9) (by decide) ?_
              refine g_putf (r := 19) g76408 ad19 (by decide) ft7_5 (by decide) (fun e => absurd e nz7_5) rf19_5 (by decide) (by omega) (by omega) (fun h76409 e76409 g76409 => ?_)
              have k76409 := k76408.wr e76409 rfl
              refine ev_ret rfl (by decide) (by decide) ?_
              show jEv _ _ _ _ _ _ _ (_, [(2, (f76084 : Int)), (0, 1)], [], _, _, _)
              refine ev_aload_n rfl ?_
              refine ev_iload_n rfl ?_
              refine ev_in (d := 2) (a := 0) (b := 0) (cd' := c5_0) (m := 2) (L0 := [(2, (f76084 : Int)), (0, 1)]) (jcall_u (A := [(0, 1)]) (S' := []) (r := f76084) rfl (g76409.flt qf76084) (g76409.ffam qf76084) (Nat.le_of_ble_eq_true rfl)) (by decide) ml5 pp5 (Nat.le_of_ble_eq_true rfl) rfl (by decide) (by decide) ?_
              refine ev_aload_n rfl ?_
              refine g_fget0 g76409 qf76084 ft0_0 ?_
              refine ev_iconst ?_
              refine ev_in (d := 1) (a := 0) (b := 0) (cd' := c94_0) (m := 2) (L0 := [(2, 19), (0, 1)]) (jcall_v (A := [(0, 1)]) (S' := []) (r := 19) rfl (g76409.lt ad19) (g76409.tg ad19) (Nat.le_of_ble_eq_true rfl)) (by decide) ml94 pp94 (Nat.le_of_ble_eq_true rfl) rfl (by decide) (by decide) ?_
              refine ev_aload_n rfl ?_
              refine g_getv (r := 19) (v := 9) g76409 ad19 (by decide) ft7_5 ((jw_eq e76409)) ?_
              refine ev_bipush ?_
              refine ev_icmpge f94_19 (fun c76410 => absurd c76410 (by omega)) (fun c76410 => ?_)
              refine ev_aload_n rfl ?_
              refine g_getp (r := 19) (c := 22) g76409 ad19 (by decide) (by decide) rf19_2 ft7_2 ?_
              refine ev_aload_n rfl ?_
              refine g_getv (r := 19) (v := 9) g76409 ad19 (by decide) ft7_5 ((jw_eq e76409)) ?_
              refine ev_iload_n rfl ?_
              refine g_iast g76409 ad22 rt22 (fun _ => rfl) (by omega) (by omega) (by omega) (by omega) (fun h76411 e76411 g76411 => ?_)
              have k76411 := k76409.wr e76411 rfl
              refine ev_aload_n rfl ?_
              refine ev_dup (by decide) ?_
              refine g_getv (r := 19) (v := 9) g76411 ad19 (by decide) ft7_5 (((jw_ne e76411 (Or.inl (by decide))).trans (jw_eq e76409))) ?_
              refine ev_iconst ?_
              refine ev_iadd (r := 10) (by decide) ?_
              refine g_putf (r := 19) g76411 ad19 (by decide) ft7_5 (by decide) (fun e => absurd e nz7_5) rf19_5 (by decide) (by omega) (by omega) (fun h76412 e76412 g76412 => ?_)
              have k76412 := k76411.wr e76412 rfl
              refine ev_ret rfl (by decide) (by decide) ?_
              show jEv _ _ _ _ _ _ _ (_, [(2, (f76084 : Int)), (0, 1)], [], _, _, _)
              refine ev_iload_n rfl ?_
              refine ev_aload_n rfl ?_
              refine ev_getf (g76412.flt qf76084) (g76412.ffam qf76084) ft0_1 (((jw_ne e76412 (Or.inl (ne83 bf76084 (by decide)))).trans ((jw_ne e76411 (Or.inl (ne83 bf76084 (by decide)))).trans ((jw_ne e76409 (Or.inl (ne83 bf76084 (by decide)))).trans ((jw_ne e76408 (Or.inl (ne83 bf76084 (by decide)))).trans ((jw_ne e76406 (Or.inl (ne83 bf76084 (by decide)))).trans ((jw_ne e76405 (Or.inl (ne83 bf76084 (by decide)))).trans ((jw_ne e76402 (Or.inl (ne83 bf76084 (by decide)))).trans ((jw_ne e76401 (Or.inl (ne83 bf76084 (by decide)))).trans ((jw_ne e76399 (Or.inl (ne83 bf76084 (by decide)))).trans ((jw_ne e76398 (Or.inl (ne83 bf76084 (by decide)))).trans ((jw_ne e76392 (Or.inl (ne83 bf76084 (by decide)))).trans ((jw_ne e76391 (Or.inl (ne83 bf76084 (by decide)))).trans ((jw_ne e76389 (Or.inl (ne83 bf76084 (by decide)))).trans ((jw_ne e76388 (Or.inl (ne83 bf76084 (by decide)))).trans ((jw_ne e76386 (Or.inl (ne83 bf76084 (by decide)))).trans ((jw_ne e76385 (Or.inl (ne83 bf76084 (by decide)))).trans ((jw_ne e76383 (Or.inl (ne83 bf76084 (by decide)))).trans ((jw_ne e76382 (Or.inl (ne83 bf76084 (by decide)))).trans ((jw_ne e76380 (Or.inl (ne83 bf76084 (by decide)))).trans ((jw_ne e76379 (Or.inl (ne83 bf76084 (by decide)))).trans ((jw_ne e76328 (Or.inl (ne83 bf76084 (by decide)))).trans ev76085)))))))))))))))))))))) ?_
              refine ev_iadd (r := (v76085 + 1)) (by unfold w32; omega) ?_
              refine ev_ret rfl (by decide) (by decide) ?_
              show jEv _ _ _ _ _ _ _ (_, [(2, (f76084 : Int)), (0, 1)], [(0, (v76085 + 1))], _, _, _)
              refine ev_aload_n rfl ?_
              refine ev_getf (g76412.flt qf76084) (g76412.ffam qf76084) ft0_2 (((jw_ne e76412 (Or.inl (ne83 bf76084 (by decide)))).trans ((jw_ne e76411 (Or.inl (ne83 bf76084 (by decide)))).trans ((jw_ne e76409 (Or.inl (ne83 bf76084 (by decide)))).trans ((jw_ne e76408 (Or.inl (ne83 bf76084 (by decide)))).trans ((jw_ne e76406 (Or.inl (ne83 bf76084 (by decide)))).trans ((jw_ne e76405 (Or.inl (ne83 bf76084 (by decide)))).trans ((jw_ne e76402 (Or.inl (ne83 bf76084 (by decide)))).trans ((jw_ne e76401 (Or.inl (ne83 bf76084 (by decide)))).trans ((jw_ne e76399 (Or.inl (ne83 bf76084 (by decide)))).trans ((jw_ne e76398 (Or.inl (ne83 bf76084 (by decide)))).trans ((jw_ne e76392 (Or.inl (ne83 bf76084 (by decide)))).trans ((jw_ne e76391 (Or.inl (ne83 bf76084 (by decide)))).trans ((jw_ne e76389 (Or.inl (ne83 bf76084 (by decide)))).trans ((jw_ne e76388 (Or.inl (ne83 bf76084 (by decide)))).trans ((jw_ne e76386 (Or.inl (ne83 bf76084 (by decide)))).trans ((jw_ne e76385 (Or.inl (ne83 bf76084 (by decide)))).trans ((jw_ne e76383 (Or.inl (ne83 bf76084 (by decide)))).trans ((jw_ne e76382 (Or.inl (ne83 bf76084 (by decide)))).trans ((jw_ne e76380 (Or.inl (ne83 bf76084 (by decide)))).trans ((jw_ne e76379 (Or.inl (ne83 bf76084 (by decide)))).trans ((jw_ne e76328 (Or.inl (ne83 bf76084 (by decide)))).trans ev76086)))))))))))))))))))))) ?_
              refine ev_iadd (r := (v76085 + v76086 + 1)) (by unfold w32; omega) ?_
              refine ev_ret rfl (by decide) (by decide) ?_
              show jEv _ _ _ _ _ _ _ (_, [(2, (f76084 : Int)), (0, 1)], [(0, (v76085 + v76086 + 1))], _, _, _)
              refine ev_ineg (r := ((-v76085) + (-v76086) - 1)) (by unfold w32; omega) ?_
              refine ev_ret rfl (by decide) (by decide) ?_
              show jEv _ _ _ _ _ _ _ (_, [(2, (f76084 : Int)), (0, 1)], [(0, ((-v76085) + (-v76086) - 1)), (0, v76403)], _, _, _)
              refine ev_iadd (r := ((-v76085) + (-v76086) + v76403 - 1)) (by unfold w32; omega) ?_
              refine ev_ret rfl (by decide) (by decide) ?_
              show jEv _ _ _ _ _ _ _ (_, [(2, (f76084 : Int)), (0, a3)], [(0, ((-v76085) + (-v76086) + v76403 - 1)), (0, v76396)], _, _, _)
              refine g_isubG (fun v76413 ev76413 lv76413 uv76413 => ?_)
              refine ev_ret rfl (by decide) (by decide) ?_
              show jEv _ _ _ _ _ _ _ (_, [(2, 0), (0, a1), (0, a2), (0, a3), (2, (f76084 : Int))], [(0, v76413)], _, _, _)
              exact ev_ret rfl (by decide) (by decide) ⟨_, rfl, g76412, k76412, Or.inr ⟨(by unfold AV0; rw [ev76082]; omega), f76084, ef76084, by rw [tyf76084, show kdT 8 = 5 from rfl, show a2 = 3 by omega, ev76085, ev76086, ac_5_3]; (try rw [ev76393]); (try rw [ev76394]); (try rw [ev76395]); (try rw [ev76396]); (try rw [ev76403]); (try rw [ev76413]); all_goals (first | rfl | omega | (unfold w32 at *; omega)), by rw [tyf76084, show kdT 8 = 5 from rfl, show a2 = 3 by omega, tr_5_3]; exact ⟨(((jw_eq e76412))), (((jw_ne e76412 (Or.inl (by decide))).trans ((jw_ne e76411 (Or.inr (by decide))).trans ((jw_ne e76409 (Or.inl (by decide))).trans ((jw_ne e76408 (Or.inr (by decide))).trans ((jw_ne e76406 (Or.inl (by decide))).trans ((jw_ne e76405 (Or.inr (by decide))).trans ((jw_ne e76402 (Or.inl (by decide))).trans ((jw_ne e76401 (Or.inr (by decide))).trans ((jw_ne e76399 (Or.inl (by decide))).trans ((jw_ne e76398 (Or.inr (by decide))).trans ((jw_ne e76392 (Or.inl (by decide))).trans ((jw_ne e76391 (Or.inr (by decide))).trans ((jw_ne e76389 (Or.inl (by decide))).trans ((jw_ne e76388 (Or.inr (by decide))).trans ((jw_ne e76386 (Or.inl (by decide))).trans ((jw_ne e76385 (Or.inr (by decide))).trans ((jw_ne e76383 (Or.inl (by decide))).trans ((jw_ne e76382 (Or.inr (by decide))).trans ((jw_ne e76380 (Or.inl (by decide))).trans (jw_eq e76379))))))))))))))))))))), (((jw_ne e76412 (Or.inl (by decide))).trans ((jw_ne e76411 (Or.inr (by decide))).trans ((jw_ne e76409 (Or.inl (by decide))).trans ((jw_ne e76408 (Or.inr (by decide))).trans ((jw_ne e76406 (Or.inl (by decide))).trans ((jw_ne e76405 (Or.inr (by decide))).trans ((jw_ne e76402 (Or.inl (by decide))).trans ((jw_ne e76401 (Or.inr (by decide))).trans ((jw_ne e76399 (Or.inl (by decide))).trans ((jw_ne e76398 (Or.inr (by decide))).trans ((jw_ne e76392 (Or.inl (by decide))).trans ((jw_ne e76391 (Or.inr (by decide))).trans ((jw_ne e76389 (Or.inl (by decide))).trans ((jw_ne e76388 (Or.inr (by decide))).trans ((jw_ne e76386 (Or.inl (by decide))).trans ((jw_ne e76385 (Or.inr (by decide))).trans ((jw_ne e76383 (Or.inl (by decide))).trans (jw_eq e76382))))))))))))))))))), (((jw_ne e76412 (Or.inl (by decide))).trans ((jw_ne e76411 (Or.inr (by decide))).trans ((jw_ne e76409 (Or.inl (by decide))).trans ((jw_ne e76408 (Or.inr (by decide))).trans ((jw_ne e76406 (Or.inl (by decide))).trans ((jw_ne e76405 (Or.inr (by decide))).trans ((jw_ne e76402 (Or.inl (by decide))).trans ((jw_ne e76401 (Or.inr (by decide))).trans ((jw_ne e76399 (Or.inl (by decide))).trans ((jw_ne e76398 (Or.inr (by decide))).trans ((jw_ne e76392 (Or.inl (by decide))).trans ((jw_ne e76391 (Or.inr (by decide))).trans ((jw_ne e76389 (Or.inl (by decide))).trans ((jw_ne e76388 (Or.inr (by decide))).trans ((jw_ne e76386 (Or.inl (by decide))).trans (jw_eq e76385))))))))))))))))), (((jw_ne e76412 (Or.inl (by decide))).trans ((jw_ne e76411 (Or.inr (by decide))).trans ((jw_ne e76409 (Or.inl (by decide))).trans ((jw_ne e76408 (Or.inr (by decide))).trans ((jw_ne e76406 (Or.inl (by decide))).trans ((jw_ne e76405 (Or.inr (by decide))).trans ((jw_ne e76402 (Or.inl (by decide))).trans ((jw_ne e76401 (Or.inr (by decide))).trans ((jw_ne e76399 (Or.inl (by decide))).trans ((jw_ne e76398 (Or.inr (by decide))).trans ((jw_ne e76392 (Or.inl (by decide))).trans ((jw_ne e76391 (Or.inr (by decide))).trans ((jw_ne e76389 (Or.inl (by decide))).trans (jw_eq e76388))))))))))))))), (((jw_ne e76412 (Or.inl (by decide))).trans ((jw_ne e76411 (Or.inr (by decide))).trans ((jw_ne e76409 (Or.inl (by decide))).trans ((jw_ne e76408 (Or.inr (by decide))).trans ((jw_ne e76406 (Or.inl (by decide))).trans ((jw_ne e76405 (Or.inr (by decide))).trans ((jw_ne e76402 (Or.inl (by decide))).trans ((jw_ne e76401 (Or.inr (by decide))).trans ((jw_ne e76399 (Or.inl (by decide))).trans ((jw_ne e76398 (Or.inr (by decide))).trans ((jw_ne e76392 (Or.inl (by decide))).trans (jw_eq e76391))))))))))))), (((jw_ne e76412 (Or.inl (by decide))).trans ((jw_ne e76411 (Or.inr (by decide))).trans ((jw_ne e76409 (Or.inl (by decide))).trans ((jw_ne e76408 (Or.inr (by decide))).trans ((jw_ne e76406 (Or.inl (by decide))).trans ((jw_ne e76405 (Or.inr (by decide))).trans ((jw_ne e76402 (Or.inl (by decide))).trans ((jw_ne e76401 (Or.inr (by decide))).trans ((jw_ne e76399 (Or.inl (by decide))).trans (jw_eq e76398))))))))))), (((jw_ne e76412 (Or.inl (by decide))).trans ((jw_ne e76411 (Or.inr (by decide))).trans ((jw_ne e76409 (Or.inl (by decide))).trans ((jw_ne e76408 (Or.inr (by decide))).trans ((jw_ne e76406 (Or.inl (by decide))).trans ((jw_ne e76405 (Or.inr (by decide))).trans ((jw_ne e76402 (Or.inl (by decide))).trans (jw_eq e76401))))))))), (((jw_ne e76412 (Or.inl (by decide))).trans ((jw_ne e76411 (Or.inr (by decide))).trans ((jw_ne e76409 (Or.inl (by decide))).trans ((jw_ne e76408 (Or.inr (by decide))).trans ((jw_ne e76406 (Or.inl (by decide))).trans (jw_eq e76405))))))), (((jw_ne e76412 (Or.inl (by decide))).trans ((jw_ne e76411 (Or.inr (by decide))).trans ((jw_ne e76409 (Or.inl (by decide))).trans (jw_eq e76408))))), (((jw_ne e76412 (Or.inl (by decide))).trans (jw_eq e76411))), trivial⟩⟩⟩
          · refine ev_iconst ?_
            exact ev_ret rfl (by decide) (by decide) ⟨_, rfl, g76328, k76328, Or.inl ⟨(by unfold AV0; rw [ev76082]; omega), rfl, ((jw_eq e76328))⟩⟩
    · refine ev_aconst_null ?_
      refine ev_goto f220_22 ?_
      refine ev_ret rfl (by decide) (by decide) ?_
      show jEv _ _ _ _ _ _ _ (_, [(2, 0), (0, a1), (0, a2), (0, a3), (9, 0)], [(2, (-1))], _, _, _)
      refine ev_astore (L' := [(2, 0), (0, a1), (0, a2), (0, a3), (2, (-1))]) (Nat.le_of_ble_eq_true rfl) rfl ?_
      refine ev_aload_n rfl ?_
      refine g_getp (r := 0) (c := 19) g ad0 (by decide) (by decide) rf0_4 ft11_4 ?_
      refine ev_in (d := 6) (a := 0) (b := 0) (cd' := c93_0) (m := 1) (L0 := [(2, 19)]) (jcall_v (A := []) (S' := []) (r := 19) rfl (g.lt ad19) (g.tg ad19) (Nat.le_of_ble_eq_true rfl)) (by decide) ml93 pp93 (Nat.le_of_ble_eq_true rfl) rfl (by decide) (by decide) ?_
      refine ev_aload_n rfl ?_
      refine ev_iconst ?_
      refine g_putf (r := 19) g ad19 (by decide) ft7_5 (by decide) (fun e => absurd e nz7_5) rf19_5 (by decide) (by omega) (by omega) (fun h76414 e76414 g76414 => ?_)
      have k76414 := k0.wr e76414 rfl
      refine ev_ret rfl (by decide) (by decide) ?_
      show jEv _ _ _ _ _ _ _ (_, [(2, 0), (0, a1), (0, a2), (0, a3), (2, (-1))], [], _, _, _)
      refine ev_aload rfl ?_
      refine ev_ifnull f210_28 (fun c76415 => ?_) (fun c76415 => absurd c76415 (by decide))
      refine ev_iconst ?_
      exact ev_ret rfl (by decide) (by decide) ⟨_, rfl, g76414, k76414, Or.inl ⟨(by unfold AV0; rw [ev76082]; omega), rfl, ((jw_eq e76414))⟩⟩
