def Up (h h' : JH) (a : Nat) (i v : Int) : Prop := h'.2.2 a i.toNat = v ∧ ∀ j : Nat, j ≠ i.toNat → h'.2.2 a j = h.2.2 a j
theorem Up.mk2 {h h' : JH} {a : Nat} {i i' v v' : Int} (e : h' = jwr h a i.toNat v) (hi : i' = i) (hv : v' = v) : Up h h' a i' v' := by
  subst hi
  subst hv
  exact ⟨jw_eq e, fun j hj => jw_ne e (Or.inr hj)⟩
theorem Up.kp {W : List (Nat × Nat)} {h h1 h2 : JH} {a : Nat} {i v : Int} (u : Up h h1 a i v) (k : Kp W h1 h2) (c : ∀ j, inW W a j = false) : Up h h2 a i v := ⟨(k.v (c _)).trans u.1, fun j hj => (k.v (c _)).trans (u.2 j hj)⟩
theorem Up.pk {W : List (Nat × Nat)} {h h1 h2 : JH} {a : Nat} {i v : Int} (k : Kp W h h1) (c : ∀ j, inW W a j = false) (u : Up h1 h2 a i v) : Up h h2 a i v := ⟨u.1, fun j hj => (u.2 j hj).trans (k.v (c _))⟩
def Sm (h h' : JH) (a : Nat) : Prop := ∀ j : Nat, h'.2.2 a j = h.2.2 a j
def Sh (hc sc hr sr : Int) : Prop := (hc = -1 ∧ hr = -1) ∨ (0 ≤ hc ∧ hc ≤ 4 ∧ hr = -2 - hc ∧ sr = sc) ∨ (10 ≤ hc ∧ hr = hc - 10)
def Cc : List (Nat × Nat) := [(0, 8), (42, 29), (37, 0), (38, 0), (79, 0), (80, 0)]
def Rl (h : JH) : Prop := h.2.2 0 7 = h.2.2 42 28 ∧ ∀ s : Nat, s < 6 → Sh (h.2.2 37 s) (h.2.2 38 s) (h.2.2 79 s) (h.2.2 80 s)
theorem Rl.fr {h h' : JH} (x : Rl h) (e : ∀ a i, inW Cc a i = true → h'.2.2 a i = h.2.2 a i) : Rl h' := by
  refine ⟨by rw [e 0 7 rfl, e 42 28 rfl]; exact x.1, fun s hs => ?_⟩
  rw [e 37 _ rfl, e 38 _ rfl, e 79 _ rfl, e 80 _ rfl]
  exact x.2 s hs
def dsj (C W : List (Nat × Nat)) : Bool := C.all (fun c => decide (c.1 < 83) && W.all (fun w => w.1 != c.1 || (w.2 != 0 && c.2 != 0 && w.2 != c.2)))
theorem dsj_at {C W : List (Nat × Nat)} (h : dsj C W = true) {a i : Nat} (hc : inW C a i = true) : a < 83 ∧ inW W a i = false := by
  unfold inW at hc
  obtain ⟨c, hm, hq⟩ := List.any_eq_true.mp hc
  have h1 := List.all_eq_true.mp h c hm
  rw [Bool.and_eq_true, decide_eq_true_eq] at h1
  simp only [Bool.or_eq_true, Bool.and_eq_true, beq_iff_eq, decide_eq_true_eq] at hq
  have ha : a < 83 := by omega
  refine ⟨ha, ?_⟩
  unfold inW
  rw [List.any_eq_false]
  intro w hw hx
  have h2 := List.all_eq_true.mp h1.2 w hw
  simp only [Bool.or_eq_true, Bool.and_eq_true, bne_iff_ne] at h2
  simp only [Bool.or_eq_true, Bool.and_eq_true, beq_iff_eq, decide_eq_true_eq] at hx
  omega
theorem Rl.kp {W : List (Nat × Nat)} {h h' : JH} (x : Rl h) (k : Kp W h h') (hd : dsj Cc W = true) : Rl h' := x.fr (fun a i hc => k.v (dsj_at hd hc).2)
theorem Rl.kx {W : List (Nat × Nat)} {h h' : JH} (x : Rl h) (k : Kx W h h') (hd : dsj Cc W = true) (h83 : 83 ≤ h.1) : Rl h' := x.fr (fun a i hc => k.2.2 a i (Nat.lt_of_lt_of_le (dsj_at hd hc).1 h83) (dsj_at hd hc).2)
def KV (k f n : Int) : Prop := 0 ≤ k ∧ k ≤ 5 ∧ (f = -1 ∨ (0 ≤ f ∧ f < n))
def RV (k o n : Int) : Prop := 0 ≤ k ∧ k ≤ 5 ∧ 0 ≤ o ∧ o ≤ 4 ∧ 0 ≤ n ∧ n ≤ 60
def KeC (h h' : JH) (k f n r : Int) : Prop := (¬ KV k f n ∧ r = -1 ∧ Sm h h' 37 ∧ Sm h h' 38) ∨ (KV k f n ∧ r = 1 ∧ Up h h' 37 k (if f = -1 then -1 else f + 10) ∧ Up h h' 38 k 0)
def KeR (h h' : JH) (k f n r : Int) : Prop := (¬ KV k f n ∧ r = -1 ∧ Sm h h' 79) ∨ (KV k f n ∧ r = 1 ∧ Up h h' 79 k f)
def RoC (h h' : JH) (k o n : Int) : Prop := (¬ RV k o n ∧ Sm h h' 37 ∧ Sm h h' 38) ∨ (RV k o n ∧ Up h h' 37 k o ∧ Up h h' 38 k n)
def RoR (h h' : JH) (k o n : Int) : Prop := (¬ RV k o n ∧ Sm h h' 79 ∧ Sm h h' 80) ∨ (RV k o n ∧ Up h h' 79 k (-2 - o) ∧ Up h h' 80 k n)
def puC (k i hc sc : Int) : Int := if 0 ≤ k ∧ k ≤ 5 then (if hc = -1 then -11 else if 10 ≤ hc then -12 else if 0 ≤ i ∧ i < sc then 1 else -13) else -1
def puR (k i hr sr : Int) : Int := if 0 ≤ k ∧ k ≤ 5 then (if hr = -1 then -11 else if 0 ≤ hr then -12 else if 0 ≤ i ∧ i < sr then 1 else -13) else -1
def shC (k i o j n hk ho sk so : Int) : Int := if 0 ≤ k ∧ k ≤ 5 ∧ 0 ≤ o ∧ o ≤ 5 then (if hk = -1 ∨ ho = -1 then -11 else if 10 ≤ hk ∨ hk ≠ ho then -12 else if n < 0 ∨ i < 0 ∨ j < 0 ∨ sk - n < i ∨ so - n < j then -13 else n) else -1
def shR (k i o j n hk ho sk so : Int) : Int := if 0 ≤ k ∧ k ≤ 5 ∧ 0 ≤ o ∧ o ≤ 5 then (if hk = -1 ∨ ho = -1 then -11 else if 0 ≤ hk ∨ hk ≠ ho then -12 else if n < 0 ∨ i < 0 ∨ j < 0 ∨ sk - n < i ∨ so - n < j then -13 else n) else -1
theorem pu_eq {k i hc sc hr sr : Int} (x : 0 ≤ k → k ≤ 5 → Sh hc sc hr sr) : puC k i hc sc = puR k i hr sr := by
  unfold puC puR
  by_cases z : 0 ≤ k ∧ k ≤ 5
  · rw [if_pos z, if_pos z]
    have y := x z.1 z.2
    unfold Sh at y
    (repeat' split) <;> omega
  · rw [if_neg z, if_neg z]
theorem sh_eq {k i o j n hk sk hk' sk' ho so ho' so' : Int} (x : 0 ≤ k → k ≤ 5 → Sh hk sk hk' sk') (y : 0 ≤ o → o ≤ 5 → Sh ho so ho' so') : shC k i o j n hk ho sk so = shR k i o j n hk' ho' sk' so' := by
  unfold shC shR
  by_cases z : 0 ≤ k ∧ k ≤ 5 ∧ 0 ≤ o ∧ o ≤ 5
  · rw [if_pos z, if_pos z]
    have x1 := x z.1 z.2.1
    have y1 := y z.2.2.1 z.2.2.2
    unfold Sh at x1 y1
    (repeat' split) <;> omega
  · rw [if_neg z, if_neg z]
theorem Rl.sh {h : JH} (x : Rl h) {k : Int} (k0 : 0 ≤ k) (k5 : k ≤ 5) : Sh (h.2.2 37 k.toNat) (h.2.2 38 k.toNat) (h.2.2 79 k.toNat) (h.2.2 80 k.toNat) := x.2 k.toNat (by omega)
theorem Rl.keep {h h1 h2 : JH} {k f n r1 r2 : Int} (x : Rl h) (k1 : Kp [(37, 0), (38, 0)] h h1) (k2 : Kp [(79, 0)] h1 h2) (f1 : KeC h h1 k f n r1) (f2 : KeR h1 h2 k f n r2) : r1 = r2 ∧ Rl h2 := by
  have y1 : h2.2.2 0 7 = h2.2.2 42 28 := by rw [k2.v rfl, k1.v rfl, k2.v (a := 42) rfl, k1.v (a := 42) rfl]; exact x.1
  have e37 : ∀ j, h2.2.2 37 j = h1.2.2 37 j := fun j => k2.v rfl
  have e38 : ∀ j, h2.2.2 38 j = h1.2.2 38 j := fun j => k2.v rfl
  have e79 : ∀ j, h1.2.2 79 j = h.2.2 79 j := fun j => k1.v rfl
  have e80 : ∀ j, h2.2.2 80 j = h.2.2 80 j := fun j => (k2.v rfl).trans (k1.v rfl)
  rcases f1 with ⟨n1, q1, m1, m2⟩ | ⟨t1, q1, m1, m2⟩
  · rcases f2 with ⟨_, q2, m3⟩ | ⟨t2, _⟩
    · exact ⟨q1.trans q2.symm, y1, fun s hs => by rw [e37, e38, m1, m2, m3, e79, e80]; exact x.2 s hs⟩
    · exact absurd t2 n1
  · rcases f2 with ⟨n2, _⟩ | ⟨_, q2, m3⟩
    · exact absurd t1 n2
    · refine ⟨q1.trans q2.symm, y1, fun s hs => ?_⟩
      rw [e37, e38, e80]
      unfold KV at t1
      rcases Decidable.em (s = k.toNat) with z | z
      · rw [z, m1.1, m2.1, m3.1]
        unfold Sh
        split <;> omega
      · rw [m1.2 s z, m2.2 s z, m3.2 s z, e79]
        exact x.2 s hs
theorem Rl.row {h h1 h2 : JH} {k o n : Int} (x : Rl h) (k1 : Kp [(37, 0), (38, 0), (39, 0)] h h1) (k2 : Kp [(79, 0), (80, 0), (81, 0)] h1 h2) (f1 : RoC h h1 k o n) (f2 : RoR h1 h2 k o n) : Rl h2 := by
  have y1 : h2.2.2 0 7 = h2.2.2 42 28 := by rw [k2.v rfl, k1.v rfl, k2.v (a := 42) rfl, k1.v (a := 42) rfl]; exact x.1
  have e37 : ∀ j, h2.2.2 37 j = h1.2.2 37 j := fun j => k2.v rfl
  have e38 : ∀ j, h2.2.2 38 j = h1.2.2 38 j := fun j => k2.v rfl
  have e79 : ∀ j, h1.2.2 79 j = h.2.2 79 j := fun j => k1.v rfl
  have e80 : ∀ j, h1.2.2 80 j = h.2.2 80 j := fun j => k1.v rfl
  rcases f1 with ⟨n1, m1, m2⟩ | ⟨t1, m1, m2⟩
  · rcases f2 with ⟨_, m3, m4⟩ | ⟨t2, _⟩
    · exact ⟨y1, fun s hs => by rw [e37, e38, m1, m2, m3, m4, e79, e80]; exact x.2 s hs⟩
    · exact absurd t2 n1
  · rcases f2 with ⟨n2, _⟩ | ⟨_, m3, m4⟩
    · exact absurd t1 n2
    · refine ⟨y1, fun s hs => ?_⟩
      rw [e37, e38]
      unfold RV at t1
      rcases Decidable.em (s = k.toNat) with z | z
      · rw [z, m1.1, m2.1, m3.1, m4.1]
        unfold Sh
        omega
      · rw [m1.2 s z, m2.2 s z, m3.2 s z, m4.2 s z, e79, e80]
        exact x.2 s hs
theorem Rl.feel {h h1 h2 : JH} (x : Rl h) (h83 : 83 ≤ h.1) (k1 : Kx [(0, 8), (24, 0)] h h1) (k2 : Kp [(42, 29), (60, 0), (61, 0)] h1 h2) (e : h2.2.2 0 7 = h2.2.2 42 28) : Rl h2 := by
  have f : ∀ a j, a < 83 → inW [(0, 8), (24, 0)] a j = false → inW [(42, 29), (60, 0), (61, 0)] a j = false → h2.2.2 a j = h.2.2 a j := fun a j ha c1 c2 => (k2.v c2).trans (k1.2.2 a j (by omega) c1)
  refine ⟨e, fun s hs => ?_⟩
  rw [f 37 s (by decide) rfl rfl, f 38 s (by decide) rfl rfl, f 79 s (by decide) rfl rfl, f 80 s (by decide) rfl rfl]
  exact x.2 s hs
def feF (k p n : Int) : Int := if 0 ≤ k ∧ k ≤ 5 ∧ (k < 4 ∨ (0 ≤ p ∧ p ≤ 100)) then (if n = 20 then -3 else n) else -1
def feG (k p n : Int) : Int := if 0 ≤ k ∧ k ≤ 5 ∧ (k < 4 ∨ (0 ≤ p ∧ p ≤ 100)) ∧ n ≠ 20 then n + 1 else n
def kpF (k f n : Int) : Int := if 0 ≤ k ∧ k ≤ 5 ∧ (f = -1 ∨ (0 ≤ f ∧ f < n)) then 1 else -1
set_option maxHeartbeats 4000000 in
theorem t178 {G : GH} {h : JH} (g : Gd G h) {a1 : Int} (la1 : (-2147483648) ≤ a1) (ua1 : a1 ≤ 2147483647) {a2 : Int} (la2 : (-2147483648) ≤ a2) (ua2 : a2 ≤ 2147483647) {w0 : Int} (ew0 : h.2.2 0 7 = w0) (lw0 : 0 ≤ w0) (uw0 : w0 ≤ 20) (hB : h.1 ≤ 1000000) : jOk 5 1 3 178 [(2, 0), (0, a1), (0, a2)] h (fun v h' => PN [(0, 8), (24, 0)] h 0 (-3) 19 v h' ∧ (∀ r, v = some (0, r) → r = feF a1 a2 w0) ∧ h'.2.2 0 7 = feG a1 a2 w0) := by
  refine ⟨by decide, by rw [ml178]; exact Nat.le_of_ble_eq_true rfl, ?_⟩
  rw [ml178, pp178]
  show jEv _ none _ c178_0 1 3 _ (c178_0, [(2, 0), (0, a1), (0, a2), (9, 0)], [], h, 0, 0)
  have k0 := Kp.rf [(0, 8), (24, 0)] h
  refine ev_iload_n rfl ?_
  refine ev_iconst ?_
  refine ev_icmpeq f178_10 (fun c75733 => ?_) (fun c75733 => ?_)
  · refine ev_iconst ?_
    refine ev_goto f178_15 ?_
    refine ev_istore_n (L' := [(2, 0), (0, a1), (0, a2), (0, 1)]) (Nat.le_of_ble_eq_true rfl) rfl ?_
    refine ev_iload_n rfl ?_
    refine ev_iflt f178_39 (fun c75734 => absurd c75734 (by omega)) (fun c75734 => ?_)
    refine ev_iload_n rfl ?_
    refine ev_iconst ?_
    refine ev_icmpgt f178_39 (fun c75735 => absurd c75735 (by omega)) (fun c75735 => ?_)
    refine ev_iload_n rfl ?_
    refine ev_ifeq f178_41 (fun c75736 => absurd c75736 (by omega)) (fun c75736 => ?_)
    refine ev_iload_n rfl ?_
    refine ev_iflt f178_39 (fun c75737 => ?_) (fun c75737 => ?_)
    · refine ev_iconst ?_
      exact ev_ret rfl (by decide) (by decide) ⟨⟨_, rfl, by omega, by omega, ⟨_, g⟩, k0.x, by rw [k0.1]; omega⟩, fun r hr => by cases hr; (try unfold feF); (try unfold feG); (try unfold kpF); (repeat' split) <;> omega, ((ew0)).trans (by (try unfold feF); (try unfold feG); (try unfold kpF); (repeat' split) <;> omega)⟩
    · refine ev_iload_n rfl ?_
      refine ev_bipush ?_
      refine ev_icmple f178_41 (fun c75738 => ?_) (fun c75738 => ?_)
      · refine ev_aload_n rfl ?_
        refine g_getv (r := 0) (v := w0) g ad0 (by decide) ft11_7 (ew0) ?_
        refine ev_bipush ?_
        refine ev_icmplt f178_53 (fun c75739 => ?_) (fun c75739 => ?_)
        · refine ev_aload_n rfl ?_
          refine g_getp (r := 0) (c := 24) g ad0 (by decide) (by decide) rf0_6 ft11_6 ?_
          refine ev_aload_n rfl ?_
          refine g_getv (r := 0) (v := w0) g ad0 (by decide) ft11_7 (ew0) ?_
          refine ev_aload_n rfl ?_
          refine ev_iload_n rfl ?_
          refine ev_aload_n rfl ?_
          refine g_getv (r := 0) (v := w0) g ad0 (by decide) ft11_7 (ew0) ?_
          refine ev_iload_n rfl ?_
          refine ev_ifeq f178_75 (fun c75740 => absurd c75740 (by omega)) (fun c75740 => ?_)
          refine ev_iload_n rfl ?_
          refine ev_goto f178_76 ?_
          refine ev_call (jcall_v (A := [(0, a2), (0, w0), (0, a1)]) (S' := [(0, w0), (2, 24)]) (r := 0) rfl (g.lt ad0) (g.tg ad0) (Nat.le_of_ble_eq_true rfl)) (jOk_le (by decide) (newFeel (d := 0) (s := 19) (g.lt ad0) (g.fam ad0 (by decide)) (g.pt ad0 (i := 4) (by decide) rf0_4) (g.lt ad19))) (by decide) (by decide) (fun w75741 h75741 z75741 => ?_)
          obtain ⟨rfl, z75741⟩ := z75741
          obtain ⟨g75741, es75741, x75741⟩ := g.newF (feelT_fam _) (by omega) (by omega) (by omega) (by omega) z75741
          have hz75741 := k0.1
          have k75741 := Kx.tx k0 x75741 (by decide)
          have fz75741 := g.2.1.1
          show jEv _ _ _ _ _ _ _ (_, [(2, 0), (0, a1), (0, a2), (0, 1)], [(2, (h.1 : Int)), (0, w0), (2, 24)], _, _, _)
          have ff75742 := gF_at (n := w0) (p := a2) g
          refine ev_astoG (r := 24) (j := (w0).toNat) (v := h.1) (g75741.lt ad24) (g75741.tg ad24) (by omega) (by rw [g75741.ln ad24]; omega) (by rw [es75741]; omega) (newF_ty (feelT_fam _) z75741) (fun h75742a e75742a => ?_)
          refine ev_aload_n rfl ?_
          refine ev_dup (by decide) ?_
          refine ev_getf (r := 0) (v := w0) (by rw [(jwr_ty e75742a).1]; exact g75741.lt ad0) (by rw [(jwr_ty e75742a).2]; exact g75741.fam ad0 (by decide)) ft11_7 ((jw_ne e75742a (Or.inl (by decide))).trans (((x75741.2.2 0 7 (g.lt ad0) (by decide)).trans ew0))) ?_
          refine ev_iconst ?_
          refine ev_iadd (r := (w0 + 1)) (by unfold w32; omega) ?_
          refine ev_putfG (r := 0) (by rw [(jwr_ty e75742a).1]; exact g75741.lt ad0) (by rw [(jwr_ty e75742a).2]; exact g75741.fam ad0 (by decide)) ft11_7 (fun e => absurd e nz11_7) (fun e => absurd e (by decide)) (fun h75742 e75742 => ?_)
          have g75742 := g75741.putF ff75742 (((x75741.2.2 0 7 (g.lt ad0) (by decide)).trans ew0)) e75742a e75742 (by omega) (by omega) (by omega)
          have k75742 := (k75741.wr e75742a rfl).wr e75742 rfl
          refine ev_aload_n rfl ?_
          refine g_getv (r := 0) (v := (w0 + 1)) g75742 ad0 (by decide) ft11_7 ((jw_eq e75742)) ?_
          refine ev_iconst ?_
          refine ev_isub (r := w0) (by unfold w32; omega) ?_
          exact ev_ret rfl (by decide) (by decide) ⟨⟨_, rfl, by omega, by omega, ⟨_, g75742⟩, k75742, by rw [(jwr_ty e75742).1, (jwr_ty e75742a).1, es75741]; omega⟩, fun r hr => by cases hr; (try unfold feF); (try unfold feG); (try unfold kpF); (repeat' split) <;> omega, (((jw_eq e75742))).trans (by (try unfold feF); (try unfold feG); (try unfold kpF); (repeat' split) <;> omega)⟩
        · refine ev_bipush ?_
          exact ev_ret rfl (by decide) (by decide) ⟨⟨_, rfl, by omega, by omega, ⟨_, g⟩, k0.x, by rw [k0.1]; omega⟩, fun r hr => by cases hr; (try unfold feF); (try unfold feG); (try unfold kpF); (repeat' split) <;> omega, ((ew0)).trans (by (try unfold feF); (try unfold feG); (try unfold kpF); (repeat' split) <;> omega)⟩
      · refine ev_iconst ?_
        exact ev_ret rfl (by decide) (by decide) ⟨⟨_, rfl, by omega, by omega, ⟨_, g⟩, k0.x, by rw [k0.1]; omega⟩, fun r hr => by cases hr; (try unfold feF); (try unfold feG); (try unfold kpF); (repeat' split) <;> omega, ((ew0)).trans (by (try unfold feF); (try unfold feG); (try unfold kpF); (repeat' split) <;> omega)⟩
  · refine ev_iload_n rfl ?_
    refine ev_iconst ?_
    refine ev_icmpne f178_14 (fun c75743 => ?_) (fun c75743 => ?_)
    · refine ev_iconst ?_
      refine ev_istore_n (L' := [(2, 0), (0, a1), (0, a2), (0, 0)]) (Nat.le_of_ble_eq_true rfl) rfl ?_
      refine ev_iload_n rfl ?_
      refine ev_iflt f178_39 (fun c75744 => ?_) (fun c75744 => ?_)
      · refine ev_iconst ?_
        exact ev_ret rfl (by decide) (by decide) ⟨⟨_, rfl, by omega, by omega, ⟨_, g⟩, k0.x, by rw [k0.1]; omega⟩, fun r hr => by cases hr; (try unfold feF); (try unfold feG); (try unfold kpF); (repeat' split) <;> omega, ((ew0)).trans (by (try unfold feF); (try unfold feG); (try unfold kpF); (repeat' split) <;> omega)⟩
      · refine ev_iload_n rfl ?_
        refine ev_iconst ?_
        refine ev_icmpgt f178_39 (fun c75745 => ?_) (fun c75745 => ?_)
        · refine ev_iconst ?_
          exact ev_ret rfl (by decide) (by decide) ⟨⟨_, rfl, by omega, by omega, ⟨_, g⟩, k0.x, by rw [k0.1]; omega⟩, fun r hr => by cases hr; (try unfold feF); (try unfold feG); (try unfold kpF); (repeat' split) <;> omega, ((ew0)).trans (by (try unfold feF); (try unfold feG); (try unfold kpF); (repeat' split) <;> omega)⟩
        · refine ev_iload_n rfl ?_
          refine ev_ifeq f178_41 (fun c75746 => ?_) (fun c75746 => absurd c75746 (by omega))
          refine ev_aload_n rfl ?_
          refine g_getv (r := 0) (v := w0) g ad0 (by decide) ft11_7 (ew0) ?_
          refine ev_bipush ?_
          refine ev_icmplt f178_53 (fun c75747 => ?_) (fun c75747 => ?_)
          · refine ev_aload_n rfl ?_
            refine g_getp (r := 0) (c := 24) g ad0 (by decide) (by decide) rf0_6 ft11_6 ?_
            refine ev_aload_n rfl ?_
            refine g_getv (r := 0) (v := w0) g ad0 (by decide) ft11_7 (ew0) ?_
            refine ev_aload_n rfl ?_
            refine ev_iload_n rfl ?_
            refine ev_aload_n rfl ?_
            refine g_getv (r := 0) (v := w0) g ad0 (by decide) ft11_7 (ew0) ?_
            refine ev_iload_n rfl ?_
            refine ev_ifeq f178_75 (fun c75748 => ?_) (fun c75748 => absurd c75748 (by omega))
            refine ev_iconst ?_
            refine ev_call (jcall_v (A := [(0, 0), (0, w0), (0, a1)]) (S' := [(0, w0), (2, 24)]) (r := 0) rfl (g.lt ad0) (g.tg ad0) (Nat.le_of_ble_eq_true rfl)) (jOk_le (by decide) (newFeel (d := 0) (s := 19) (g.lt ad0) (g.fam ad0 (by decide)) (g.pt ad0 (i := 4) (by decide) rf0_4) (g.lt ad19))) (by decide) (by decide) (fun w75749 h75749 z75749 => ?_)
            obtain ⟨rfl, z75749⟩ := z75749
            obtain ⟨g75749, es75749, x75749⟩ := g.newF (feelT_fam _) (by omega) (by omega) (by omega) (by omega) z75749
            have hz75749 := k0.1
            have k75749 := Kx.tx k0 x75749 (by decide)
            have fz75749 := g.2.1.1
            show jEv _ _ _ _ _ _ _ (_, [(2, 0), (0, a1), (0, a2), (0, 0)], [(2, (h.1 : Int)), (0, w0), (2, 24)], _, _, _)
            have ff75750 := gF_at (n := w0) (p := 0) g
            refine ev_astoG (r := 24) (j := (w0).toNat) (v := h.1) (g75749.lt ad24) (g75749.tg ad24) (by omega) (by rw [g75749.ln ad24]; omega) (by rw [es75749]; omega) (newF_ty (feelT_fam _) z75749) (fun h75750a e75750a => ?_)
            refine ev_aload_n rfl ?_
            refine ev_dup (by decide) ?_
            refine ev_getf (r := 0) (v := w0) (by rw [(jwr_ty e75750a).1]; exact g75749.lt ad0) (by rw [(jwr_ty e75750a).2]; exact g75749.fam ad0 (by decide)) ft11_7 ((jw_ne e75750a (Or.inl (by decide))).trans (((x75749.2.2 0 7 (g.lt ad0) (by decide)).trans ew0))) ?_
            refine ev_iconst ?_
            refine ev_iadd (r := (w0 + 1)) (by unfold w32; omega) ?_
            refine ev_putfG (r := 0) (by rw [(jwr_ty e75750a).1]; exact g75749.lt ad0) (by rw [(jwr_ty e75750a).2]; exact g75749.fam ad0 (by decide)) ft11_7 (fun e => absurd e nz11_7) (fun e => absurd e (by decide)) (fun h75750 e75750 => ?_)
            have g75750 := g75749.putF ff75750 (((x75749.2.2 0 7 (g.lt ad0) (by decide)).trans ew0)) e75750a e75750 (by omega) (by omega) (by omega)
            have k75750 := (k75749.wr e75750a rfl).wr e75750 rfl
            refine ev_aload_n rfl ?_
            refine g_getv (r := 0) (v := (w0 + 1)) g75750 ad0 (by decide) ft11_7 ((jw_eq e75750)) ?_
            refine ev_iconst ?_
            refine ev_isub (r := w0) (by unfold w32; omega) ?_
            exact ev_ret rfl (by decide) (by decide) ⟨⟨_, rfl, by omega, by omega, ⟨_, g75750⟩, k75750, by rw [(jwr_ty e75750).1, (jwr_ty e75750a).1, es75749]; omega⟩, fun r hr => by cases hr; (try unfold feF); (try unfold feG); (try unfold kpF); (repeat' split) <;> omega, (((jw_eq e75750))).trans (by (try unfold feF); (try unfold feG); (try unfold kpF); (repeat' split) <;> omega)⟩
          · refine ev_bipush ?_
            exact ev_ret rfl (by decide) (by decide) ⟨⟨_, rfl, by omega, by omega, ⟨_, g⟩, k0.x, by rw [k0.1]; omega⟩, fun r hr => by cases hr; (try unfold feF); (try unfold feG); (try unfold kpF); (repeat' split) <;> omega, ((ew0)).trans (by (try unfold feF); (try unfold feG); (try unfold kpF); (repeat' split) <;> omega)⟩
    · refine ev_iconst ?_
      refine ev_goto f178_15 ?_
      refine ev_istore_n (L' := [(2, 0), (0, a1), (0, a2), (0, 1)]) (Nat.le_of_ble_eq_true rfl) rfl ?_
      refine ev_iload_n rfl ?_
      refine ev_iflt f178_39 (fun c75751 => absurd c75751 (by omega)) (fun c75751 => ?_)
      refine ev_iload_n rfl ?_
      refine ev_iconst ?_
      refine ev_icmpgt f178_39 (fun c75752 => absurd c75752 (by omega)) (fun c75752 => ?_)
      refine ev_iload_n rfl ?_
      refine ev_ifeq f178_41 (fun c75753 => absurd c75753 (by omega)) (fun c75753 => ?_)
      refine ev_iload_n rfl ?_
      refine ev_iflt f178_39 (fun c75754 => ?_) (fun c75754 => ?_)
      · refine ev_iconst ?_
        exact ev_ret rfl (by decide) (by decide) ⟨⟨_, rfl, by omega, by omega, ⟨_, g⟩, k0.x, by rw [k0.1]; omega⟩, fun r hr => by cases hr; (try unfold feF); (try unfold feG); (try unfold kpF); (repeat' split) <;> omega, ((ew0)).trans (by (try unfold feF); (try unfold feG); (try unfold kpF); (repeat' split) <;> omega)⟩
      · refine ev_iload_n rfl ?_
        refine ev_bipush ?_
        refine ev_icmple f178_41 (fun c75755 => ?_) (fun c75755 => ?_)
        · refine ev_aload_n rfl ?_
          refine g_getv (r := 0) (v := w0) g ad0 (by decide) ft11_7 (ew0) ?_
          refine ev_bipush ?_
          refine ev_icmplt f178_53 (fun c75756 => ?_) (fun c75756 => ?_)
          · refine ev_aload_n rfl ?_
            refine g_getp (r := 0) (c := 24) g ad0 (by decide) (by decide) rf0_6 ft11_6 ?_
            refine ev_aload_n rfl ?_
            refine g_getv (r := 0) (v := w0) g ad0 (by decide) ft11_7 (ew0) ?_
            refine ev_aload_n rfl ?_
            refine ev_iload_n rfl ?_
            refine ev_aload_n rfl ?_
            refine g_getv (r := 0) (v := w0) g ad0 (by decide) ft11_7 (ew0) ?_
            refine ev_iload_n rfl ?_
            refine ev_ifeq f178_75 (fun c75757 => absurd c75757 (by omega)) (fun c75757 => ?_)
            refine ev_iload_n rfl ?_
            refine ev_goto f178_76 ?_
            refine ev_call (jcall_v (A := [(0, a2), (0, w0), (0, a1)]) (S' := [(0, w0), (2, 24)]) (r := 0) rfl (g.lt ad0) (g.tg ad0) (Nat.le_of_ble_eq_true rfl)) (jOk_le (by decide) (newFeel (d := 0) (s := 19) (g.lt ad0) (g.fam ad0 (by decide)) (g.pt ad0 (i := 4) (by decide) rf0_4) (g.lt ad19))) (by decide) (by decide) (fun w75758 h75758 z75758 => ?_)
            obtain ⟨rfl, z75758⟩ := z75758
            obtain ⟨g75758, es75758, x75758⟩ := g.newF (feelT_fam _) (by omega) (by omega) (by omega) (by omega) z75758
            have hz75758 := k0.1
            have k75758 := Kx.tx k0 x75758 (by decide)
            have fz75758 := g.2.1.1
            show jEv _ _ _ _ _ _ _ (_, [(2, 0), (0, a1), (0, a2), (0, 1)], [(2, (h.1 : Int)), (0, w0), (2, 24)], _, _, _)
            have ff75759 := gF_at (n := w0) (p := a2) g
            refine ev_astoG (r := 24) (j := (w0).toNat) (v := h.1) (g75758.lt ad24) (g75758.tg ad24) (by omega) (by rw [g75758.ln ad24]; omega) (by rw [es75758]; omega) (newF_ty (feelT_fam _) z75758) (fun h75759a e75759a => ?_)
            refine ev_aload_n rfl ?_
            refine ev_dup (by decide) ?_
            refine ev_getf (r := 0) (v := w0) (by rw [(jwr_ty e75759a).1]; exact g75758.lt ad0) (by rw [(jwr_ty e75759a).2]; exact g75758.fam ad0 (by decide)) ft11_7 ((jw_ne e75759a (Or.inl (by decide))).trans (((x75758.2.2 0 7 (g.lt ad0) (by decide)).trans ew0))) ?_
            refine ev_iconst ?_
            refine ev_iadd (r := (w0 + 1)) (by unfold w32; omega) ?_
            refine ev_putfG (r := 0) (by rw [(jwr_ty e75759a).1]; exact g75758.lt ad0) (by rw [(jwr_ty e75759a).2]; exact g75758.fam ad0 (by decide)) ft11_7 (fun e => absurd e nz11_7) (fun e => absurd e (by decide)) (fun h75759 e75759 => ?_)
            have g75759 := g75758.putF ff75759 (((x75758.2.2 0 7 (g.lt ad0) (by decide)).trans ew0)) e75759a e75759 (by omega) (by omega) (by omega)
            have k75759 := (k75758.wr e75759a rfl).wr e75759 rfl
            refine ev_aload_n rfl ?_
            refine g_getv (r := 0) (v := (w0 + 1)) g75759 ad0 (by decide) ft11_7 ((jw_eq e75759)) ?_
            refine ev_iconst ?_
            refine ev_isub (r := w0) (by unfold w32; omega) ?_
            exact ev_ret rfl (by decide) (by decide) ⟨⟨_, rfl, by omega, by omega, ⟨_, g75759⟩, k75759, by rw [(jwr_ty e75759).1, (jwr_ty e75759a).1, es75758]; omega⟩, fun r hr => by cases hr; (try unfold feF); (try unfold feG); (try unfold kpF); (repeat' split) <;> omega, (((jw_eq e75759))).trans (by (try unfold feF); (try unfold feG); (try unfold kpF); (repeat' split) <;> omega)⟩
          · refine ev_bipush ?_
            exact ev_ret rfl (by decide) (by decide) ⟨⟨_, rfl, by omega, by omega, ⟨_, g⟩, k0.x, by rw [k0.1]; omega⟩, fun r hr => by cases hr; (try unfold feF); (try unfold feG); (try unfold kpF); (repeat' split) <;> omega, ((ew0)).trans (by (try unfold feF); (try unfold feG); (try unfold kpF); (repeat' split) <;> omega)⟩
        · refine ev_iconst ?_
          exact ev_ret rfl (by decide) (by decide) ⟨⟨_, rfl, by omega, by omega, ⟨_, g⟩, k0.x, by rw [k0.1]; omega⟩, fun r hr => by cases hr; (try unfold feF); (try unfold feG); (try unfold kpF); (repeat' split) <;> omega, ((ew0)).trans (by (try unfold feF); (try unfold feG); (try unfold kpF); (repeat' split) <;> omega)⟩
set_option maxHeartbeats 4000000 in
theorem t285 {G : GH} {h : JH} (g : Gd G h) {a1 : Int} (la1 : (-2147483648) ≤ a1) (ua1 : a1 ≤ 2147483647) {a2 : Int} (la2 : (-2147483648) ≤ a2) (ua2 : a2 ≤ 2147483647) {w0 : Int} (ew0 : h.2.2 42 28 = w0) (lw0 : 0 ≤ w0) (uw0 : w0 ≤ 20) : jOk 2 0 0 285 [(2, 42), (0, a1), (0, a2)] h (fun v h' => ∃ r : Int, v = some (0, r) ∧ Gd G h' ∧ Kp [(42, 29), (60, 0), (61, 0)] h h' ∧ r = feF a1 a2 w0 ∧ h'.2.2 42 28 = feG a1 a2 w0) := by
  refine ⟨by decide, by rw [ml285]; exact Nat.le_of_ble_eq_true rfl, ?_⟩
  rw [ml285, pp285]
  show jEv _ none _ c285_0 0 0 _ (c285_0, [(2, 42), (0, a1), (0, a2)], [], h, 0, 0)
  have k0 := Kp.rf [(42, 29), (60, 0), (61, 0)] h
  refine ev_iload_n rfl ?_
  refine ev_iconst ?_
  refine ev_iconst ?_
  refine ev_in (d := 0) (a := 0) (b := 0) (cd' := c242_0) (m := 3) (L0 := [(0, a1), (0, 0), (0, 5)]) (jcall_s (A := [(0, 5), (0, 0), (0, a1)]) (S' := []) (by decide) rfl (Nat.le_of_ble_eq_true rfl)) (by decide) ml242 pp242 (Nat.le_of_ble_eq_true rfl) rfl (by decide) (by decide) ?_
  refine ev_iload_n rfl ?_
  refine ev_iload_n rfl ?_
  refine ev_icmplt f242_14 (fun c75802 => ?_) (fun c75802 => ?_)
  · refine ev_iconst ?_
    refine ev_ret rfl (by decide) (by decide) ?_
    show jEv _ _ _ _ _ _ _ (_, [(2, 42), (0, a1), (0, a2)], [(0, 0)], _, _, _)
    refine ev_ifeq f285_24 (fun c75803 => ?_) (fun c75803 => absurd c75803 (by omega))
    refine ev_iconst ?_
    exact ev_ret rfl (by decide) (by decide) ⟨_, rfl, g, k0, by (try unfold feF); (try unfold feG); (try unfold kpF); (repeat' split) <;> omega, ((ew0)).trans (by (try unfold feF); (try unfold feG); (try unfold kpF); (repeat' split) <;> omega)⟩
  · refine ev_iload_n rfl ?_
    refine ev_iload_n rfl ?_
    refine ev_icmpgt f242_14 (fun c75804 => ?_) (fun c75804 => ?_)
    · refine ev_iconst ?_
      refine ev_ret rfl (by decide) (by decide) ?_
      show jEv _ _ _ _ _ _ _ (_, [(2, 42), (0, a1), (0, a2)], [(0, 0)], _, _, _)
      refine ev_ifeq f285_24 (fun c75805 => ?_) (fun c75805 => absurd c75805 (by omega))
      refine ev_iconst ?_
      exact ev_ret rfl (by decide) (by decide) ⟨_, rfl, g, k0, by (try unfold feF); (try unfold feG); (try unfold kpF); (repeat' split) <;> omega, ((ew0)).trans (by (try unfold feF); (try unfold feG); (try unfold kpF); (repeat' split) <;> omega)⟩
    · refine ev_iconst ?_
      refine ev_goto f242_15 ?_
      refine ev_ret rfl (by decide) (by decide) ?_
      show jEv _ _ _ _ _ _ _ (_, [(2, 42), (0, a1), (0, a2)], [(0, 1)], _, _, _)
      refine ev_ifeq f285_24 (fun c75806 => absurd c75806 (by omega)) (fun c75806 => ?_)
      refine ev_iload_n rfl ?_
      refine ev_iconst ?_
      refine ev_icmplt f285_26 (fun c75807 => ?_) (fun c75807 => ?_)
      · refine ev_aload_n rfl ?_
        refine g_getv (r := 42) (v := w0) g ad42 (by decide) ft12_28 (ew0) ?_
        refine ev_bipush ?_
        refine ev_icmpne f285_38 (fun c75808 => ?_) (fun c75808 => ?_)
        · refine ev_aload_n rfl ?_
          refine g_getp (r := 42) (c := 60) g ad42 (by decide) (by decide) rf42_29 ft12_29 ?_
          refine ev_aload_n rfl ?_
          refine g_getv (r := 42) (v := w0) g ad42 (by decide) ft12_28 (ew0) ?_
          refine ev_iload_n rfl ?_
          refine g_iast g ad60 rt60 (fun _ => rfl) (by omega) (by omega) (by omega) (by omega) (fun h75809 e75809 g75809 => ?_)
          have k75809 := k0.wr e75809 rfl
          refine ev_aload_n rfl ?_
          refine g_getp (r := 42) (c := 61) g75809 ad42 (by decide) (by decide) rf42_30 ft12_30 ?_
          refine ev_aload_n rfl ?_
          refine g_getv (r := 42) (v := w0) g75809 ad42 (by decide) ft12_28 (((jw_ne e75809 (Or.inl (by decide))).trans ew0)) ?_
          refine ev_iload_n rfl ?_
          refine ev_iconst ?_
          refine ev_icmplt f285_65 (fun c75810 => ?_) (fun c75810 => absurd c75810 (by omega))
          refine ev_iconst ?_
          refine g_iast g75809 ad61 rt61 (fun _ => rfl) (by omega) (by omega) (by omega) (by omega) (fun h75811 e75811 g75811 => ?_)
          have k75811 := k75809.wr e75811 rfl
          refine ev_aload_n rfl ?_
          refine ev_dup (by decide) ?_
          refine g_getv (r := 42) (v := w0) g75811 ad42 (by decide) ft12_28 (((jw_ne e75811 (Or.inl (by decide))).trans ((jw_ne e75809 (Or.inl (by decide))).trans ew0))) ?_
          refine ev_iconst ?_
          refine ev_iadd (r := (w0 + 1)) (by unfold w32; omega) ?_
          refine g_putf (r := 42) g75811 ad42 (by decide) ft12_28 (by decide) (fun e => absurd e nz12_28) rf42_28 (by decide) (by omega) (by omega) (fun h75812 e75812 g75812 => ?_)
          have k75812 := k75811.wr e75812 rfl
          refine ev_aload_n rfl ?_
          refine g_getv (r := 42) (v := (w0 + 1)) g75812 ad42 (by decide) ft12_28 ((jw_eq e75812)) ?_
          refine ev_iconst ?_
          refine ev_isub (r := w0) (by unfold w32; omega) ?_
          exact ev_ret rfl (by decide) (by decide) ⟨_, rfl, g75812, k75812, by (try unfold feF); (try unfold feG); (try unfold kpF); (repeat' split) <;> omega, (((jw_eq e75812))).trans (by (try unfold feF); (try unfold feG); (try unfold kpF); (repeat' split) <;> omega)⟩
        · refine ev_bipush ?_
          exact ev_ret rfl (by decide) (by decide) ⟨_, rfl, g, k0, by (try unfold feF); (try unfold feG); (try unfold kpF); (repeat' split) <;> omega, ((ew0)).trans (by (try unfold feF); (try unfold feG); (try unfold kpF); (repeat' split) <;> omega)⟩
      · refine ev_iload_n rfl ?_
        refine ev_iconst ?_
        refine ev_bipush ?_
        refine ev_in (d := 0) (a := 0) (b := 0) (cd' := c242_0) (m := 3) (L0 := [(0, a2), (0, 0), (0, 100)]) (jcall_s (A := [(0, 100), (0, 0), (0, a2)]) (S' := []) (by decide) rfl (Nat.le_of_ble_eq_true rfl)) (by decide) ml242 pp242 (Nat.le_of_ble_eq_true rfl) rfl (by decide) (by decide) ?_
        refine ev_iload_n rfl ?_
        refine ev_iload_n rfl ?_
        refine ev_icmplt f242_14 (fun c75813 => ?_) (fun c75813 => ?_)
        · refine ev_iconst ?_
          refine ev_ret rfl (by decide) (by decide) ?_
          show jEv _ _ _ _ _ _ _ (_, [(2, 42), (0, a1), (0, a2)], [(0, 0)], _, _, _)
          refine ev_ifne f285_26 (fun c75814 => absurd c75814 (by omega)) (fun c75814 => ?_)
          refine ev_iconst ?_
          exact ev_ret rfl (by decide) (by decide) ⟨_, rfl, g, k0, by (try unfold feF); (try unfold feG); (try unfold kpF); (repeat' split) <;> omega, ((ew0)).trans (by (try unfold feF); (try unfold feG); (try unfold kpF); (repeat' split) <;> omega)⟩
        · refine ev_iload_n rfl ?_
          refine ev_iload_n rfl ?_
          refine ev_icmpgt f242_14 (fun c75815 => ?_) (fun c75815 => ?_)
          · refine ev_iconst ?_
            refine ev_ret rfl (by decide) (by decide) ?_
            show jEv _ _ _ _ _ _ _ (_, [(2, 42), (0, a1), (0, a2)], [(0, 0)], _, _, _)
            refine ev_ifne f285_26 (fun c75816 => absurd c75816 (by omega)) (fun c75816 => ?_)
            refine ev_iconst ?_
            exact ev_ret rfl (by decide) (by decide) ⟨_, rfl, g, k0, by (try unfold feF); (try unfold feG); (try unfold kpF); (repeat' split) <;> omega, ((ew0)).trans (by (try unfold feF); (try unfold feG); (try unfold kpF); (repeat' split) <;> omega)⟩
          · refine ev_iconst ?_
            refine ev_goto f242_15 ?_
            refine ev_ret rfl (by decide) (by decide) ?_
            show jEv _ _ _ _ _ _ _ (_, [(2, 42), (0, a1), (0, a2)], [(0, 1)], _, _, _)
            refine ev_ifne f285_26 (fun c75817 => ?_) (fun c75817 => absurd c75817 (by omega))
            refine ev_aload_n rfl ?_
            refine g_getv (r := 42) (v := w0) g ad42 (by decide) ft12_28 (ew0) ?_
            refine ev_bipush ?_
            refine ev_icmpne f285_38 (fun c75818 => ?_) (fun c75818 => ?_)
            · refine ev_aload_n rfl ?_
              refine g_getp (r := 42) (c := 60) g ad42 (by decide) (by decide) rf42_29 ft12_29 ?_
              refine ev_aload_n rfl ?_
              refine g_getv (r := 42) (v := w0) g ad42 (by decide) ft12_28 (ew0) ?_
              refine ev_iload_n rfl ?_
              refine g_iast g ad60 rt60 (fun _ => rfl) (by omega) (by omega) (by omega) (by omega) (fun h75819 e75819 g75819 => ?_)
              have k75819 := k0.wr e75819 rfl
              refine ev_aload_n rfl ?_
              refine g_getp (r := 42) (c := 61) g75819 ad42 (by decide) (by decide) rf42_30 ft12_30 ?_
              refine ev_aload_n rfl ?_
              refine g_getv (r := 42) (v := w0) g75819 ad42 (by decide) ft12_28 (((jw_ne e75819 (Or.inl (by decide))).trans ew0)) ?_
              refine ev_iload_n rfl ?_
              refine ev_iconst ?_
              refine ev_icmplt f285_65 (fun c75820 => absurd c75820 (by omega)) (fun c75820 => ?_)
              refine ev_iload_n rfl ?_
              refine ev_goto f285_66 ?_
              refine g_iast g75819 ad61 rt61 (fun _ => rfl) (by omega) (by omega) (by omega) (by omega) (fun h75821 e75821 g75821 => ?_)
              have k75821 := k75819.wr e75821 rfl
              refine ev_aload_n rfl ?_
              refine ev_dup (by decide) ?_
              refine g_getv (r := 42) (v := w0) g75821 ad42 (by decide) ft12_28 (((jw_ne e75821 (Or.inl (by decide))).trans ((jw_ne e75819 (Or.inl (by decide))).trans ew0))) ?_
              refine ev_iconst ?_
              refine ev_iadd (r := (w0 + 1)) (by unfold w32; omega) ?_
              refine g_putf (r := 42) g75821 ad42 (by decide) ft12_28 (by decide) (fun e => absurd e nz12_28) rf42_28 (by decide) (by omega) (by omega) (fun h75822 e75822 g75822 => ?_)
              have k75822 := k75821.wr e75822 rfl
              refine ev_aload_n rfl ?_
              refine g_getv (r := 42) (v := (w0 + 1)) g75822 ad42 (by decide) ft12_28 ((jw_eq e75822)) ?_
              refine ev_iconst ?_
              refine ev_isub (r := w0) (by unfold w32; omega) ?_
              exact ev_ret rfl (by decide) (by decide) ⟨_, rfl, g75822, k75822, by (try unfold feF); (try unfold feG); (try unfold kpF); (repeat' split) <;> omega, (((jw_eq e75822))).trans (by (try unfold feF); (try unfold feG); (try unfold kpF); (repeat' split) <;> omega)⟩
            · refine ev_bipush ?_
              exact ev_ret rfl (by decide) (by decide) ⟨_, rfl, g, k0, by (try unfold feF); (try unfold feG); (try unfold kpF); (repeat' split) <;> omega, ((ew0)).trans (by (try unfold feF); (try unfold feG); (try unfold kpF); (repeat' split) <;> omega)⟩
set_option maxHeartbeats 4000000 in
theorem t212 {G : GH} {h : JH} (g : Gd G h) {a1 : Int} (la1 : (-2147483648) ≤ a1) (ua1 : a1 ≤ 2147483647) {a2 : Int} (la2 : (-2147483648) ≤ a2) (ua2 : a2 ≤ 2147483647) {w0 : Int} (ew0 : h.2.2 0 7 = w0) (lw0 : 0 ≤ w0) (uw0 : w0 ≤ 20) : jOk 2 0 0 212 [(2, 0), (0, a1), (0, a2)] h (fun v h' => ∃ r : Int, v = some (0, r) ∧ Gd G h' ∧ Kp [(37, 0), (38, 0)] h h' ∧ KeC h h' a1 a2 w0 r) := by
  refine ⟨by decide, by rw [ml212]; exact Nat.le_of_ble_eq_true rfl, ?_⟩
  rw [ml212, pp212]
  show jEv _ none _ c212_0 0 0 _ (c212_0, [(2, 0), (0, a1), (0, a2)], [], h, 0, 0)
  have k0 := Kp.rf [(37, 0), (38, 0)] h
  refine ev_iload_n rfl ?_
  refine ev_in (d := 0) (a := 0) (b := 0) (cd' := c222_0) (m := 1) (L0 := [(0, a1)]) (jcall_s (A := [(0, a1)]) (S' := []) (by decide) rfl (Nat.le_of_ble_eq_true rfl)) (by decide) ml222 pp222 (Nat.le_of_ble_eq_true rfl) rfl (by decide) (by decide) ?_
  refine ev_iload_n rfl ?_
  refine ev_iflt f222_14 (fun c75138 => ?_) (fun c75138 => ?_)
  · refine ev_iconst ?_
    refine ev_ret rfl (by decide) (by decide) ?_
    show jEv _ _ _ _ _ _ _ (_, [(2, 0), (0, a1), (0, a2)], [(0, 0)], _, _, _)
    refine ev_ifeq f212_20 (fun c75139 => ?_) (fun c75139 => absurd c75139 (by omega))
    refine ev_iconst ?_
    exact ev_ret rfl (by decide) (by decide) ⟨_, rfl, g, k0, Or.inl ⟨by unfold KV; omega, rfl, fun _ => rfl, fun _ => rfl⟩⟩
  · refine ev_iload_n rfl ?_
    refine ev_bipush ?_
    refine ev_icmpge f222_14 (fun c75140 => ?_) (fun c75140 => ?_)
    · refine ev_iconst ?_
      refine ev_ret rfl (by decide) (by decide) ?_
      show jEv _ _ _ _ _ _ _ (_, [(2, 0), (0, a1), (0, a2)], [(0, 0)], _, _, _)
      refine ev_ifeq f212_20 (fun c75141 => ?_) (fun c75141 => absurd c75141 (by omega))
      refine ev_iconst ?_
      exact ev_ret rfl (by decide) (by decide) ⟨_, rfl, g, k0, Or.inl ⟨by unfold KV; omega, rfl, fun _ => rfl, fun _ => rfl⟩⟩
    · refine ev_iconst ?_
      refine ev_goto f222_15 ?_
      refine ev_ret rfl (by decide) (by decide) ?_
      show jEv _ _ _ _ _ _ _ (_, [(2, 0), (0, a1), (0, a2)], [(0, 1)], _, _, _)
      refine ev_ifeq f212_20 (fun c75142 => absurd c75142 (by omega)) (fun c75142 => ?_)
      refine ev_iload_n rfl ?_
      refine ev_iconst ?_
      refine ev_icmpeq f212_22 (fun c75143 => ?_) (fun c75143 => ?_)
      · refine ev_aload_n rfl ?_
        refine g_getp (r := 0) (c := 37) g ad0 (by decide) (by decide) rf0_12 ft11_12 ?_
        refine ev_iload_n rfl ?_
        refine ev_iload_n rfl ?_
        refine ev_iconst ?_
        refine ev_icmpne f212_36 (fun c75144 => absurd c75144 (by omega)) (fun c75144 => ?_)
        refine ev_iconst ?_
        refine ev_goto f212_40 ?_
        refine g_iast g ad37 rt37 (fun _ => rfl) (by omega) (by omega) (by omega) (by omega) (fun h75145 e75145 g75145 => ?_)
        have k75145 := k0.wr e75145 rfl
        refine ev_aload_n rfl ?_
        refine g_getp (r := 0) (c := 38) g75145 ad0 (by decide) (by decide) rf0_13 ft11_13 ?_
        refine ev_iload_n rfl ?_
        refine ev_iconst ?_
        refine g_iast g75145 ad38 rt38 (fun _ => rfl) (by omega) (by omega) (by omega) (by omega) (fun h75146 e75146 g75146 => ?_)
        have k75146 := k75145.wr e75146 rfl
        refine ev_iconst ?_
        exact ev_ret rfl (by decide) (by decide) ⟨_, rfl, g75146, k75146, Or.inr ⟨by unfold KV; omega, rfl, (Up.kp (Up.mk2 (i := a1) (i' := a1) (v' := if a2 = -1 then -1 else a2 + 10) e75145 (by omega) (by split <;> omega)) ((Kp.rf [(38, 0)] _).wr e75146 rfl) (fun _ => rfl)), (Up.pk ((Kp.rf [(37, 0)] _).wr e75145 rfl) (fun _ => rfl) (Up.mk2 (i := a1) (i' := a1) (v' := 0) e75146 (by omega) (by omega)))⟩⟩
      · refine ev_aload_n rfl ?_
        refine ev_iload_n rfl ?_
        refine ev_in (d := 0) (a := 0) (b := 0) (cd' := c220_0) (m := 2) (L0 := [(2, 0), (0, a2)]) (jcall_v (A := [(0, a2)]) (S' := []) (r := 0) rfl (g.lt ad0) (g.tg ad0) (Nat.le_of_ble_eq_true rfl)) (by decide) ml220 pp220 (Nat.le_of_ble_eq_true rfl) rfl (by decide) (by decide) ?_
        refine ev_iload_n rfl ?_
        refine ev_iflt f220_12 (fun c75147 => ?_) (fun c75147 => ?_)
        · refine ev_aconst_null ?_
          refine ev_goto f220_22 ?_
          refine ev_ret rfl (by decide) (by decide) ?_
          show jEv _ _ _ _ _ _ _ (_, [(2, 0), (0, a1), (0, a2)], [(2, (-1))], _, _, _)
          refine ev_ifnonnull f212_22 (fun c75148 => absurd c75148 (by decide)) (fun c75148 => ?_)
          refine ev_iconst ?_
          exact ev_ret rfl (by decide) (by decide) ⟨_, rfl, g, k0, Or.inl ⟨by unfold KV; omega, rfl, fun _ => rfl, fun _ => rfl⟩⟩
        · refine ev_iload_n rfl ?_
          refine ev_aload_n rfl ?_
          refine g_getv (r := 0) (v := w0) g ad0 (by decide) ft11_7 (ew0) ?_
          refine ev_icmplt f220_16 (fun c75149 => ?_) (fun c75149 => ?_)
          · refine ev_aload_n rfl ?_
            refine g_getp (r := 0) (c := 24) g ad0 (by decide) (by decide) rf0_6 ft11_6 ?_
            refine ev_iload_n rfl ?_
            refine g_faald (g) (i := a2) (ew0) (by omega) (by omega) (fun f75150 qf75150 => ?_)
            refine ev_ret rfl (by decide) (by decide) ?_
            show jEv _ _ _ _ _ _ _ (_, [(2, 0), (0, a1), (0, a2)], [(2, (f75150 : Int))], _, _, _)
            refine ev_ifnonnull f212_22 (fun c75151 => ?_) (fun c75151 => absurd c75151 (by omega))
            refine ev_aload_n rfl ?_
            refine g_getp (r := 0) (c := 37) g ad0 (by decide) (by decide) rf0_12 ft11_12 ?_
            refine ev_iload_n rfl ?_
            refine ev_iload_n rfl ?_
            refine ev_iconst ?_
            refine ev_icmpne f212_36 (fun c75152 => ?_) (fun c75152 => absurd c75152 (by omega))
            refine ev_bipush ?_
            refine ev_iload_n rfl ?_
            refine ev_iadd (r := (a2 + 10)) (by unfold w32; omega) ?_
            refine g_iast g ad37 rt37 (fun _ => rfl) (by omega) (by omega) (by omega) (by omega) (fun h75153 e75153 g75153 => ?_)
            have k75153 := k0.wr e75153 rfl
            refine ev_aload_n rfl ?_
            refine g_getp (r := 0) (c := 38) g75153 ad0 (by decide) (by decide) rf0_13 ft11_13 ?_
            refine ev_iload_n rfl ?_
            refine ev_iconst ?_
            refine g_iast g75153 ad38 rt38 (fun _ => rfl) (by omega) (by omega) (by omega) (by omega) (fun h75154 e75154 g75154 => ?_)
            have k75154 := k75153.wr e75154 rfl
            refine ev_iconst ?_
            exact ev_ret rfl (by decide) (by decide) ⟨_, rfl, g75154, k75154, Or.inr ⟨by unfold KV; omega, rfl, (Up.kp (Up.mk2 (i := a1) (i' := a1) (v' := if a2 = -1 then -1 else a2 + 10) e75153 (by omega) (by split <;> omega)) ((Kp.rf [(38, 0)] _).wr e75154 rfl) (fun _ => rfl)), (Up.pk ((Kp.rf [(37, 0)] _).wr e75153 rfl) (fun _ => rfl) (Up.mk2 (i := a1) (i' := a1) (v' := 0) e75154 (by omega) (by omega)))⟩⟩
          · refine ev_aconst_null ?_
            refine ev_goto f220_22 ?_
            refine ev_ret rfl (by decide) (by decide) ?_
            show jEv _ _ _ _ _ _ _ (_, [(2, 0), (0, a1), (0, a2)], [(2, (-1))], _, _, _)
            refine ev_ifnonnull f212_22 (fun c75155 => absurd c75155 (by decide)) (fun c75155 => ?_)
            refine ev_iconst ?_
            exact ev_ret rfl (by decide) (by decide) ⟨_, rfl, g, k0, Or.inl ⟨by unfold KV; omega, rfl, fun _ => rfl, fun _ => rfl⟩⟩
set_option maxHeartbeats 4000000 in
theorem t371 {G : GH} {h : JH} (g : Gd G h) {a1 : Int} (la1 : (-2147483648) ≤ a1) (ua1 : a1 ≤ 2147483647) {a2 : Int} (la2 : (-2147483648) ≤ a2) (ua2 : a2 ≤ 2147483647) {w0 : Int} (ew0 : h.2.2 42 28 = w0) (lw0 : 0 ≤ w0) (uw0 : w0 ≤ 20) : jOk 3 0 0 371 [(2, 42), (0, a1), (0, a2)] h (fun v h' => ∃ r : Int, v = some (0, r) ∧ Gd G h' ∧ Kp [(79, 0)] h h' ∧ KeR h h' a1 a2 w0 r) := by
  refine ⟨by decide, by rw [ml371]; exact Nat.le_of_ble_eq_true rfl, ?_⟩
  rw [ml371, pp371]
  show jEv _ none _ c371_0 0 0 _ (c371_0, [(2, 42), (0, a1), (0, a2)], [], h, 0, 0)
  have k0 := Kp.rf [(79, 0)] h
  refine ev_iload_n rfl ?_
  refine ev_in (d := 1) (a := 0) (b := 0) (cd' := c370_0) (m := 1) (L0 := [(0, a1)]) (jcall_s (A := [(0, a1)]) (S' := []) (by decide) rfl (Nat.le_of_ble_eq_true rfl)) (by decide) ml370 pp370 (Nat.le_of_ble_eq_true rfl) rfl (by decide) (by decide) ?_
  refine ev_iload_n rfl ?_
  refine ev_iconst ?_
  refine ev_iconst ?_
  refine ev_in (d := 0) (a := 0) (b := 0) (cd' := c242_0) (m := 3) (L0 := [(0, a1), (0, 0), (0, 5)]) (jcall_s (A := [(0, 5), (0, 0), (0, a1)]) (S' := []) (by decide) rfl (Nat.le_of_ble_eq_true rfl)) (by decide) ml242 pp242 (Nat.le_of_ble_eq_true rfl) rfl (by decide) (by decide) ?_
  refine ev_iload_n rfl ?_
  refine ev_iload_n rfl ?_
  refine ev_icmplt f242_14 (fun c75182 => ?_) (fun c75182 => ?_)
  · refine ev_iconst ?_
    refine ev_ret rfl (by decide) (by decide) ?_
    show jEv _ _ _ _ _ _ _ (_, [(0, a1)], [(0, 0)], _, _, _)
    refine ev_ret rfl (by decide) (by decide) ?_
    show jEv _ _ _ _ _ _ _ (_, [(2, 42), (0, a1), (0, a2)], [(0, 0)], _, _, _)
    refine ev_ifeq f371_20 (fun c75183 => ?_) (fun c75183 => absurd c75183 (by omega))
    refine ev_iconst ?_
    exact ev_ret rfl (by decide) (by decide) ⟨_, rfl, g, k0, Or.inl ⟨by unfold KV; omega, rfl, fun _ => rfl⟩⟩
  · refine ev_iload_n rfl ?_
    refine ev_iload_n rfl ?_
    refine ev_icmpgt f242_14 (fun c75184 => ?_) (fun c75184 => ?_)
    · refine ev_iconst ?_
      refine ev_ret rfl (by decide) (by decide) ?_
      show jEv _ _ _ _ _ _ _ (_, [(0, a1)], [(0, 0)], _, _, _)
      refine ev_ret rfl (by decide) (by decide) ?_
      show jEv _ _ _ _ _ _ _ (_, [(2, 42), (0, a1), (0, a2)], [(0, 0)], _, _, _)
      refine ev_ifeq f371_20 (fun c75185 => ?_) (fun c75185 => absurd c75185 (by omega))
      refine ev_iconst ?_
      exact ev_ret rfl (by decide) (by decide) ⟨_, rfl, g, k0, Or.inl ⟨by unfold KV; omega, rfl, fun _ => rfl⟩⟩
    · refine ev_iconst ?_
      refine ev_goto f242_15 ?_
      refine ev_ret rfl (by decide) (by decide) ?_
      show jEv _ _ _ _ _ _ _ (_, [(0, a1)], [(0, 1)], _, _, _)
      refine ev_ret rfl (by decide) (by decide) ?_
      show jEv _ _ _ _ _ _ _ (_, [(2, 42), (0, a1), (0, a2)], [(0, 1)], _, _, _)
      refine ev_ifeq f371_20 (fun c75186 => absurd c75186 (by omega)) (fun c75186 => ?_)
      refine ev_iload_n rfl ?_
      refine ev_iconst ?_
      refine ev_icmpeq f371_22 (fun c75187 => ?_) (fun c75187 => ?_)
      · refine ev_aload_n rfl ?_
        refine g_getp (r := 42) (c := 79) g ad42 (by decide) (by decide) rf42_62 ft12_62 ?_
        refine ev_iload_n rfl ?_
        refine ev_iload_n rfl ?_
        refine g_iast g ad79 rt79 (fun _ => rfl) (by omega) (by omega) (by omega) (by omega) (fun h75188 e75188 g75188 => ?_)
        have k75188 := k0.wr e75188 rfl
        refine ev_iconst ?_
        exact ev_ret rfl (by decide) (by decide) ⟨_, rfl, g75188, k75188, Or.inr ⟨by unfold KV; omega, rfl, (Up.mk2 (i := a1) (i' := a1) (v' := a2) e75188 (by omega) (by omega))⟩⟩
      · refine ev_aload_n rfl ?_
        refine ev_iload_n rfl ?_
        refine ev_in (d := 1) (a := 0) (b := 0) (cd' := c284_0) (m := 2) (L0 := [(2, 42), (0, a2)]) (jcall_v (A := [(0, a2)]) (S' := []) (r := 42) rfl (g.lt ad42) (g.tg ad42) (Nat.le_of_ble_eq_true rfl)) (by decide) ml284 pp284 (Nat.le_of_ble_eq_true rfl) rfl (by decide) (by decide) ?_
        refine ev_iload_n rfl ?_
        refine ev_iconst ?_
        refine ev_aload_n rfl ?_
        refine g_getv (r := 42) (v := w0) g ad42 (by decide) ft12_28 (ew0) ?_
        refine ev_iconst ?_
        refine ev_isub (r := (w0 - 1)) (by unfold w32; omega) ?_
        refine ev_in (d := 0) (a := 0) (b := 0) (cd' := c242_0) (m := 3) (L0 := [(0, a2), (0, 0), (0, (w0 - 1))]) (jcall_s (A := [(0, (w0 - 1)), (0, 0), (0, a2)]) (S' := []) (by decide) rfl (Nat.le_of_ble_eq_true rfl)) (by decide) ml242 pp242 (Nat.le_of_ble_eq_true rfl) rfl (by decide) (by decide) ?_
        refine ev_iload_n rfl ?_
        refine ev_iload_n rfl ?_
        refine ev_icmplt f242_14 (fun c75189 => ?_) (fun c75189 => ?_)
        · refine ev_iconst ?_
          refine ev_ret rfl (by decide) (by decide) ?_
          show jEv _ _ _ _ _ _ _ (_, [(2, 42), (0, a2)], [(0, 0)], _, _, _)
          refine ev_ret rfl (by decide) (by decide) ?_
          show jEv _ _ _ _ _ _ _ (_, [(2, 42), (0, a1), (0, a2)], [(0, 0)], _, _, _)
          refine ev_ifne f371_22 (fun c75190 => absurd c75190 (by omega)) (fun c75190 => ?_)
          refine ev_iconst ?_
          exact ev_ret rfl (by decide) (by decide) ⟨_, rfl, g, k0, Or.inl ⟨by unfold KV; omega, rfl, fun _ => rfl⟩⟩
        · refine ev_iload_n rfl ?_
          refine ev_iload_n rfl ?_
          refine ev_icmpgt f242_14 (fun c75191 => ?_) (fun c75191 => ?_)
          · refine ev_iconst ?_
            refine ev_ret rfl (by decide) (by decide) ?_
            show jEv _ _ _ _ _ _ _ (_, [(2, 42), (0, a2)], [(0, 0)], _, _, _)
            refine ev_ret rfl (by decide) (by decide) ?_
            show jEv _ _ _ _ _ _ _ (_, [(2, 42), (0, a1), (0, a2)], [(0, 0)], _, _, _)
            refine ev_ifne f371_22 (fun c75192 => absurd c75192 (by omega)) (fun c75192 => ?_)
            refine ev_iconst ?_
            exact ev_ret rfl (by decide) (by decide) ⟨_, rfl, g, k0, Or.inl ⟨by unfold KV; omega, rfl, fun _ => rfl⟩⟩
          · refine ev_iconst ?_
            refine ev_goto f242_15 ?_
            refine ev_ret rfl (by decide) (by decide) ?_
            show jEv _ _ _ _ _ _ _ (_, [(2, 42), (0, a2)], [(0, 1)], _, _, _)
            refine ev_ret rfl (by decide) (by decide) ?_
            show jEv _ _ _ _ _ _ _ (_, [(2, 42), (0, a1), (0, a2)], [(0, 1)], _, _, _)
            refine ev_ifne f371_22 (fun c75193 => ?_) (fun c75193 => absurd c75193 (by omega))
            refine ev_aload_n rfl ?_
            refine g_getp (r := 42) (c := 79) g ad42 (by decide) (by decide) rf42_62 ft12_62 ?_
            refine ev_iload_n rfl ?_
            refine ev_iload_n rfl ?_
            refine g_iast g ad79 rt79 (fun _ => rfl) (by omega) (by omega) (by omega) (by omega) (fun h75194 e75194 g75194 => ?_)
            have k75194 := k0.wr e75194 rfl
            refine ev_iconst ?_
            exact ev_ret rfl (by decide) (by decide) ⟨_, rfl, g75194, k75194, Or.inr ⟨by unfold KV; omega, rfl, (Up.mk2 (i := a1) (i' := a1) (v' := a2) e75194 (by omega) (by omega))⟩⟩
set_option maxHeartbeats 4000000 in
theorem t213_l {G : GH} {h : JH} {a1 : Int} (la1 : (-2147483648) ≤ a1) (ua1 : a1 ≤ 2147483647) {a2 : Int} (la2 : (-2147483648) ≤ a2) (ua2 : a2 ≤ 2147483647) {a3 : Int} (la3 : (-2147483648) ≤ a3) (ua3 : a3 ≤ 2147483647) : ∀ N : Nat, (∀ (h1 : JH) (x4 : Int), Gd G h1 → Kp [(37, 0), (38, 0), (39, 0)] h h1 → 0 ≤ a1 → a1 ≤ 5 → 0 ≤ a2 → a2 ≤ 4 → 0 ≤ a3 → a3 ≤ 60 → 0 ≤ x4 → x4 ≤ 60 → Up h h1 37 a1 (a2) → Up h h1 38 a1 a3 → ((-x4) + 60) < N → jEv (jOk 1) none (fun _ => 0) c213_0 0 0 (fun v h' => ∃ r : Int, v = some (0, r) ∧ Gd G h' ∧ Kp [(37, 0), (38, 0), (39, 0)] h h' ∧ RoC h h' a1 a2 a3) (c213_48, [(2, 0), (0, a1), (0, a2), (0, a3), (0, x4)], [], h1, 0, 0)) := by
  intro N
  induction N with
  | zero => exact fun h1 x4 g1 k1 b0 b1 b2 b3 b4 b5 b6 b7 b8 b9 hm => absurd hm (by omega)
  | succ N ih =>
    show _
    intro h1 x4 g1 k1 b0 b1 b2 b3 b4 b5 b6 b7 H0 H1 hm
    refine ev_iload rfl ?_
    refine ev_iload_n rfl ?_
    refine ev_icmpge f213_73 (fun c75277 => ?_) (fun c75277 => ?_)
    · refine ev_iconst ?_
      exact ev_ret rfl (by decide) (by decide) ⟨_, rfl, g1, k1, Or.inr ⟨by unfold RV; omega, H0, H1⟩⟩
    · refine ev_aload_n rfl ?_
      refine g_getp (r := 0) (c := 39) g1 ad0 (by decide) (by decide) rf0_14 ft11_14 ?_
      refine ev_bipush ?_
      refine ev_iload_n rfl ?_
      refine ev_imul (r := (60 * a1)) (by unfold w32; omega) ?_
      refine ev_iload rfl ?_
      refine ev_iadd (r := (60 * a1 + x4)) (by unfold w32; omega) ?_
      refine ev_lconst ?_
      refine g_last g1 ad39 rt39 (fun _ => rfl) (by omega) (by omega) (by omega) (by omega) (fun h75278 e75278 g75278 => ?_)
      have k75278 := k1.wr e75278 rfl
      refine ev_iinc (w := (x4 + 1)) (L' := [(2, 0), (0, a1), (0, a2), (0, a3), (0, (x4 + 1))]) rfl (by unfold w32; omega) rfl ?_
      refine ev_goto f213_48 ?_
      exact ih _ _ g75278 k75278 (by omega) (by omega) (by omega) (by omega) (by omega) (by omega) (by omega) (by omega) (Up.kp H0 ((Kp.rf [(39, 0)] _).wr e75278 rfl) (fun _ => rfl)) (Up.kp H1 ((Kp.rf [(39, 0)] _).wr e75278 rfl) (fun _ => rfl)) (by omega)
set_option maxHeartbeats 4000000 in
theorem t213 {G : GH} {h : JH} (g : Gd G h) {a1 : Int} (la1 : (-2147483648) ≤ a1) (ua1 : a1 ≤ 2147483647) {a2 : Int} (la2 : (-2147483648) ≤ a2) (ua2 : a2 ≤ 2147483647) {a3 : Int} (la3 : (-2147483648) ≤ a3) (ua3 : a3 ≤ 2147483647) : jOk 2 0 0 213 [(2, 0), (0, a1), (0, a2), (0, a3)] h (fun v h' => ∃ r : Int, v = some (0, r) ∧ Gd G h' ∧ Kp [(37, 0), (38, 0), (39, 0)] h h' ∧ RoC h h' a1 a2 a3) := by
  refine ⟨by decide, by rw [ml213]; exact Nat.le_of_ble_eq_true rfl, ?_⟩
  rw [ml213, pp213]
  show jEv _ none _ c213_0 0 0 _ (c213_0, [(2, 0), (0, a1), (0, a2), (0, a3), (9, 0)], [], h, 0, 0)
  have k0 := Kp.rf [(37, 0), (38, 0), (39, 0)] h
  refine ev_iload_n rfl ?_
  refine ev_in (d := 0) (a := 0) (b := 0) (cd' := c222_0) (m := 1) (L0 := [(0, a1)]) (jcall_s (A := [(0, a1)]) (S' := []) (by decide) rfl (Nat.le_of_ble_eq_true rfl)) (by decide) ml222 pp222 (Nat.le_of_ble_eq_true rfl) rfl (by decide) (by decide) ?_
  refine ev_iload_n rfl ?_
  refine ev_iflt f222_14 (fun c75279 => ?_) (fun c75279 => ?_)
  · refine ev_iconst ?_
    refine ev_ret rfl (by decide) (by decide) ?_
    show jEv _ _ _ _ _ _ _ (_, [(2, 0), (0, a1), (0, a2), (0, a3), (9, 0)], [(0, 0)], _, _, _)
    refine ev_ifeq f213_22 (fun c75280 => ?_) (fun c75280 => absurd c75280 (by omega))
    refine ev_iconst ?_
    exact ev_ret rfl (by decide) (by decide) ⟨_, rfl, g, k0, Or.inl ⟨by unfold RV; omega, fun _ => rfl, fun _ => rfl⟩⟩
  · refine ev_iload_n rfl ?_
    refine ev_bipush ?_
    refine ev_icmpge f222_14 (fun c75281 => ?_) (fun c75281 => ?_)
    · refine ev_iconst ?_
      refine ev_ret rfl (by decide) (by decide) ?_
      show jEv _ _ _ _ _ _ _ (_, [(2, 0), (0, a1), (0, a2), (0, a3), (9, 0)], [(0, 0)], _, _, _)
      refine ev_ifeq f213_22 (fun c75282 => ?_) (fun c75282 => absurd c75282 (by omega))
      refine ev_iconst ?_
      exact ev_ret rfl (by decide) (by decide) ⟨_, rfl, g, k0, Or.inl ⟨by unfold RV; omega, fun _ => rfl, fun _ => rfl⟩⟩
    · refine ev_iconst ?_
      refine ev_goto f222_15 ?_
      refine ev_ret rfl (by decide) (by decide) ?_
      show jEv _ _ _ _ _ _ _ (_, [(2, 0), (0, a1), (0, a2), (0, a3), (9, 0)], [(0, 1)], _, _, _)
      refine ev_ifeq f213_22 (fun c75283 => absurd c75283 (by omega)) (fun c75283 => ?_)
      refine ev_iload_n rfl ?_
      refine ev_iflt f213_22 (fun c75284 => ?_) (fun c75284 => ?_)
      · refine ev_iconst ?_
        exact ev_ret rfl (by decide) (by decide) ⟨_, rfl, g, k0, Or.inl ⟨by unfold RV; omega, fun _ => rfl, fun _ => rfl⟩⟩
      · refine ev_iload_n rfl ?_
        refine ev_iconst ?_
        refine ev_icmpge f213_22 (fun c75285 => ?_) (fun c75285 => ?_)
        · refine ev_iconst ?_
          exact ev_ret rfl (by decide) (by decide) ⟨_, rfl, g, k0, Or.inl ⟨by unfold RV; omega, fun _ => rfl, fun _ => rfl⟩⟩
        · refine ev_iload_n rfl ?_
          refine ev_bipush ?_
          refine ev_icmple f213_24 (fun c75286 => ?_) (fun c75286 => ?_)
          · refine ev_iload_n rfl ?_
            refine ev_ifge f213_31 (fun c75287 => ?_) (fun c75287 => ?_)
            · refine ev_aload_n rfl ?_
              refine g_getp (r := 0) (c := 37) g ad0 (by decide) (by decide) rf0_12 ft11_12 ?_
              refine ev_iload_n rfl ?_
              refine ev_iload_n rfl ?_
              refine g_iast g ad37 rt37 (fun _ => rfl) (by omega) (by omega) (by omega) (by omega) (fun h75288 e75288 g75288 => ?_)
              have k75288 := k0.wr e75288 rfl
              refine ev_aload_n rfl ?_
              refine g_getp (r := 0) (c := 38) g75288 ad0 (by decide) (by decide) rf0_13 ft11_13 ?_
              refine ev_iload_n rfl ?_
              refine ev_iload_n rfl ?_
              refine g_iast g75288 ad38 rt38 (fun _ => rfl) (by omega) (by omega) (by omega) (by omega) (fun h75289 e75289 g75289 => ?_)
              have k75289 := k75288.wr e75289 rfl
              refine ev_iconst ?_
              refine ev_istore (L' := [(2, 0), (0, a1), (0, a2), (0, a3), (0, 0)]) (Nat.le_of_ble_eq_true rfl) rfl ?_
              exact (t213_l la1 ua1 la2 ua2 la3 ua3 122) _ _ g75289 k75289 (by omega) (by omega) (by omega) (by omega) (by omega) (by omega) (by omega) (by omega) (Up.kp (Up.mk2 (i := a1) (i' := a1) (v' := a2) e75288 (by omega) (by omega)) ((Kp.rf [(38, 0)] _).wr e75289 rfl) (fun _ => rfl)) (Up.pk ((Kp.rf [(37, 0)] _).wr e75288 rfl) (fun _ => rfl) (Up.mk2 (i := a1) (i' := a1) (v' := a3) e75289 (by omega) (by omega))) (by omega)
            · refine ev_bipush ?_
              exact ev_ret rfl (by decide) (by decide) ⟨_, rfl, g, k0, Or.inl ⟨by unfold RV; omega, fun _ => rfl, fun _ => rfl⟩⟩
          · refine ev_iconst ?_
            exact ev_ret rfl (by decide) (by decide) ⟨_, rfl, g, k0, Or.inl ⟨by unfold RV; omega, fun _ => rfl, fun _ => rfl⟩⟩
set_option maxHeartbeats 4000000 in
theorem t372_l {G : GH} {h : JH} {a1 : Int} (la1 : (-2147483648) ≤ a1) (ua1 : a1 ≤ 2147483647) {a2 : Int} (la2 : (-2147483648) ≤ a2) (ua2 : a2 ≤ 2147483647) {a3 : Int} (la3 : (-2147483648) ≤ a3) (ua3 : a3 ≤ 2147483647) : ∀ N : Nat, (∀ (h1 : JH) (x4 : Int), Gd G h1 → Kp [(79, 0), (80, 0), (81, 0)] h h1 → 0 ≤ a1 → a1 ≤ 5 → 0 ≤ a2 → a2 ≤ 4 → 0 ≤ a3 → a3 ≤ 60 → 0 ≤ x4 → x4 ≤ 360 → Up h h1 79 a1 (-2 - a2) → Up h h1 80 a1 a3 → ((-x4) + 360) < N → jEv (jOk 2) none (fun _ => 0) c372_0 0 0 (fun v h' => ∃ r : Int, v = some (0, r) ∧ Gd G h' ∧ Kp [(79, 0), (80, 0), (81, 0)] h h' ∧ RoR h h' a1 a2 a3) (c372_54, [(2, 42), (0, a1), (0, a2), (0, a3), (0, x4)], [], h1, 0, 0)) := by
  intro N
  induction N with
  | zero => exact fun h1 x4 g1 k1 b0 b1 b2 b3 b4 b5 b6 b7 b8 b9 hm => absurd hm (by omega)
  | succ N ih =>
    show _
    intro h1 x4 g1 k1 b0 b1 b2 b3 b4 b5 b6 b7 H0 H1 hm
    refine ev_iload rfl ?_
    refine ev_bipush ?_
    refine ev_iload_n rfl ?_
    refine ev_imul (r := (60 * a1)) (by unfold w32; omega) ?_
    refine ev_bipush ?_
    refine ev_iadd (r := (60 * a1 + 60)) (by unfold w32; omega) ?_
    refine ev_icmpge f372_80 (fun c75336 => ?_) (fun c75336 => ?_)
    · refine ev_iconst ?_
      exact ev_ret rfl (by decide) (by decide) ⟨_, rfl, g1, k1, Or.inr ⟨by unfold RV; omega, H0, H1⟩⟩
    · refine ev_aload_n rfl ?_
      refine g_getp (r := 42) (c := 81) g1 ad42 (by decide) (by decide) rf42_64 ft12_64 ?_
      refine ev_iload rfl ?_
      refine ev_lconst ?_
      refine g_last g1 ad81 rt81 (fun _ => rfl) (by omega) (by omega) (by omega) (by omega) (fun h75337 e75337 g75337 => ?_)
      have k75337 := k1.wr e75337 rfl
      refine ev_iinc (w := (x4 + 1)) (L' := [(2, 42), (0, a1), (0, a2), (0, a3), (0, (x4 + 1))]) rfl (by unfold w32; omega) rfl ?_
      refine ev_goto f372_54 ?_
      exact ih _ _ g75337 k75337 (by omega) (by omega) (by omega) (by omega) (by omega) (by omega) (by omega) (by omega) (Up.kp H0 ((Kp.rf [(81, 0)] _).wr e75337 rfl) (fun _ => rfl)) (Up.kp H1 ((Kp.rf [(81, 0)] _).wr e75337 rfl) (fun _ => rfl)) (by omega)
set_option maxHeartbeats 4000000 in
theorem t372 {G : GH} {h : JH} (g : Gd G h) {a1 : Int} (la1 : (-2147483648) ≤ a1) (ua1 : a1 ≤ 2147483647) {a2 : Int} (la2 : (-2147483648) ≤ a2) (ua2 : a2 ≤ 2147483647) {a3 : Int} (la3 : (-2147483648) ≤ a3) (ua3 : a3 ≤ 2147483647) : jOk 3 0 0 372 [(2, 42), (0, a1), (0, a2), (0, a3)] h (fun v h' => ∃ r : Int, v = some (0, r) ∧ Gd G h' ∧ Kp [(79, 0), (80, 0), (81, 0)] h h' ∧ RoR h h' a1 a2 a3) := by
  refine ⟨by decide, by rw [ml372]; exact Nat.le_of_ble_eq_true rfl, ?_⟩
  rw [ml372, pp372]
  show jEv _ none _ c372_0 0 0 _ (c372_0, [(2, 42), (0, a1), (0, a2), (0, a3), (9, 0)], [], h, 0, 0)
  have k0 := Kp.rf [(79, 0), (80, 0), (81, 0)] h
  refine ev_iload_n rfl ?_
  refine ev_in (d := 1) (a := 0) (b := 0) (cd' := c370_0) (m := 1) (L0 := [(0, a1)]) (jcall_s (A := [(0, a1)]) (S' := []) (by decide) rfl (Nat.le_of_ble_eq_true rfl)) (by decide) ml370 pp370 (Nat.le_of_ble_eq_true rfl) rfl (by decide) (by decide) ?_
  refine ev_iload_n rfl ?_
  refine ev_iconst ?_
  refine ev_iconst ?_
  refine ev_in (d := 0) (a := 0) (b := 0) (cd' := c242_0) (m := 3) (L0 := [(0, a1), (0, 0), (0, 5)]) (jcall_s (A := [(0, 5), (0, 0), (0, a1)]) (S' := []) (by decide) rfl (Nat.le_of_ble_eq_true rfl)) (by decide) ml242 pp242 (Nat.le_of_ble_eq_true rfl) rfl (by decide) (by decide) ?_
  refine ev_iload_n rfl ?_
  refine ev_iload_n rfl ?_
  refine ev_icmplt f242_14 (fun c75338 => ?_) (fun c75338 => ?_)
  · refine ev_iconst ?_
    refine ev_ret rfl (by decide) (by decide) ?_
    show jEv _ _ _ _ _ _ _ (_, [(0, a1)], [(0, 0)], _, _, _)
    refine ev_ret rfl (by decide) (by decide) ?_
    show jEv _ _ _ _ _ _ _ (_, [(2, 42), (0, a1), (0, a2), (0, a3), (9, 0)], [(0, 0)], _, _, _)
    refine ev_ifeq f372_22 (fun c75339 => ?_) (fun c75339 => absurd c75339 (by omega))
    refine ev_iconst ?_
    exact ev_ret rfl (by decide) (by decide) ⟨_, rfl, g, k0, Or.inl ⟨by unfold RV; omega, fun _ => rfl, fun _ => rfl⟩⟩
  · refine ev_iload_n rfl ?_
    refine ev_iload_n rfl ?_
    refine ev_icmpgt f242_14 (fun c75340 => ?_) (fun c75340 => ?_)
    · refine ev_iconst ?_
      refine ev_ret rfl (by decide) (by decide) ?_
      show jEv _ _ _ _ _ _ _ (_, [(0, a1)], [(0, 0)], _, _, _)
      refine ev_ret rfl (by decide) (by decide) ?_
      show jEv _ _ _ _ _ _ _ (_, [(2, 42), (0, a1), (0, a2), (0, a3), (9, 0)], [(0, 0)], _, _, _)
      refine ev_ifeq f372_22 (fun c75341 => ?_) (fun c75341 => absurd c75341 (by omega))
      refine ev_iconst ?_
      exact ev_ret rfl (by decide) (by decide) ⟨_, rfl, g, k0, Or.inl ⟨by unfold RV; omega, fun _ => rfl, fun _ => rfl⟩⟩
    · refine ev_iconst ?_
      refine ev_goto f242_15 ?_
      refine ev_ret rfl (by decide) (by decide) ?_
      show jEv _ _ _ _ _ _ _ (_, [(0, a1)], [(0, 1)], _, _, _)
      refine ev_ret rfl (by decide) (by decide) ?_
      show jEv _ _ _ _ _ _ _ (_, [(2, 42), (0, a1), (0, a2), (0, a3), (9, 0)], [(0, 1)], _, _, _)
      refine ev_ifeq f372_22 (fun c75342 => absurd c75342 (by omega)) (fun c75342 => ?_)
      refine ev_iload_n rfl ?_
      refine ev_iconst ?_
      refine ev_iconst ?_
      refine ev_in (d := 1) (a := 0) (b := 0) (cd' := c242_0) (m := 3) (L0 := [(0, a2), (0, 0), (0, 4)]) (jcall_s (A := [(0, 4), (0, 0), (0, a2)]) (S' := []) (by decide) rfl (Nat.le_of_ble_eq_true rfl)) (by decide) ml242 pp242 (Nat.le_of_ble_eq_true rfl) rfl (by decide) (by decide) ?_
      refine ev_iload_n rfl ?_
      refine ev_iload_n rfl ?_
      refine ev_icmplt f242_14 (fun c75343 => ?_) (fun c75343 => ?_)
      · refine ev_iconst ?_
        refine ev_ret rfl (by decide) (by decide) ?_
        show jEv _ _ _ _ _ _ _ (_, [(2, 42), (0, a1), (0, a2), (0, a3), (9, 0)], [(0, 0)], _, _, _)
        refine ev_ifeq f372_22 (fun c75344 => ?_) (fun c75344 => absurd c75344 (by omega))
        refine ev_iconst ?_
        exact ev_ret rfl (by decide) (by decide) ⟨_, rfl, g, k0, Or.inl ⟨by unfold RV; omega, fun _ => rfl, fun _ => rfl⟩⟩
      · refine ev_iload_n rfl ?_
        refine ev_iload_n rfl ?_
        refine ev_icmpgt f242_14 (fun c75345 => ?_) (fun c75345 => ?_)
        · refine ev_iconst ?_
          refine ev_ret rfl (by decide) (by decide) ?_
          show jEv _ _ _ _ _ _ _ (_, [(2, 42), (0, a1), (0, a2), (0, a3), (9, 0)], [(0, 0)], _, _, _)
          refine ev_ifeq f372_22 (fun c75346 => ?_) (fun c75346 => absurd c75346 (by omega))
          refine ev_iconst ?_
          exact ev_ret rfl (by decide) (by decide) ⟨_, rfl, g, k0, Or.inl ⟨by unfold RV; omega, fun _ => rfl, fun _ => rfl⟩⟩
        · refine ev_iconst ?_
          refine ev_goto f242_15 ?_
          refine ev_ret rfl (by decide) (by decide) ?_
          show jEv _ _ _ _ _ _ _ (_, [(2, 42), (0, a1), (0, a2), (0, a3), (9, 0)], [(0, 1)], _, _, _)
          refine ev_ifeq f372_22 (fun c75347 => absurd c75347 (by omega)) (fun c75347 => ?_)
          refine ev_iload_n rfl ?_
          refine ev_bipush ?_
          refine ev_icmple f372_24 (fun c75348 => ?_) (fun c75348 => ?_)
          · refine ev_iload_n rfl ?_
            refine ev_ifge f372_31 (fun c75349 => ?_) (fun c75349 => ?_)
            · refine ev_aload_n rfl ?_
              refine g_getp (r := 42) (c := 79) g ad42 (by decide) (by decide) rf42_62 ft12_62 ?_
              refine ev_iload_n rfl ?_
              refine ev_bipush ?_
              refine ev_iload_n rfl ?_
              refine ev_isub (r := ((-a2) - 2)) (by unfold w32; omega) ?_
              refine g_iast g ad79 rt79 (fun _ => rfl) (by omega) (by omega) (by omega) (by omega) (fun h75350 e75350 g75350 => ?_)
              have k75350 := k0.wr e75350 rfl
              refine ev_aload_n rfl ?_
              refine g_getp (r := 42) (c := 80) g75350 ad42 (by decide) (by decide) rf42_63 ft12_63 ?_
              refine ev_iload_n rfl ?_
              refine ev_iload_n rfl ?_
              refine g_iast g75350 ad80 rt80 (fun _ => rfl) (by omega) (by omega) (by omega) (by omega) (fun h75351 e75351 g75351 => ?_)
              have k75351 := k75350.wr e75351 rfl
              refine ev_bipush ?_
              refine ev_iload_n rfl ?_
              refine ev_imul (r := (60 * a1)) (by unfold w32; omega) ?_
              refine ev_istore (L' := [(2, 42), (0, a1), (0, a2), (0, a3), (0, (60 * a1))]) (Nat.le_of_ble_eq_true rfl) rfl ?_
              exact (t372_l la1 ua1 la2 ua2 la3 ua3 722) _ _ g75351 k75351 (by omega) (by omega) (by omega) (by omega) (by omega) (by omega) (by omega) (by omega) (Up.kp (Up.mk2 (i := a1) (i' := a1) (v' := -2 - a2) e75350 (by omega) (by omega)) ((Kp.rf [(80, 0)] _).wr e75351 rfl) (fun _ => rfl)) (Up.pk ((Kp.rf [(79, 0)] _).wr e75350 rfl) (fun _ => rfl) (Up.mk2 (i := a1) (i' := a1) (v' := a3) e75351 (by omega) (by omega))) (by omega)
            · refine ev_bipush ?_
              exact ev_ret rfl (by decide) (by decide) ⟨_, rfl, g, k0, Or.inl ⟨by unfold RV; omega, fun _ => rfl, fun _ => rfl⟩⟩
          · refine ev_iconst ?_
            exact ev_ret rfl (by decide) (by decide) ⟨_, rfl, g, k0, Or.inl ⟨by unfold RV; omega, fun _ => rfl, fun _ => rfl⟩⟩
set_option maxHeartbeats 4000000 in
theorem t216 {G : GH} {h : JH} (g : Gd G h) {a1 : Int} (la1 : (-2147483648) ≤ a1) (ua1 : a1 ≤ 2147483647) {a2 : Int} (la2 : (-2147483648) ≤ a2) (ua2 : a2 ≤ 2147483647) {a3 : Int} (la3 : (-2147483648) ≤ a3) (ua3 : a3 ≤ 2147483647) {a4 : Int} (la4 : (-2147483648) ≤ a4) (ua4 : a4 ≤ 2147483647) {a5 : Int} (la5 : (-2147483648) ≤ a5) (ua5 : a5 ≤ 2147483647) : jOk 2 0 0 216 [(2, 0), (0, a1), (0, a2), (0, a3), (0, a4), (0, a5)] h (fun v h' => ∃ r : Int, v = some (0, r) ∧ Gd G h' ∧ Kp [(39, 0)] h h' ∧ r = shC a1 a2 a3 a4 a5 (h.2.2 37 (a1).toNat) (h.2.2 37 (a3).toNat) (h.2.2 38 (a1).toNat) (h.2.2 38 (a3).toNat)) := by
  refine ⟨by decide, by rw [ml216]; exact Nat.le_of_ble_eq_true rfl, ?_⟩
  rw [ml216, pp216]
  show jEv _ none _ c216_0 0 0 _ (c216_0, [(2, 0), (0, a1), (0, a2), (0, a3), (0, a4), (0, a5)], [], h, 0, 0)
  have k0 := Kp.rf [(39, 0)] h
  refine ev_iload_n rfl ?_
  refine ev_in (d := 0) (a := 0) (b := 0) (cd' := c222_0) (m := 1) (L0 := [(0, a1)]) (jcall_s (A := [(0, a1)]) (S' := []) (by decide) rfl (Nat.le_of_ble_eq_true rfl)) (by decide) ml222 pp222 (Nat.le_of_ble_eq_true rfl) rfl (by decide) (by decide) ?_
  refine ev_iload_n rfl ?_
  refine ev_iflt f222_14 (fun c75400 => ?_) (fun c75400 => ?_)
  · refine ev_iconst ?_
    refine ev_ret rfl (by decide) (by decide) ?_
    show jEv _ _ _ _ _ _ _ (_, [(2, 0), (0, a1), (0, a2), (0, a3), (0, a4), (0, a5)], [(0, 0)], _, _, _)
    refine ev_ifeq f216_14 (fun c75401 => ?_) (fun c75401 => absurd c75401 (by omega))
    refine ev_iconst ?_
    exact ev_ret rfl (by decide) (by decide) ⟨_, rfl, g, k0, by unfold shC; (repeat' split) <;> omega⟩
  · refine ev_iload_n rfl ?_
    refine ev_bipush ?_
    refine ev_icmpge f222_14 (fun c75402 => ?_) (fun c75402 => ?_)
    · refine ev_iconst ?_
      refine ev_ret rfl (by decide) (by decide) ?_
      show jEv _ _ _ _ _ _ _ (_, [(2, 0), (0, a1), (0, a2), (0, a3), (0, a4), (0, a5)], [(0, 0)], _, _, _)
      refine ev_ifeq f216_14 (fun c75403 => ?_) (fun c75403 => absurd c75403 (by omega))
      refine ev_iconst ?_
      exact ev_ret rfl (by decide) (by decide) ⟨_, rfl, g, k0, by unfold shC; (repeat' split) <;> omega⟩
    · refine ev_iconst ?_
      refine ev_goto f222_15 ?_
      refine ev_ret rfl (by decide) (by decide) ?_
      show jEv _ _ _ _ _ _ _ (_, [(2, 0), (0, a1), (0, a2), (0, a3), (0, a4), (0, a5)], [(0, 1)], _, _, _)
      refine ev_ifeq f216_14 (fun c75404 => absurd c75404 (by omega)) (fun c75404 => ?_)
      refine ev_iload_n rfl ?_
      refine ev_in (d := 0) (a := 0) (b := 0) (cd' := c222_0) (m := 1) (L0 := [(0, a3)]) (jcall_s (A := [(0, a3)]) (S' := []) (by decide) rfl (Nat.le_of_ble_eq_true rfl)) (by decide) ml222 pp222 (Nat.le_of_ble_eq_true rfl) rfl (by decide) (by decide) ?_
      refine ev_iload_n rfl ?_
      refine ev_iflt f222_14 (fun c75405 => ?_) (fun c75405 => ?_)
      · refine ev_iconst ?_
        refine ev_ret rfl (by decide) (by decide) ?_
        show jEv _ _ _ _ _ _ _ (_, [(2, 0), (0, a1), (0, a2), (0, a3), (0, a4), (0, a5)], [(0, 0)], _, _, _)
        refine ev_ifne f216_16 (fun c75406 => absurd c75406 (by omega)) (fun c75406 => ?_)
        refine ev_iconst ?_
        exact ev_ret rfl (by decide) (by decide) ⟨_, rfl, g, k0, by unfold shC; (repeat' split) <;> omega⟩
      · refine ev_iload_n rfl ?_
        refine ev_bipush ?_
        refine ev_icmpge f222_14 (fun c75407 => ?_) (fun c75407 => ?_)
        · refine ev_iconst ?_
          refine ev_ret rfl (by decide) (by decide) ?_
          show jEv _ _ _ _ _ _ _ (_, [(2, 0), (0, a1), (0, a2), (0, a3), (0, a4), (0, a5)], [(0, 0)], _, _, _)
          refine ev_ifne f216_16 (fun c75408 => absurd c75408 (by omega)) (fun c75408 => ?_)
          refine ev_iconst ?_
          exact ev_ret rfl (by decide) (by decide) ⟨_, rfl, g, k0, by unfold shC; (repeat' split) <;> omega⟩
        · refine ev_iconst ?_
          refine ev_goto f222_15 ?_
          refine ev_ret rfl (by decide) (by decide) ?_
          show jEv _ _ _ _ _ _ _ (_, [(2, 0), (0, a1), (0, a2), (0, a3), (0, a4), (0, a5)], [(0, 1)], _, _, _)
          refine ev_ifne f216_16 (fun c75409 => ?_) (fun c75409 => absurd c75409 (by omega))
          refine ev_aload_n rfl ?_
          refine g_getp (r := 0) (c := 37) g ad0 (by decide) (by decide) rf0_12 ft11_12 ?_
          refine ev_iload_n rfl ?_
          refine g_iald g ad37 rt37 (by omega) (by omega) (fun v75410 ev75410 lv75410 uv75410 => ?_)
          refine ev_iconst ?_
          refine ev_icmpeq f216_36 (fun c75411 => ?_) (fun c75411 => ?_)
          · refine ev_bipush ?_
            exact ev_ret rfl (by decide) (by decide) ⟨_, rfl, g, k0, by unfold shC; (try rw [(ev75410)]); (repeat' split) <;> omega⟩
          · refine ev_aload_n rfl ?_
            refine g_getp (r := 0) (c := 37) g ad0 (by decide) (by decide) rf0_12 ft11_12 ?_
            refine ev_iload_n rfl ?_
            refine g_iald g ad37 rt37 (by omega) (by omega) (fun v75412 ev75412 lv75412 uv75412 => ?_)
            refine ev_iconst ?_
            refine ev_icmpne f216_39 (fun c75413 => ?_) (fun c75413 => ?_)
            · refine ev_aload_n rfl ?_
              refine g_getp (r := 0) (c := 37) g ad0 (by decide) (by decide) rf0_12 ft11_12 ?_
              refine ev_iload_n rfl ?_
              refine g_ialdv (v := v75410) g ad37 (by omega) (by omega) (ev75410) ?_
              refine ev_bipush ?_
              refine ev_icmpge f216_65 (fun c75414 => ?_) (fun c75414 => ?_)
              · refine ev_bipush ?_
                exact ev_ret rfl (by decide) (by decide) ⟨_, rfl, g, k0, by unfold shC; (try rw [(ev75410)]); (try rw [(ev75412)]); (repeat' split) <;> omega⟩
              · refine ev_aload_n rfl ?_
                refine g_getp (r := 0) (c := 37) g ad0 (by decide) (by decide) rf0_12 ft11_12 ?_
                refine ev_iload_n rfl ?_
                refine g_ialdv (v := v75410) g ad37 (by omega) (by omega) (ev75410) ?_
                refine ev_aload_n rfl ?_
                refine g_getp (r := 0) (c := 37) g ad0 (by decide) (by decide) rf0_12 ft11_12 ?_
                refine ev_iload_n rfl ?_
                refine g_ialdv (v := v75412) g ad37 (by omega) (by omega) (ev75412) ?_
                refine ev_icmpeq f216_68 (fun c75415 => ?_) (fun c75415 => ?_)
                · refine ev_iload rfl ?_
                  refine ev_iflt f216_109 (fun c75416 => ?_) (fun c75416 => ?_)
                  · refine ev_bipush ?_
                    exact ev_ret rfl (by decide) (by decide) ⟨_, rfl, g, k0, by unfold shC; (try rw [(ev75410)]); (try rw [(ev75412)]); (repeat' split) <;> omega⟩
                  · refine ev_iload_n rfl ?_
                    refine ev_iflt f216_109 (fun c75417 => ?_) (fun c75417 => ?_)
                    · refine ev_bipush ?_
                      exact ev_ret rfl (by decide) (by decide) ⟨_, rfl, g, k0, by unfold shC; (try rw [(ev75410)]); (try rw [(ev75412)]); (repeat' split) <;> omega⟩
                    · refine ev_iload rfl ?_
                      refine ev_iflt f216_109 (fun c75418 => ?_) (fun c75418 => ?_)
                      · refine ev_bipush ?_
                        exact ev_ret rfl (by decide) (by decide) ⟨_, rfl, g, k0, by unfold shC; (try rw [(ev75410)]); (try rw [(ev75412)]); (repeat' split) <;> omega⟩
                      · refine ev_iload_n rfl ?_
                        refine ev_aload_n rfl ?_
                        refine g_getp (r := 0) (c := 38) g ad0 (by decide) (by decide) rf0_13 ft11_13 ?_
                        refine ev_iload_n rfl ?_
                        refine g_iald g ad38 rt38 (by omega) (by omega) (fun v75419 ev75419 lv75419 uv75419 => ?_)
                        refine ev_iload rfl ?_
                        refine ev_isub (r := ((-a5) + v75419)) (by unfold w32; omega) ?_
                        refine ev_icmpgt f216_109 (fun c75420 => ?_) (fun c75420 => ?_)
                        · refine ev_bipush ?_
                          exact ev_ret rfl (by decide) (by decide) ⟨_, rfl, g, k0, by unfold shC; (try rw [(ev75410)]); (try rw [(ev75412)]); (try rw [(ev75419)]); (repeat' split) <;> omega⟩
                        · refine ev_iload rfl ?_
                          refine ev_aload_n rfl ?_
                          refine g_getp (r := 0) (c := 38) g ad0 (by decide) (by decide) rf0_13 ft11_13 ?_
                          refine ev_iload_n rfl ?_
                          refine g_iald g ad38 rt38 (by omega) (by omega) (fun v75421 ev75421 lv75421 uv75421 => ?_)
                          refine ev_iload rfl ?_
                          refine ev_isub (r := ((-a5) + v75421)) (by unfold w32; omega) ?_
                          refine ev_icmple f216_112 (fun c75422 => ?_) (fun c75422 => ?_)
                          · refine ev_aload_n rfl ?_
                            refine g_getp (r := 0) (c := 39) g ad0 (by decide) (by decide) rf0_14 ft11_14 ?_
                            refine ev_bipush ?_
                            refine ev_iload_n rfl ?_
                            refine ev_imul (r := (60 * a1)) (by unfold w32; omega) ?_
                            refine ev_iload_n rfl ?_
                            refine ev_iadd (r := (60 * a1 + a2)) (by unfold w32; omega) ?_
                            refine ev_aload_n rfl ?_
                            refine g_getp (r := 0) (c := 39) g ad0 (by decide) (by decide) rf0_14 ft11_14 ?_
                            refine ev_bipush ?_
                            refine ev_iload_n rfl ?_
                            refine ev_imul (r := (60 * a3)) (by unfold w32; omega) ?_
                            refine ev_iload rfl ?_
                            refine ev_iadd (r := (60 * a3 + a4)) (by unfold w32; omega) ?_
                            refine ev_iload rfl ?_
                            refine g_copyS g ad39 (by decide) rt39 (fun _ => rfl) (by omega) (by omega) (by omega) (by omega) (by omega) (Nat.le_of_ble_eq_true rfl) (fun h75423 g75423 kk75423 => ?_)
                            have k75423 := k0.tr kk75423 (by decide)
                            refine ev_iload rfl ?_
                            exact ev_ret rfl (by decide) (by decide) ⟨_, rfl, g75423, k75423, by unfold shC; (try rw [(ev75410)]); (try rw [(ev75412)]); (try rw [(ev75419)]); (try rw [(ev75421)]); (repeat' split) <;> omega⟩
                          · refine ev_bipush ?_
                            exact ev_ret rfl (by decide) (by decide) ⟨_, rfl, g, k0, by unfold shC; (try rw [(ev75410)]); (try rw [(ev75412)]); (try rw [(ev75419)]); (try rw [(ev75421)]); (repeat' split) <;> omega⟩
                · refine ev_bipush ?_
                  exact ev_ret rfl (by decide) (by decide) ⟨_, rfl, g, k0, by unfold shC; (try rw [(ev75410)]); (try rw [(ev75412)]); (repeat' split) <;> omega⟩
            · refine ev_bipush ?_
              exact ev_ret rfl (by decide) (by decide) ⟨_, rfl, g, k0, by unfold shC; (try rw [(ev75410)]); (try rw [(ev75412)]); (repeat' split) <;> omega⟩
set_option maxHeartbeats 4000000 in
theorem t376_l {G : GH} {h : JH} {a1 : Int} (la1 : (-2147483648) ≤ a1) (ua1 : a1 ≤ 2147483647) {a2 : Int} (la2 : (-2147483648) ≤ a2) (ua2 : a2 ≤ 2147483647) {a3 : Int} (la3 : (-2147483648) ≤ a3) (ua3 : a3 ≤ 2147483647) {a4 : Int} (la4 : (-2147483648) ≤ a4) (ua4 : a4 ≤ 2147483647) {a5 : Int} (la5 : (-2147483648) ≤ a5) (ua5 : a5 ≤ 2147483647) : ∀ N : Nat, (∀ (h1 : JH) (x6 : Int), Gd G h1 → Kp [(81, 0), (82, 0)] h h1 → 0 ≤ a1 → a1 ≤ 5 → 0 ≤ a2 → a2 ≤ 60 → 0 ≤ a3 → a3 ≤ 5 → 0 ≤ a4 → a4 ≤ 60 → 0 ≤ a5 → a5 ≤ 60 → 0 ≤ x6 → x6 ≤ 60 → (a2 + a5) ≤ 60 → (a4 + a5) ≤ 60 → a5 = shR a1 a2 a3 a4 a5 (h.2.2 79 (a1).toNat) (h.2.2 79 (a3).toNat) (h.2.2 80 (a1).toNat) (h.2.2 80 (a3).toNat) → ((-x6) + 121) < N → jEv (jOk 2) none (fun _ => 0) c376_0 0 0 (fun v h' => ∃ r : Int, v = some (0, r) ∧ Gd G h' ∧ Kp [(81, 0), (82, 0)] h h' ∧ r = shR a1 a2 a3 a4 a5 (h.2.2 79 (a1).toNat) (h.2.2 79 (a3).toNat) (h.2.2 80 (a1).toNat) (h.2.2 80 (a3).toNat)) (c376_113, [(2, 42), (0, a1), (0, a2), (0, a3), (0, a4), (0, a5), (0, x6)], [], h1, 0, 0)) ∧ (∀ (h1 : JH) (x6 : Int), Gd G h1 → Kp [(81, 0), (82, 0)] h h1 → 0 ≤ a1 → a1 ≤ 5 → 0 ≤ a2 → a2 ≤ 60 → 0 ≤ a3 → a3 ≤ 5 → 0 ≤ a4 → a4 ≤ 60 → 0 ≤ a5 → a5 ≤ 60 → 0 ≤ x6 → x6 ≤ 60 → (a2 + a5) ≤ 60 → (a4 + a5) ≤ 60 → a5 = shR a1 a2 a3 a4 a5 (h.2.2 79 (a1).toNat) (h.2.2 79 (a3).toNat) (h.2.2 80 (a1).toNat) (h.2.2 80 (a3).toNat) → ((-x6) + 60) < N → jEv (jOk 2) none (fun _ => 0) c376_0 0 0 (fun v h' => ∃ r : Int, v = some (0, r) ∧ Gd G h' ∧ Kp [(81, 0), (82, 0)] h h' ∧ r = shR a1 a2 a3 a4 a5 (h.2.2 79 (a1).toNat) (h.2.2 79 (a3).toNat) (h.2.2 80 (a1).toNat) (h.2.2 80 (a3).toNat)) (c376_150, [(2, 42), (0, a1), (0, a2), (0, a3), (0, a4), (0, a5), (0, x6)], [], h1, 0, 0)) := by
  intro N
  induction N with
  | zero => exact ⟨fun h1 x6 g1 k1 b0 b1 b2 b3 b4 b5 b6 b7 b8 b9 b10 b11 b12 b13 b14 hm => absurd hm (by omega), fun h1 x6 g1 k1 b0 b1 b2 b3 b4 b5 b6 b7 b8 b9 b10 b11 b12 b13 b14 hm => absurd hm (by omega)⟩
  | succ N ih =>
    refine ⟨?_, ?_⟩
    · intro h1 x6 g1 k1 b0 b1 b2 b3 b4 b5 b6 b7 b8 b9 b10 b11 b12 b13 H0 hm
      refine ev_iload rfl ?_
      refine ev_iload rfl ?_
      refine ev_icmpge f376_147 (fun c75650 => ?_) (fun c75650 => ?_)
      · refine ev_iconst ?_
        refine ev_istore (L' := [(2, 42), (0, a1), (0, a2), (0, a3), (0, a4), (0, a5), (0, 0)]) (Nat.le_of_ble_eq_true rfl) rfl ?_
        exact ih.2 _ _ g1 k1 (by omega) (by omega) (by omega) (by omega) (by omega) (by omega) (by omega) (by omega) (by omega) (by omega) (by omega) (by omega) (by omega) (by omega) H0 (by omega)
      · refine ev_aload_n rfl ?_
        refine g_getp (r := 42) (c := 82) g1 ad42 (by decide) (by decide) rf42_65 ft12_65 ?_
        refine ev_iload rfl ?_
        refine ev_aload_n rfl ?_
        refine g_getp (r := 42) (c := 81) g1 ad42 (by decide) (by decide) rf42_64 ft12_64 ?_
        refine ev_bipush ?_
        refine ev_iload_n rfl ?_
        refine ev_imul (r := (60 * a1)) (by unfold w32; omega) ?_
        refine ev_iload_n rfl ?_
        refine ev_iadd (r := (60 * a1 + a2)) (by unfold w32; omega) ?_
        refine ev_iload rfl ?_
        refine ev_iadd (r := (60 * a1 + a2 + x6)) (by unfold w32; omega) ?_
        refine g_lald g1 ad81 rt81 (by omega) (by omega) (fun v75651 ev75651 lv75651 uv75651 => ?_)
        refine g_last g1 ad82 rt82 (fun _ => rfl) (by omega) (by omega) (by omega) (by omega) (fun h75652 e75652 g75652 => ?_)
        have k75652 := k1.wr e75652 rfl
        refine ev_iinc (w := (x6 + 1)) (L' := [(2, 42), (0, a1), (0, a2), (0, a3), (0, a4), (0, a5), (0, (x6 + 1))]) rfl (by unfold w32; omega) rfl ?_
        refine ev_goto f376_113 ?_
        exact ih.1 _ _ g75652 k75652 (by omega) (by omega) (by omega) (by omega) (by omega) (by omega) (by omega) (by omega) (by omega) (by omega) (by omega) (by omega) (by omega) (by omega) H0 (by omega)
    · intro h1 x6 g1 k1 b0 b1 b2 b3 b4 b5 b6 b7 b8 b9 b10 b11 b12 b13 H0 hm
      refine ev_iload rfl ?_
      refine ev_iload rfl ?_
      refine ev_icmpge f376_185 (fun c75653 => ?_) (fun c75653 => ?_)
      · refine ev_iload rfl ?_
        exact ev_ret rfl (by decide) (by decide) ⟨_, rfl, g1, k1, H0⟩
      · refine ev_aload_n rfl ?_
        refine g_getp (r := 42) (c := 81) g1 ad42 (by decide) (by decide) rf42_64 ft12_64 ?_
        refine ev_bipush ?_
        refine ev_iload_n rfl ?_
        refine ev_imul (r := (60 * a3)) (by unfold w32; omega) ?_
        refine ev_iload rfl ?_
        refine ev_iadd (r := (60 * a3 + a4)) (by unfold w32; omega) ?_
        refine ev_iload rfl ?_
        refine ev_iadd (r := (60 * a3 + a4 + x6)) (by unfold w32; omega) ?_
        refine ev_aload_n rfl ?_
        refine g_getp (r := 42) (c := 82) g1 ad42 (by decide) (by decide) rf42_65 ft12_65 ?_
        refine ev_iload rfl ?_
        refine g_lald g1 ad82 rt82 (by omega) (by omega) (fun v75654 ev75654 lv75654 uv75654 => ?_)
        refine g_last g1 ad81 rt81 (fun _ => rfl) (by omega) (by omega) (by omega) (by omega) (fun h75655 e75655 g75655 => ?_)
        have k75655 := k1.wr e75655 rfl
        refine ev_iinc (w := (x6 + 1)) (L' := [(2, 42), (0, a1), (0, a2), (0, a3), (0, a4), (0, a5), (0, (x6 + 1))]) rfl (by unfold w32; omega) rfl ?_
        refine ev_goto f376_150 ?_
        exact ih.2 _ _ g75655 k75655 (by omega) (by omega) (by omega) (by omega) (by omega) (by omega) (by omega) (by omega) (by omega) (by omega) (by omega) (by omega) (by omega) (by omega) H0 (by omega)
set_option maxHeartbeats 4000000 in
theorem t376 {G : GH} {h : JH} (g : Gd G h) {a1 : Int} (la1 : (-2147483648) ≤ a1) (ua1 : a1 ≤ 2147483647) {a2 : Int} (la2 : (-2147483648) ≤ a2) (ua2 : a2 ≤ 2147483647) {a3 : Int} (la3 : (-2147483648) ≤ a3) (ua3 : a3 ≤ 2147483647) {a4 : Int} (la4 : (-2147483648) ≤ a4) (ua4 : a4 ≤ 2147483647) {a5 : Int} (la5 : (-2147483648) ≤ a5) (ua5 : a5 ≤ 2147483647) : jOk 3 0 0 376 [(2, 42), (0, a1), (0, a2), (0, a3), (0, a4), (0, a5)] h (fun v h' => ∃ r : Int, v = some (0, r) ∧ Gd G h' ∧ Kp [(81, 0), (82, 0)] h h' ∧ r = shR a1 a2 a3 a4 a5 (h.2.2 79 (a1).toNat) (h.2.2 79 (a3).toNat) (h.2.2 80 (a1).toNat) (h.2.2 80 (a3).toNat)) := by
  refine ⟨by decide, by rw [ml376]; exact Nat.le_of_ble_eq_true rfl, ?_⟩
  rw [ml376, pp376]
  show jEv _ none _ c376_0 0 0 _ (c376_0, [(2, 42), (0, a1), (0, a2), (0, a3), (0, a4), (0, a5), (9, 0)], [], h, 0, 0)
  have k0 := Kp.rf [(81, 0), (82, 0)] h
  refine ev_iload_n rfl ?_
  refine ev_in (d := 1) (a := 0) (b := 0) (cd' := c370_0) (m := 1) (L0 := [(0, a1)]) (jcall_s (A := [(0, a1)]) (S' := []) (by decide) rfl (Nat.le_of_ble_eq_true rfl)) (by decide) ml370 pp370 (Nat.le_of_ble_eq_true rfl) rfl (by decide) (by decide) ?_
  refine ev_iload_n rfl ?_
  refine ev_iconst ?_
  refine ev_iconst ?_
  refine ev_in (d := 0) (a := 0) (b := 0) (cd' := c242_0) (m := 3) (L0 := [(0, a1), (0, 0), (0, 5)]) (jcall_s (A := [(0, 5), (0, 0), (0, a1)]) (S' := []) (by decide) rfl (Nat.le_of_ble_eq_true rfl)) (by decide) ml242 pp242 (Nat.le_of_ble_eq_true rfl) rfl (by decide) (by decide) ?_
  refine ev_iload_n rfl ?_
  refine ev_iload_n rfl ?_
  refine ev_icmplt f242_14 (fun c75656 => ?_) (fun c75656 => ?_)
  · refine ev_iconst ?_
    refine ev_ret rfl (by decide) (by decide) ?_
    show jEv _ _ _ _ _ _ _ (_, [(0, a1)], [(0, 0)], _, _, _)
    refine ev_ret rfl (by decide) (by decide) ?_
    show jEv _ _ _ _ _ _ _ (_, [(2, 42), (0, a1), (0, a2), (0, a3), (0, a4), (0, a5), (9, 0)], [(0, 0)], _, _, _)
    refine ev_ifeq f376_14 (fun c75657 => ?_) (fun c75657 => absurd c75657 (by omega))
    refine ev_iconst ?_
    exact ev_ret rfl (by decide) (by decide) ⟨_, rfl, g, k0, by unfold shR; (repeat' split) <;> omega⟩
  · refine ev_iload_n rfl ?_
    refine ev_iload_n rfl ?_
    refine ev_icmpgt f242_14 (fun c75658 => ?_) (fun c75658 => ?_)
    · refine ev_iconst ?_
      refine ev_ret rfl (by decide) (by decide) ?_
      show jEv _ _ _ _ _ _ _ (_, [(0, a1)], [(0, 0)], _, _, _)
      refine ev_ret rfl (by decide) (by decide) ?_
      show jEv _ _ _ _ _ _ _ (_, [(2, 42), (0, a1), (0, a2), (0, a3), (0, a4), (0, a5), (9, 0)], [(0, 0)], _, _, _)
      refine ev_ifeq f376_14 (fun c75659 => ?_) (fun c75659 => absurd c75659 (by omega))
      refine ev_iconst ?_
      exact ev_ret rfl (by decide) (by decide) ⟨_, rfl, g, k0, by unfold shR; (repeat' split) <;> omega⟩
    · refine ev_iconst ?_
      refine ev_goto f242_15 ?_
      refine ev_ret rfl (by decide) (by decide) ?_
      show jEv _ _ _ _ _ _ _ (_, [(0, a1)], [(0, 1)], _, _, _)
      refine ev_ret rfl (by decide) (by decide) ?_
      show jEv _ _ _ _ _ _ _ (_, [(2, 42), (0, a1), (0, a2), (0, a3), (0, a4), (0, a5), (9, 0)], [(0, 1)], _, _, _)
      refine ev_ifeq f376_14 (fun c75660 => absurd c75660 (by omega)) (fun c75660 => ?_)
      refine ev_iload_n rfl ?_
      refine ev_in (d := 1) (a := 0) (b := 0) (cd' := c370_0) (m := 1) (L0 := [(0, a3)]) (jcall_s (A := [(0, a3)]) (S' := []) (by decide) rfl (Nat.le_of_ble_eq_true rfl)) (by decide) ml370 pp370 (Nat.le_of_ble_eq_true rfl) rfl (by decide) (by decide) ?_
      refine ev_iload_n rfl ?_
      refine ev_iconst ?_
      refine ev_iconst ?_
      refine ev_in (d := 0) (a := 0) (b := 0) (cd' := c242_0) (m := 3) (L0 := [(0, a3), (0, 0), (0, 5)]) (jcall_s (A := [(0, 5), (0, 0), (0, a3)]) (S' := []) (by decide) rfl (Nat.le_of_ble_eq_true rfl)) (by decide) ml242 pp242 (Nat.le_of_ble_eq_true rfl) rfl (by decide) (by decide) ?_
      refine ev_iload_n rfl ?_
      refine ev_iload_n rfl ?_
      refine ev_icmplt f242_14 (fun c75661 => ?_) (fun c75661 => ?_)
      · refine ev_iconst ?_
        refine ev_ret rfl (by decide) (by decide) ?_
        show jEv _ _ _ _ _ _ _ (_, [(0, a3)], [(0, 0)], _, _, _)
        refine ev_ret rfl (by decide) (by decide) ?_
        show jEv _ _ _ _ _ _ _ (_, [(2, 42), (0, a1), (0, a2), (0, a3), (0, a4), (0, a5), (9, 0)], [(0, 0)], _, _, _)
        refine ev_ifne f376_16 (fun c75662 => absurd c75662 (by omega)) (fun c75662 => ?_)
        refine ev_iconst ?_
        exact ev_ret rfl (by decide) (by decide) ⟨_, rfl, g, k0, by unfold shR; (repeat' split) <;> omega⟩
      · refine ev_iload_n rfl ?_
        refine ev_iload_n rfl ?_
        refine ev_icmpgt f242_14 (fun c75663 => ?_) (fun c75663 => ?_)
        · refine ev_iconst ?_
          refine ev_ret rfl (by decide) (by decide) ?_
          show jEv _ _ _ _ _ _ _ (_, [(0, a3)], [(0, 0)], _, _, _)
          refine ev_ret rfl (by decide) (by decide) ?_
          show jEv _ _ _ _ _ _ _ (_, [(2, 42), (0, a1), (0, a2), (0, a3), (0, a4), (0, a5), (9, 0)], [(0, 0)], _, _, _)
          refine ev_ifne f376_16 (fun c75664 => absurd c75664 (by omega)) (fun c75664 => ?_)
          refine ev_iconst ?_
          exact ev_ret rfl (by decide) (by decide) ⟨_, rfl, g, k0, by unfold shR; (repeat' split) <;> omega⟩
        · refine ev_iconst ?_
          refine ev_goto f242_15 ?_
          refine ev_ret rfl (by decide) (by decide) ?_
          show jEv _ _ _ _ _ _ _ (_, [(0, a3)], [(0, 1)], _, _, _)
          refine ev_ret rfl (by decide) (by decide) ?_
          show jEv _ _ _ _ _ _ _ (_, [(2, 42), (0, a1), (0, a2), (0, a3), (0, a4), (0, a5), (9, 0)], [(0, 1)], _, _, _)
          refine ev_ifne f376_16 (fun c75665 => ?_) (fun c75665 => absurd c75665 (by omega))
          refine ev_aload_n rfl ?_
          refine g_getp (r := 42) (c := 79) g ad42 (by decide) (by decide) rf42_62 ft12_62 ?_
          refine ev_iload_n rfl ?_
          refine g_iald g ad79 rt79 (by omega) (by omega) (fun v75666 ev75666 lv75666 uv75666 => ?_)
          refine ev_iconst ?_
          refine ev_icmpeq f376_36 (fun c75667 => ?_) (fun c75667 => ?_)
          · refine ev_bipush ?_
            exact ev_ret rfl (by decide) (by decide) ⟨_, rfl, g, k0, by unfold shR; (try rw [(ev75666)]); (repeat' split) <;> omega⟩
          · refine ev_aload_n rfl ?_
            refine g_getp (r := 42) (c := 79) g ad42 (by decide) (by decide) rf42_62 ft12_62 ?_
            refine ev_iload_n rfl ?_
            refine g_iald g ad79 rt79 (by omega) (by omega) (fun v75668 ev75668 lv75668 uv75668 => ?_)
            refine ev_iconst ?_
            refine ev_icmpne f376_39 (fun c75669 => ?_) (fun c75669 => ?_)
            · refine ev_aload_n rfl ?_
              refine g_getp (r := 42) (c := 79) g ad42 (by decide) (by decide) rf42_62 ft12_62 ?_
              refine ev_iload_n rfl ?_
              refine g_ialdv (v := v75666) g ad79 (by omega) (by omega) (ev75666) ?_
              refine ev_ifge f376_63 (fun c75670 => ?_) (fun c75670 => ?_)
              · refine ev_bipush ?_
                exact ev_ret rfl (by decide) (by decide) ⟨_, rfl, g, k0, by unfold shR; (try rw [(ev75666)]); (try rw [(ev75668)]); (repeat' split) <;> omega⟩
              · refine ev_aload_n rfl ?_
                refine g_getp (r := 42) (c := 79) g ad42 (by decide) (by decide) rf42_62 ft12_62 ?_
                refine ev_iload_n rfl ?_
                refine g_ialdv (v := v75666) g ad79 (by omega) (by omega) (ev75666) ?_
                refine ev_aload_n rfl ?_
                refine g_getp (r := 42) (c := 79) g ad42 (by decide) (by decide) rf42_62 ft12_62 ?_
                refine ev_iload_n rfl ?_
                refine g_ialdv (v := v75668) g ad79 (by omega) (by omega) (ev75668) ?_
                refine ev_icmpeq f376_66 (fun c75671 => ?_) (fun c75671 => ?_)
                · refine ev_iload rfl ?_
                  refine ev_iflt f376_107 (fun c75672 => ?_) (fun c75672 => ?_)
                  · refine ev_bipush ?_
                    exact ev_ret rfl (by decide) (by decide) ⟨_, rfl, g, k0, by unfold shR; (try rw [(ev75666)]); (try rw [(ev75668)]); (repeat' split) <;> omega⟩
                  · refine ev_iload_n rfl ?_
                    refine ev_iflt f376_107 (fun c75673 => ?_) (fun c75673 => ?_)
                    · refine ev_bipush ?_
                      exact ev_ret rfl (by decide) (by decide) ⟨_, rfl, g, k0, by unfold shR; (try rw [(ev75666)]); (try rw [(ev75668)]); (repeat' split) <;> omega⟩
                    · refine ev_iload rfl ?_
                      refine ev_iflt f376_107 (fun c75674 => ?_) (fun c75674 => ?_)
                      · refine ev_bipush ?_
                        exact ev_ret rfl (by decide) (by decide) ⟨_, rfl, g, k0, by unfold shR; (try rw [(ev75666)]); (try rw [(ev75668)]); (repeat' split) <;> omega⟩
                      · refine ev_iload_n rfl ?_
                        refine ev_aload_n rfl ?_
                        refine g_getp (r := 42) (c := 80) g ad42 (by decide) (by decide) rf42_63 ft12_63 ?_
                        refine ev_iload_n rfl ?_
                        refine g_iald g ad80 rt80 (by omega) (by omega) (fun v75675 ev75675 lv75675 uv75675 => ?_)
                        refine ev_iload rfl ?_
                        refine ev_isub (r := ((-a5) + v75675)) (by unfold w32; omega) ?_
                        refine ev_icmpgt f376_107 (fun c75676 => ?_) (fun c75676 => ?_)
                        · refine ev_bipush ?_
                          exact ev_ret rfl (by decide) (by decide) ⟨_, rfl, g, k0, by unfold shR; (try rw [(ev75666)]); (try rw [(ev75668)]); (try rw [(ev75675)]); (repeat' split) <;> omega⟩
                        · refine ev_iload rfl ?_
                          refine ev_aload_n rfl ?_
                          refine g_getp (r := 42) (c := 80) g ad42 (by decide) (by decide) rf42_63 ft12_63 ?_
                          refine ev_iload_n rfl ?_
                          refine g_iald g ad80 rt80 (by omega) (by omega) (fun v75677 ev75677 lv75677 uv75677 => ?_)
                          refine ev_iload rfl ?_
                          refine ev_isub (r := ((-a5) + v75677)) (by unfold w32; omega) ?_
                          refine ev_icmple f376_110 (fun c75678 => ?_) (fun c75678 => ?_)
                          · refine ev_iconst ?_
                            refine ev_istore (L' := [(2, 42), (0, a1), (0, a2), (0, a3), (0, a4), (0, a5), (0, 0)]) (Nat.le_of_ble_eq_true rfl) rfl ?_
                            exact (t376_l la1 ua1 la2 ua2 la3 ua3 la4 ua4 la5 ua5 183).1 _ _ g k0 (by omega) (by omega) (by omega) (by omega) (by omega) (by omega) (by omega) (by omega) (by omega) (by omega) (by omega) (by omega) (by omega) (by omega) (by unfold shR; (try rw [(ev75666)]); (try rw [(ev75668)]); (try rw [(ev75675)]); (try rw [(ev75677)]); (repeat' split) <;> omega) (by omega)
                          · refine ev_bipush ?_
                            exact ev_ret rfl (by decide) (by decide) ⟨_, rfl, g, k0, by unfold shR; (try rw [(ev75666)]); (try rw [(ev75668)]); (try rw [(ev75675)]); (try rw [(ev75677)]); (repeat' split) <;> omega⟩
                · refine ev_bipush ?_
                  exact ev_ret rfl (by decide) (by decide) ⟨_, rfl, g, k0, by unfold shR; (try rw [(ev75666)]); (try rw [(ev75668)]); (repeat' split) <;> omega⟩
            · refine ev_bipush ?_
              exact ev_ret rfl (by decide) (by decide) ⟨_, rfl, g, k0, by unfold shR; (try rw [(ev75666)]); (try rw [(ev75668)]); (repeat' split) <;> omega⟩
theorem jn11 : jN 11 = 17 := by decide +kernel
theorem jn12 : jN 12 = 66 := by decide +kernel
theorem ml384 : jML jnM = 4 := by decide +kernel
theorem pp384 : jP jnM = c384_0 := rfl
set_option maxRecDepth 100000 in
theorem jlawN : jchkN jnM = true := jchkNF_ok (by decide +kernel)
set_option maxRecDepth 100000 in
theorem f384_18 : jfind c384_0 18 = some c384_18 := rfl
set_option maxRecDepth 100000 in
theorem f384_260 : jfind c384_0 260 = some c384_260 := rfl
set_option maxRecDepth 100000 in
theorem f384_283 : jfind c384_0 283 = some c384_283 := rfl
set_option maxRecDepth 100000 in
theorem f384_316 : jfind c384_0 316 = some c384_316 := rfl
set_option maxRecDepth 100000 in
theorem f384_369 : jfind c384_0 369 = some c384_369 := rfl
set_option maxRecDepth 100000 in
theorem f384_382 : jfind c384_0 382 = some c384_382 := rfl
set_option maxRecDepth 100000 in
theorem f384_405 : jfind c384_0 405 = some c384_405 := rfl
set_option maxRecDepth 100000 in
theorem f384_448 : jfind c384_0 448 = some c384_448 := rfl
set_option maxRecDepth 100000 in
theorem f384_481 : jfind c384_0 481 = some c384_481 := rfl
set_option maxRecDepth 100000 in
theorem f384_494 : jfind c384_0 494 = some c384_494 := rfl
set_option maxRecDepth 100000 in
theorem f384_537 : jfind c384_0 537 = some c384_537 := rfl
set_option maxRecDepth 100000 in
theorem f384_590 : jfind c384_0 590 = some c384_590 := rfl
set_option maxRecDepth 100000 in
theorem f384_603 : jfind c384_0 603 = some c384_603 := rfl
set_option maxRecDepth 100000 in
theorem f384_616 : jfind c384_0 616 = some c384_616 := rfl
set_option maxRecDepth 100000 in
theorem f384_649 : jfind c384_0 649 = some c384_649 := rfl
set_option maxRecDepth 100000 in
theorem f384_682 : jfind c384_0 682 = some c384_682 := rfl
set_option maxRecDepth 100000 in
theorem f384_715 : jfind c384_0 715 = some c384_715 := rfl
set_option maxRecDepth 100000 in
theorem f384_758 : jfind c384_0 758 = some c384_758 := rfl
set_option maxRecDepth 100000 in
theorem f384_801 : jfind c384_0 801 = some c384_801 := rfl
set_option maxRecDepth 100000 in
theorem f384_844 : jfind c384_0 844 = some c384_844 := rfl
set_option maxRecDepth 100000 in
theorem f384_877 : jfind c384_0 877 = some c384_877 := rfl
set_option maxRecDepth 100000 in
theorem f384_930 : jfind c384_0 930 = some c384_930 := rfl
set_option maxRecDepth 100000 in
theorem f384_963 : jfind c384_0 963 = some c384_963 := rfl
set_option maxRecDepth 100000 in
theorem f384_1006 : jfind c384_0 1006 = some c384_1006 := rfl
set_option maxRecDepth 100000 in
theorem f384_1059 : jfind c384_0 1059 = some c384_1059 := rfl
set_option maxRecDepth 100000 in
theorem f384_1082 : jfind c384_0 1082 = some c384_1082 := rfl
set_option maxRecDepth 100000 in
theorem f384_1125 : jfind c384_0 1125 = some c384_1125 := rfl
set_option maxRecDepth 100000 in
theorem f384_1178 : jfind c384_0 1178 = some c384_1178 := rfl
set_option maxRecDepth 100000 in
theorem f384_1201 : jfind c384_0 1201 = some c384_1201 := rfl
set_option maxRecDepth 100000 in
theorem f384_1254 : jfind c384_0 1254 = some c384_1254 := rfl
set_option maxRecDepth 100000 in
theorem f384_1307 : jfind c384_0 1307 = some c384_1307 := rfl
set_option maxRecDepth 100000 in
theorem f384_1340 : jfind c384_0 1340 = some c384_1340 := rfl
set_option maxRecDepth 100000 in
theorem f384_1383 : jfind c384_0 1383 = some c384_1383 := rfl
set_option maxRecDepth 100000 in
theorem f384_1406 : jfind c384_0 1406 = some c384_1406 := rfl
set_option maxRecDepth 100000 in
theorem f384_1429 : jfind c384_0 1429 = some c384_1429 := rfl
set_option maxRecDepth 100000 in
theorem f384_1452 : jfind c384_0 1452 = some c384_1452 := rfl
set_option maxRecDepth 100000 in
theorem f384_1495 : jfind c384_0 1495 = some c384_1495 := rfl
set_option maxRecDepth 100000 in
theorem f384_1518 : jfind c384_0 1518 = some c384_1518 := rfl
set_option maxRecDepth 100000 in
theorem f384_1551 : jfind c384_0 1551 = some c384_1551 := rfl
set_option maxRecDepth 100000 in
theorem f384_1564 : jfind c384_0 1564 = some c384_1564 := rfl
set_option maxRecDepth 100000 in
theorem f384_1597 : jfind c384_0 1597 = some c384_1597 := rfl
set_option maxRecDepth 100000 in
theorem f384_1630 : jfind c384_0 1630 = some c384_1630 := rfl
set_option maxRecDepth 100000 in
theorem f384_1683 : jfind c384_0 1683 = some c384_1683 := rfl
set_option maxRecDepth 100000 in
theorem f384_1726 : jfind c384_0 1726 = some c384_1726 := rfl
set_option maxRecDepth 100000 in
theorem f384_1769 : jfind c384_0 1769 = some c384_1769 := rfl
set_option maxRecDepth 100000 in
theorem f384_1812 : jfind c384_0 1812 = some c384_1812 := rfl
set_option maxRecDepth 100000 in
theorem f384_1855 : jfind c384_0 1855 = some c384_1855 := rfl
set_option maxRecDepth 100000 in
theorem f384_1878 : jfind c384_0 1878 = some c384_1878 := rfl
set_option maxRecDepth 100000 in
theorem f384_1911 : jfind c384_0 1911 = some c384_1911 := rfl
set_option maxRecDepth 100000 in
theorem f384_1954 : jfind c384_0 1954 = some c384_1954 := rfl
set_option maxRecDepth 100000 in
theorem f384_2027 : jfind c384_0 2027 = some c384_2027 := rfl
set_option maxRecDepth 100000 in
theorem f384_2060 : jfind c384_0 2060 = some c384_2060 := rfl
set_option maxRecDepth 100000 in
theorem f384_2123 : jfind c384_0 2123 = some c384_2123 := rfl
set_option maxRecDepth 100000 in
theorem f384_2156 : jfind c384_0 2156 = some c384_2156 := rfl
set_option maxRecDepth 100000 in
theorem f384_2179 : jfind c384_0 2179 = some c384_2179 := rfl
set_option maxRecDepth 100000 in
theorem f384_2185 : jfind c384_0 2185 = some c384_2185 := rfl

