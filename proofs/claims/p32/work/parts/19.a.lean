def TV (a s v R C : Int) : Prop := 0 ≤ a ∧ a / 10 < R ∧ a % 10 < C ∧ 0 ≤ s ∧ s ≤ 1 ∧ -99 ≤ v ∧ v ≤ 99
def TB (r c : Int) : Prop := 1 ≤ r ∧ r ≤ 4 ∧ 1 ≤ c ∧ c ≤ 4
def Up (h h' : JH) (a : Nat) (i v : Int) : Prop := h'.2.2 a i.toNat = v ∧ ∀ j : Nat, j ≠ i.toNat → h'.2.2 a j = h.2.2 a j
theorem Up.mk {h h' : JH} {a : Nat} {i i' v : Int} (e : h' = jwr h a i.toNat v) (hi : i' = i) : Up h h' a i' v := by
  subst hi
  exact ⟨jw_eq e, fun j hj => jw_ne e (Or.inr hj)⟩
def Sm (h h' : JH) (a : Nat) : Prop := ∀ j : Nat, h'.2.2 a j = h.2.2 a j
def Z0 (h : JH) (a : Nat) (x : Int) : Prop := ∀ j : Nat, (j : Int) < x → h.2.2 a j = 0
theorem Z0.start (h : JH) (a : Nat) : Z0 h a 0 := fun j hj => by omega
theorem Z0.step {h h' : JH} {a : Nat} {x : Int} (z : Z0 h a x) (x0 : 0 ≤ x) (e : h' = jwr h a x.toNat 0) : Z0 h' a (x + 1) := fun j hj => by
  rcases Decidable.em (j = x.toNat) with r | r
  · rw [r]; exact jw_eq e
  · rw [jw_ne e (Or.inr r)]; exact z j (by omega)
theorem Z0.le {h : JH} {a : Nat} {x y : Int} (z : Z0 h a x) (hy : y ≤ x) : Z0 h a y := fun j hj => z j (by omega)
theorem at_e {h : JH} {a : Nat} {i i' v : Int} (e : h.2.2 a i.toNat = v) (hi : i' = i) : v = h.2.2 a i'.toNat := by rw [hi]; exact e.symm
def Cc : List (Nat × Nat) := [(26, 1), (26, 2), (27, 0), (42, 45), (42, 46), (67, 0)]
def Rl (h : JH) : Prop := h.2.2 26 0 = h.2.2 42 44 ∧ h.2.2 26 1 = h.2.2 42 45 ∧ ∀ r c s : Nat, r < 4 → c < 4 → s < 2 → h.2.2 27 (8 * r + 2 * c + s) = h.2.2 67 (16 * s + 4 * r + c)
theorem Rl.fr {h h' : JH} (x : Rl h) (e : ∀ a i, inW Cc a i = true → h'.2.2 a i = h.2.2 a i) : Rl h' := by
  refine ⟨by rw [e 26 0 rfl, e 42 44 rfl]; exact x.1, by rw [e 26 1 rfl, e 42 45 rfl]; exact x.2.1, fun r c s hr hc hs => ?_⟩
  rw [e 27 _ rfl, e 67 _ rfl]
  exact x.2.2 r c s hr hc hs
def dsj (C W : List (Nat × Nat)) : Bool := C.all (fun c => decide (c.1 < 83) && W.all (fun w => w.1 != c.1 || (w.2 != 0 && c.2 != 0 && w.2 != c.2)))
theorem dsj_at {C W : List (Nat × Nat)} (h : dsj C W = true) {a i : Nat} (hc : inW C a i = true) : a < 83 ∧ inW W a i = false := by
  unfold inW at hc
  obtain ⟨c, hm, hq⟩ := List.any_eq_true.mp hc
  have h1 := List.all_eq_true.mp h c hm
  rw [Bool.and_eq_true, decide_eq_true_eq] at h1
  simp only [Bool.or_eq_true, Bool.and_eq_true, beq_iff_eq, decide_eq_true_eq] at hq
  have ha : a < 83 := by omega
  refine ⟨ha, ?_⟩
  unfold inW
  rw [List.any_eq_false]
  intro w hw hx
  have h2 := List.all_eq_true.mp h1.2 w hw
  simp only [Bool.or_eq_true, Bool.and_eq_true, bne_iff_ne] at h2
  simp only [Bool.or_eq_true, Bool.and_eq_true, beq_iff_eq, decide_eq_true_eq] at hx
  omega
theorem Rl.kp {W : List (Nat × Nat)} {h h' : JH} (x : Rl h) (k : Kp W h h') (hd : dsj Cc W = true) : Rl h' := x.fr (fun a i hc => k.v (dsj_at hd hc).2)
theorem Rl.kx {W : List (Nat × Nat)} {h h' : JH} (x : Rl h) (k : Kx W h h') (hd : dsj Cc W = true) (h83 : 83 ≤ h.1) : Rl h' := x.fr (fun a i hc => k.2.2 a i (Nat.lt_of_lt_of_le (dsj_at hd hc).1 h83) (dsj_at hd hc).2)
def CeC (h h' : JH) (a s v R C r : Int) : Prop := (¬ TV a s v R C ∧ r = -2000000000 ∧ Sm h h' 27) ∨ (TV a s v R C ∧ r = h.2.2 27 (8 * (a / 10) + 2 * (a % 10) + s).toNat ∧ Up h h' 27 (8 * (a / 10) + 2 * (a % 10) + s) v)
def CeR (h h' : JH) (a s v R C r : Int) : Prop := (¬ TV a s v R C ∧ r = -2000000000 ∧ Sm h h' 67) ∨ (TV a s v R C ∧ r = h.2.2 67 (16 * s + 4 * (a / 10) + a % 10).toNat ∧ Up h h' 67 (16 * s + 4 * (a / 10) + a % 10) v)
def TaC (h h' : JH) (a b r : Int) : Prop := (¬ TB a b ∧ r = -1 ∧ h'.2.2 26 0 = h.2.2 26 0 ∧ h'.2.2 26 1 = h.2.2 26 1 ∧ Sm h h' 27) ∨ (TB a b ∧ r = a * b ∧ h'.2.2 26 0 = a ∧ h'.2.2 26 1 = b ∧ Z0 h' 27 32)
def TaR (h h' : JH) (a b r : Int) : Prop := (¬ TB a b ∧ r = -1 ∧ h'.2.2 42 44 = h.2.2 42 44 ∧ h'.2.2 42 45 = h.2.2 42 45 ∧ Sm h h' 67) ∨ (TB a b ∧ r = a * b ∧ h'.2.2 42 44 = a ∧ h'.2.2 42 45 = b ∧ Z0 h' 67 32)
theorem Rl.cell {h h1 h2 : JH} {a s v R C r1 r2 : Int} (x : Rl h) (k1 : Kp [(27, 0)] h h1) (k2 : Kp [(67, 0)] h1 h2) (hR : R ≤ 4) (hC : C ≤ 4) (f1 : CeC h h1 a s v R C r1) (f2 : CeR h1 h2 a s v R C r2) : r1 = r2 ∧ Rl h2 := by
  obtain ⟨x1, x2, x3⟩ := x
  have y1 : h2.2.2 26 0 = h2.2.2 42 44 := by rw [k2.v rfl, k1.v rfl, k2.v (a := 42) rfl, k1.v (a := 42) rfl]; exact x1
  have y2 : h2.2.2 26 1 = h2.2.2 42 45 := by rw [k2.v rfl, k1.v rfl, k2.v (a := 42) rfl, k1.v (a := 42) rfl]; exact x2
  have e67 : ∀ j, h1.2.2 67 j = h.2.2 67 j := fun j => k1.v rfl
  have e27 : ∀ j, h2.2.2 27 j = h1.2.2 27 j := fun j => k2.v rfl
  rcases f1 with ⟨n1, q1, m1⟩ | ⟨t1, q1, m1⟩
  · rcases f2 with ⟨n2, q2, m2⟩ | ⟨t2, _⟩
    · exact ⟨q1.trans q2.symm, y1, y2, fun r c s hr hc hs => by rw [e27, m1, m2, e67]; exact x3 r c s hr hc hs⟩
    · exact absurd t2 n1
  · rcases f2 with ⟨n2, _⟩ | ⟨t2, q2, m2⟩
    · exact absurd t1 n2
    · unfold TV at t1
      have e0 := x3 (a / 10).toNat (a % 10).toNat s.toNat (by omega) (by omega) (by omega)
      have i1 : (8 * (a / 10) + 2 * (a % 10) + s).toNat = 8 * (a / 10).toNat + 2 * (a % 10).toNat + s.toNat := by omega
      have i2 : (16 * s + 4 * (a / 10) + a % 10).toNat = 16 * s.toNat + 4 * (a / 10).toNat + (a % 10).toNat := by omega
      refine ⟨by rw [q1, q2, e67, i1, i2]; exact e0, y1, y2, fun r c u hr hc hu => ?_⟩
      rw [e27]
      rcases Decidable.em (r = (a / 10).toNat ∧ c = (a % 10).toNat ∧ u = s.toNat) with ⟨z1, z2, z3⟩ | z
      · rw [z1, z2, z3, ← i1, ← i2, m1.1, m2.1]
      · rw [m1.2 _ (by omega), m2.2 _ (by omega), e67]
        exact x3 r c u hr hc hu
theorem Rl.table {h h1 h2 : JH} {a b r1 r2 : Int} (x : Rl h) (k1 : Kp [(26, 1), (26, 2), (27, 0)] h h1) (k2 : Kp [(42, 45), (42, 46), (67, 0)] h1 h2) (f1 : TaC h h1 a b r1) (f2 : TaR h1 h2 a b r2) : r1 = r2 ∧ Rl h2 := by
  obtain ⟨x1, x2, x3⟩ := x
  have e67 : ∀ j, h1.2.2 67 j = h.2.2 67 j := fun j => k1.v rfl
  have e27 : ∀ j, h2.2.2 27 j = h1.2.2 27 j := fun j => k2.v rfl
  have a0 : h2.2.2 26 0 = h1.2.2 26 0 := k2.v rfl
  have a1 : h2.2.2 26 1 = h1.2.2 26 1 := k2.v rfl
  have b0 : h1.2.2 42 44 = h.2.2 42 44 := k1.v rfl
  have b1 : h1.2.2 42 45 = h.2.2 42 45 := k1.v rfl
  rcases f1 with ⟨n1, q1, u1, u2, m1⟩ | ⟨t1, q1, u1, u2, m1⟩
  · rcases f2 with ⟨n2, q2, w1, w2, m2⟩ | ⟨t2, _⟩
    · exact ⟨q1.trans q2.symm, by rw [a0, u1, w1, b0]; exact x1, by rw [a1, u2, w2, b1]; exact x2, fun r c s hr hc hs => by rw [e27, m1, m2, e67]; exact x3 r c s hr hc hs⟩
    · exact absurd t2 n1
  · rcases f2 with ⟨n2, _⟩ | ⟨t2, q2, w1, w2, m2⟩
    · exact absurd t1 n2
    · exact ⟨q1.trans q2.symm, by rw [a0, u1, w1], by rw [a1, u2, w2], fun r c s hr hc hs => by rw [e27, m1 _ (by omega), m2 _ (by omega)]⟩
set_option maxHeartbeats 4000000 in
theorem t196 {G : GH} {h : JH} (g : Gd G h) {a1 : Int} (la1 : (-2147483648) ≤ a1) (ua1 : a1 ≤ 2147483647) {a2 : Int} (la2 : (-2147483648) ≤ a2) (ua2 : a2 ≤ 2147483647) {a3 : Int} (la3 : (-2147483648) ≤ a3) (ua3 : a3 ≤ 2147483647) {w0 : Int} (ew0 : h.2.2 26 0 = w0) (lw0 : 0 ≤ w0) (uw0 : w0 ≤ 4) {w1 : Int} (ew1 : h.2.2 26 1 = w1) (lw1 : 0 ≤ w1) (uw1 : w1 ≤ 4) : jOk 3 0 0 196 [(2, 0), (0, a1), (0, a2), (0, a3)] h (fun v h' => ∃ r : Int, v = some (0, r) ∧ Gd G h' ∧ Kp [(27, 0)] h h' ∧ CeC h h' a1 a2 a3 w0 w1 r) := by
  refine ⟨by decide, by rw [ml196]; exact Nat.le_of_ble_eq_true rfl, ?_⟩
  rw [ml196, pp196]
  show jEv _ none _ c196_0 0 0 _ (c196_0, [(2, 0), (0, a1), (0, a2), (0, a3)], [], h, 0, 0)
  have k0 := Kp.rf [(27, 0)] h
  refine ev_iload_n rfl ?_
  refine ev_iflt f196_43 (fun c75138 => ?_) (fun c75138 => ?_)
  · refine ev_ldc ?_
    exact ev_ret rfl (by decide) (by decide) ⟨_, rfl, g, k0, Or.inl ⟨by unfold TV; omega, rfl, fun _ => rfl⟩⟩
  · refine ev_aload_n rfl ?_
    refine g_getp (r := 0) (c := 26) g ad0 (by decide) (by decide) rf0_11 ft11_11 ?_
    refine ev_iload_n rfl ?_
    refine ev_bipush ?_
    refine g_idivP (c := 10) rfl (by decide) (by omega) (by omega) (fun v75139 ev75139 lv75139 uv75139 => ?_)
    refine ev_iload_n rfl ?_
    refine ev_bipush ?_
    refine g_iremP (c := 10) rfl (by decide) (by omega) (fun v75140 ev75140 lv75140 uv75140 wv75140 => ?_)
    refine ev_in (d := 1) (a := 0) (b := 0) (cd' := c105_0) (m := 3) (L0 := [(2, 26), (0, v75139), (0, v75140)]) (jcall_v (A := [(0, v75140), (0, v75139)]) (S' := []) (r := 26) rfl (g.lt ad26) (g.tg ad26) (Nat.le_of_ble_eq_true rfl)) (by decide) ml105 pp105 (Nat.le_of_ble_eq_true rfl) rfl (by decide) (by decide) ?_
    refine ev_iload_n rfl ?_
    refine ev_iflt f105_28 (fun c75141 => absurd c75141 (by omega)) (fun c75141 => ?_)
    refine ev_iload_n rfl ?_
    refine ev_aload_n rfl ?_
    refine g_getv (r := 26) (v := w0) g ad26 (by decide) ft9_0 (ew0) ?_
    refine ev_icmpge f105_28 (fun c75142 => ?_) (fun c75142 => ?_)
    · refine ev_iconst ?_
      refine ev_ret rfl (by decide) (by decide) ?_
      show jEv _ _ _ _ _ _ _ (_, [(2, 0), (0, a1), (0, a2), (0, a3)], [(0, 0)], _, _, _)
      refine ev_ifeq f196_43 (fun c75143 => ?_) (fun c75143 => absurd c75143 (by omega))
      refine ev_ldc ?_
      exact ev_ret rfl (by decide) (by decide) ⟨_, rfl, g, k0, Or.inl ⟨by unfold TV; omega, rfl, fun _ => rfl⟩⟩
    · refine ev_iload_n rfl ?_
      refine ev_iflt f105_28 (fun c75144 => absurd c75144 (by omega)) (fun c75144 => ?_)
      refine ev_iload_n rfl ?_
      refine ev_aload_n rfl ?_
      refine g_getv (r := 26) (v := w1) g ad26 (by decide) ft9_1 (ew1) ?_
      refine ev_icmpge f105_28 (fun c75145 => ?_) (fun c75145 => ?_)
      · refine ev_iconst ?_
        refine ev_ret rfl (by decide) (by decide) ?_
        show jEv _ _ _ _ _ _ _ (_, [(2, 0), (0, a1), (0, a2), (0, a3)], [(0, 0)], _, _, _)
        refine ev_ifeq f196_43 (fun c75146 => ?_) (fun c75146 => absurd c75146 (by omega))
        refine ev_ldc ?_
        exact ev_ret rfl (by decide) (by decide) ⟨_, rfl, g, k0, Or.inl ⟨by unfold TV; omega, rfl, fun _ => rfl⟩⟩
      · refine ev_iconst ?_
        refine ev_goto f105_29 ?_
        refine ev_ret rfl (by decide) (by decide) ?_
        show jEv _ _ _ _ _ _ _ (_, [(2, 0), (0, a1), (0, a2), (0, a3)], [(0, 1)], _, _, _)
        refine ev_ifeq f196_43 (fun c75147 => absurd c75147 (by omega)) (fun c75147 => ?_)
        refine ev_iload_n rfl ?_
        refine ev_iflt f196_43 (fun c75148 => ?_) (fun c75148 => ?_)
        · refine ev_ldc ?_
          exact ev_ret rfl (by decide) (by decide) ⟨_, rfl, g, k0, Or.inl ⟨by unfold TV; omega, rfl, fun _ => rfl⟩⟩
        · refine ev_iload_n rfl ?_
          refine ev_iconst ?_
          refine ev_icmpgt f196_43 (fun c75149 => ?_) (fun c75149 => ?_)
          · refine ev_ldc ?_
            exact ev_ret rfl (by decide) (by decide) ⟨_, rfl, g, k0, Or.inl ⟨by unfold TV; omega, rfl, fun _ => rfl⟩⟩
          · refine ev_iload_n rfl ?_
            refine ev_bipush ?_
            refine ev_icmplt f196_43 (fun c75150 => ?_) (fun c75150 => ?_)
            · refine ev_ldc ?_
              exact ev_ret rfl (by decide) (by decide) ⟨_, rfl, g, k0, Or.inl ⟨by unfold TV; omega, rfl, fun _ => rfl⟩⟩
            · refine ev_iload_n rfl ?_
              refine ev_bipush ?_
              refine ev_icmple f196_46 (fun c75151 => ?_) (fun c75151 => ?_)
              · refine ev_aload_n rfl ?_
                refine g_getp (r := 0) (c := 26) g ad0 (by decide) (by decide) rf0_11 ft11_11 ?_
                refine ev_iload_n rfl ?_
                refine ev_bipush ?_
                refine g_idivP (c := 10) rfl (by decide) (by omega) (by omega) (fun v75152 ev75152 lv75152 uv75152 => ?_)
                obtain rfl : v75139 = v75152 := by omega
                refine ev_iload_n rfl ?_
                refine ev_bipush ?_
                refine g_iremP (c := 10) rfl (by decide) (by omega) (fun v75153 ev75153 lv75153 uv75153 wv75153 => ?_)
                obtain rfl : v75140 = v75153 := by omega
                refine ev_iload_n rfl ?_
                refine ev_iload_n rfl ?_
                refine ev_in (d := 1) (a := 0) (b := 0) (cd' := c107_0) (m := 6) (L0 := [(2, 26), (0, v75139), (0, v75140), (0, a2), (0, a3), (9, 0)]) (jcall_v (A := [(0, a3), (0, a2), (0, v75140), (0, v75139)]) (S' := []) (r := 26) rfl (g.lt ad26) (g.tg ad26) (Nat.le_of_ble_eq_true rfl)) (by decide) ml107 pp107 (Nat.le_of_ble_eq_true rfl) rfl (by decide) (by decide) ?_
                refine ev_aload_n rfl ?_
                refine ev_iload_n rfl ?_
                refine ev_iload_n rfl ?_
                refine ev_iload_n rfl ?_
                refine ev_in (d := 0) (a := 0) (b := 0) (cd' := c106_0) (m := 4) (L0 := [(2, 26), (0, v75139), (0, v75140), (0, a2)]) (jcall_v (A := [(0, a2), (0, v75140), (0, v75139)]) (S' := []) (r := 26) rfl (g.lt ad26) (g.tg ad26) (Nat.le_of_ble_eq_true rfl)) (by decide) ml106 pp106 (Nat.le_of_ble_eq_true rfl) rfl (by decide) (by decide) ?_
                refine ev_aload_n rfl ?_
                refine g_getp (r := 26) (c := 27) g ad26 (by decide) (by decide) rf26_2 ft9_2 ?_
                refine ev_bipush ?_
                refine ev_iload_n rfl ?_
                refine ev_imul (r := (8 * v75139)) (by unfold w32; omega) ?_
                refine ev_iconst ?_
                refine ev_iload_n rfl ?_
                refine ev_imul (r := (2 * v75140)) (by unfold w32; omega) ?_
                refine ev_iadd (r := (8 * v75139 + 2 * v75140)) (by unfold w32; omega) ?_
                refine ev_iload_n rfl ?_
                refine ev_iadd (r := (a2 + 8 * v75139 + 2 * v75140)) (by unfold w32; omega) ?_
                refine g_iald g ad27 rt27 (by omega) (by omega) (fun v75154 ev75154 lv75154 uv75154 => ?_)
                refine ev_ret rfl (by decide) (by decide) ?_
                show jEv _ _ _ _ _ _ _ (_, [(2, 26), (0, v75139), (0, v75140), (0, a2), (0, a3), (9, 0)], [(0, v75154)], _, _, _)
                refine ev_istore (L' := [(2, 26), (0, v75139), (0, v75140), (0, a2), (0, a3), (0, v75154)]) (Nat.le_of_ble_eq_true rfl) rfl ?_
                refine ev_aload_n rfl ?_
                refine g_getp (r := 26) (c := 27) g ad26 (by decide) (by decide) rf26_2 ft9_2 ?_
                refine ev_bipush ?_
                refine ev_iload_n rfl ?_
                refine ev_imul (r := (8 * v75139)) (by unfold w32; omega) ?_
                refine ev_iconst ?_
                refine ev_iload_n rfl ?_
                refine ev_imul (r := (2 * v75140)) (by unfold w32; omega) ?_
                refine ev_iadd (r := (8 * v75139 + 2 * v75140)) (by unfold w32; omega) ?_
                refine ev_iload_n rfl ?_
                refine ev_iadd (r := (a2 + 8 * v75139 + 2 * v75140)) (by unfold w32; omega) ?_
                refine ev_iload rfl ?_
                refine g_iast g ad27 rt27 (fun _ => rfl) (by omega) (by omega) (by omega) (by omega) (fun h75155 e75155 g75155 => ?_)
                have k75155 := k0.wr e75155 rfl
                refine ev_iload rfl ?_
                refine ev_ret rfl (by decide) (by decide) ?_
                show jEv _ _ _ _ _ _ _ (_, [(2, 0), (0, a1), (0, a2), (0, a3)], [(0, v75154)], _, _, _)
                exact ev_ret rfl (by decide) (by decide) ⟨_, rfl, g75155, k75155, Or.inr ⟨by unfold TV; omega, at_e ev75154 (by omega), Up.mk e75155 (by omega)⟩⟩
              · refine ev_ldc ?_
                exact ev_ret rfl (by decide) (by decide) ⟨_, rfl, g, k0, Or.inl ⟨by unfold TV; omega, rfl, fun _ => rfl⟩⟩
set_option maxHeartbeats 4000000 in
theorem t331 {G : GH} {h : JH} (g : Gd G h) {a1 : Int} (la1 : (-2147483648) ≤ a1) (ua1 : a1 ≤ 2147483647) {a2 : Int} (la2 : (-2147483648) ≤ a2) (ua2 : a2 ≤ 2147483647) {a3 : Int} (la3 : (-2147483648) ≤ a3) (ua3 : a3 ≤ 2147483647) {w0 : Int} (ew0 : h.2.2 42 44 = w0) (lw0 : 0 ≤ w0) (uw0 : w0 ≤ 4) {w1 : Int} (ew1 : h.2.2 42 45 = w1) (lw1 : 0 ≤ w1) (uw1 : w1 ≤ 4) : jOk 2 0 0 331 [(2, 42), (0, a1), (0, a2), (0, a3)] h (fun v h' => ∃ r : Int, v = some (0, r) ∧ Gd G h' ∧ Kp [(67, 0)] h h' ∧ CeR h h' a1 a2 a3 w0 w1 r) := by
  refine ⟨by decide, by rw [ml331]; exact Nat.le_of_ble_eq_true rfl, ?_⟩
  rw [ml331, pp331]
  show jEv _ none _ c331_0 0 0 _ (c331_0, [(2, 42), (0, a1), (0, a2), (0, a3), (9, 0), (9, 0)], [], h, 0, 0)
  have k0 := Kp.rf [(67, 0)] h
  refine ev_iload_n rfl ?_
  refine ev_iflt f331_46 (fun c75194 => ?_) (fun c75194 => ?_)
  · refine ev_ldc_w ?_
    exact ev_ret rfl (by decide) (by decide) ⟨_, rfl, g, k0, Or.inl ⟨by unfold TV; omega, rfl, fun _ => rfl⟩⟩
  · refine ev_iload_n rfl ?_
    refine ev_bipush ?_
    refine g_idivP (c := 10) rfl (by decide) (by omega) (by omega) (fun v75195 ev75195 lv75195 uv75195 => ?_)
    refine ev_aload_n rfl ?_
    refine g_getv (r := 42) (v := w0) g ad42 (by decide) ft12_44 (ew0) ?_
    refine ev_icmpge f331_46 (fun c75196 => ?_) (fun c75196 => ?_)
    · refine ev_ldc_w ?_
      exact ev_ret rfl (by decide) (by decide) ⟨_, rfl, g, k0, Or.inl ⟨by unfold TV; omega, rfl, fun _ => rfl⟩⟩
    · refine ev_iload_n rfl ?_
      refine ev_bipush ?_
      refine g_iremP (c := 10) rfl (by decide) (by omega) (fun v75197 ev75197 lv75197 uv75197 wv75197 => ?_)
      refine ev_aload_n rfl ?_
      refine g_getv (r := 42) (v := w1) g ad42 (by decide) ft12_45 (ew1) ?_
      refine ev_icmpge f331_46 (fun c75198 => ?_) (fun c75198 => ?_)
      · refine ev_ldc_w ?_
        exact ev_ret rfl (by decide) (by decide) ⟨_, rfl, g, k0, Or.inl ⟨by unfold TV; omega, rfl, fun _ => rfl⟩⟩
      · refine ev_iload_n rfl ?_
        refine ev_iconst ?_
        refine ev_iconst ?_
        refine ev_in (d := 0) (a := 0) (b := 0) (cd' := c242_0) (m := 3) (L0 := [(0, a2), (0, 0), (0, 1)]) (jcall_s (A := [(0, 1), (0, 0), (0, a2)]) (S' := []) (by decide) rfl (Nat.le_of_ble_eq_true rfl)) (by decide) ml242 pp242 (Nat.le_of_ble_eq_true rfl) rfl (by decide) (by decide) ?_
        refine ev_iload_n rfl ?_
        refine ev_iload_n rfl ?_
        refine ev_icmplt f242_14 (fun c75199 => ?_) (fun c75199 => ?_)
        · refine ev_iconst ?_
          refine ev_ret rfl (by decide) (by decide) ?_
          show jEv _ _ _ _ _ _ _ (_, [(2, 42), (0, a1), (0, a2), (0, a3), (9, 0), (9, 0)], [(0, 0)], _, _, _)
          refine ev_ifeq f331_46 (fun c75200 => ?_) (fun c75200 => absurd c75200 (by omega))
          refine ev_ldc_w ?_
          exact ev_ret rfl (by decide) (by decide) ⟨_, rfl, g, k0, Or.inl ⟨by unfold TV; omega, rfl, fun _ => rfl⟩⟩
        · refine ev_iload_n rfl ?_
          refine ev_iload_n rfl ?_
          refine ev_icmpgt f242_14 (fun c75201 => ?_) (fun c75201 => ?_)
          · refine ev_iconst ?_
            refine ev_ret rfl (by decide) (by decide) ?_
            show jEv _ _ _ _ _ _ _ (_, [(2, 42), (0, a1), (0, a2), (0, a3), (9, 0), (9, 0)], [(0, 0)], _, _, _)
            refine ev_ifeq f331_46 (fun c75202 => ?_) (fun c75202 => absurd c75202 (by omega))
            refine ev_ldc_w ?_
            exact ev_ret rfl (by decide) (by decide) ⟨_, rfl, g, k0, Or.inl ⟨by unfold TV; omega, rfl, fun _ => rfl⟩⟩
          · refine ev_iconst ?_
            refine ev_goto f242_15 ?_
            refine ev_ret rfl (by decide) (by decide) ?_
            show jEv _ _ _ _ _ _ _ (_, [(2, 42), (0, a1), (0, a2), (0, a3), (9, 0), (9, 0)], [(0, 1)], _, _, _)
            refine ev_ifeq f331_46 (fun c75203 => absurd c75203 (by omega)) (fun c75203 => ?_)
            refine ev_iload_n rfl ?_
            refine ev_bipush ?_
            refine ev_bipush ?_
            refine ev_in (d := 0) (a := 0) (b := 0) (cd' := c242_0) (m := 3) (L0 := [(0, a3), (0, (-99)), (0, 99)]) (jcall_s (A := [(0, 99), (0, (-99)), (0, a3)]) (S' := []) (by decide) rfl (Nat.le_of_ble_eq_true rfl)) (by decide) ml242 pp242 (Nat.le_of_ble_eq_true rfl) rfl (by decide) (by decide) ?_
            refine ev_iload_n rfl ?_
            refine ev_iload_n rfl ?_
            refine ev_icmplt f242_14 (fun c75204 => ?_) (fun c75204 => ?_)
            · refine ev_iconst ?_
              refine ev_ret rfl (by decide) (by decide) ?_
              show jEv _ _ _ _ _ _ _ (_, [(2, 42), (0, a1), (0, a2), (0, a3), (9, 0), (9, 0)], [(0, 0)], _, _, _)
              refine ev_ifne f331_50 (fun c75205 => absurd c75205 (by omega)) (fun c75205 => ?_)
              refine ev_ldc_w ?_
              exact ev_ret rfl (by decide) (by decide) ⟨_, rfl, g, k0, Or.inl ⟨by unfold TV; omega, rfl, fun _ => rfl⟩⟩
            · refine ev_iload_n rfl ?_
              refine ev_iload_n rfl ?_
              refine ev_icmpgt f242_14 (fun c75206 => ?_) (fun c75206 => ?_)
              · refine ev_iconst ?_
                refine ev_ret rfl (by decide) (by decide) ?_
                show jEv _ _ _ _ _ _ _ (_, [(2, 42), (0, a1), (0, a2), (0, a3), (9, 0), (9, 0)], [(0, 0)], _, _, _)
                refine ev_ifne f331_50 (fun c75207 => absurd c75207 (by omega)) (fun c75207 => ?_)
                refine ev_ldc_w ?_
                exact ev_ret rfl (by decide) (by decide) ⟨_, rfl, g, k0, Or.inl ⟨by unfold TV; omega, rfl, fun _ => rfl⟩⟩
              · refine ev_iconst ?_
                refine ev_goto f242_15 ?_
                refine ev_ret rfl (by decide) (by decide) ?_
                show jEv _ _ _ _ _ _ _ (_, [(2, 42), (0, a1), (0, a2), (0, a3), (9, 0), (9, 0)], [(0, 1)], _, _, _)
                refine ev_ifne f331_50 (fun c75208 => ?_) (fun c75208 => absurd c75208 (by omega))
                refine ev_bipush ?_
                refine ev_iload_n rfl ?_
                refine ev_imul (r := (16 * a2)) (by unfold w32; omega) ?_
                refine ev_iconst ?_
                refine ev_iload_n rfl ?_
                refine ev_bipush ?_
                refine g_idivP (c := 10) rfl (by decide) (by omega) (by omega) (fun v75209 ev75209 lv75209 uv75209 => ?_)
                obtain rfl : v75195 = v75209 := by omega
                refine ev_imul (r := (4 * v75195)) (by unfold w32; omega) ?_
                refine ev_iadd (r := (16 * a2 + 4 * v75195)) (by unfold w32; omega) ?_
                refine ev_iload_n rfl ?_
                refine ev_bipush ?_
                refine g_iremP (c := 10) rfl (by decide) (by omega) (fun v75210 ev75210 lv75210 uv75210 wv75210 => ?_)
                obtain rfl : v75197 = v75210 := by omega
                refine ev_iadd (r := (16 * a2 + 4 * v75195 + v75197)) (by unfold w32; omega) ?_
                refine ev_istore (L' := [(2, 42), (0, a1), (0, a2), (0, a3), (0, (16 * a2 + 4 * v75195 + v75197)), (9, 0)]) (Nat.le_of_ble_eq_true rfl) rfl ?_
                refine ev_aload_n rfl ?_
                refine g_getp (r := 42) (c := 67) g ad42 (by decide) (by decide) rf42_46 ft12_46 ?_
                refine ev_iload rfl ?_
                refine g_iald g ad67 rt67 (by omega) (by omega) (fun v75211 ev75211 lv75211 uv75211 => ?_)
                refine ev_istore (L' := [(2, 42), (0, a1), (0, a2), (0, a3), (0, (16 * a2 + 4 * v75195 + v75197)), (0, v75211)]) (Nat.le_of_ble_eq_true rfl) rfl ?_
                refine ev_aload_n rfl ?_
                refine g_getp (r := 42) (c := 67) g ad42 (by decide) (by decide) rf42_46 ft12_46 ?_
                refine ev_iload rfl ?_
                refine ev_iload_n rfl ?_
                refine g_iast g ad67 rt67 (fun _ => rfl) (by omega) (by omega) (by omega) (by omega) (fun h75212 e75212 g75212 => ?_)
                have k75212 := k0.wr e75212 rfl
                refine ev_iload rfl ?_
                exact ev_ret rfl (by decide) (by decide) ⟨_, rfl, g75212, k75212, Or.inr ⟨by unfold TV; omega, at_e ev75211 (by omega), Up.mk e75212 (by omega)⟩⟩
set_option maxHeartbeats 4000000 in
theorem t383_l {G : GH} {h : JH}  : ∀ N : Nat, (∀ (h1 : JH) (x2 : Int), Gd G h1 → Kp [(27, 0)] h h1 → 0 ≤ x2 → x2 ≤ 32 → Z0 h1 27 x2 → ((-x2) + 32) < N → jEv (jOk 0) none (fun _ => 0) c383_0 0 0 (fun v h' => v = none ∧ Gd G h' ∧ Kp [(27, 0)] h h' ∧ Z0 h' 27 32) (c383_5, [(2, 27), (0, 0), (0, x2), (0, 32)], [], h1, 0, 0)) := by
  intro N
  induction N with
  | zero => exact fun h1 x2 g1 k1 b0 b1 b2 hm => absurd hm (by omega)
  | succ N ih =>
    show _
    intro h1 x2 g1 k1 b0 b1 H0 hm
    refine ev_iload_n rfl ?_
    refine ev_iload_n rfl ?_
    refine ev_icmpge f383_20 (fun c75259 => ?_) (fun c75259 => ?_)
    · exact ev_ret rfl (by decide) (by decide) ⟨rfl, g1, k1, H0.le (by omega)⟩
    · refine ev_aload_n rfl ?_
      refine ev_iload_n rfl ?_
      refine ev_iload_n rfl ?_
      refine g_iast g1 ad27 rt27 (fun _ => rfl) (by omega) (by omega) (by omega) (by omega) (fun h75260 e75260 g75260 => ?_)
      have k75260 := k1.wr e75260 rfl
      refine ev_iinc (w := (x2 + 1)) (L' := [(2, 27), (0, 0), (0, (x2 + 1)), (0, 32)]) rfl (by unfold w32; omega) rfl ?_
      refine ev_goto f383_5 ?_
      exact ih _ _ g75260 k75260 (by omega) (by omega) (Z0.step H0 (by omega) e75260) (by omega)
set_option maxHeartbeats 4000000 in
theorem t383 {G : GH} {h : JH} (g : Gd G h)  : jOk 1 0 0 383 [(2, 27), (0, 0)] h (fun v h' => v = none ∧ Gd G h' ∧ Kp [(27, 0)] h h' ∧ Z0 h' 27 32) := by
  refine ⟨by decide, by rw [ml383]; exact Nat.le_of_ble_eq_true rfl, ?_⟩
  rw [ml383, pp383]
  show jEv _ none _ c383_0 0 0 _ (c383_0, [(2, 27), (0, 0), (9, 0), (9, 0)], [], h, 0, 0)
  have k0 := Kp.rf [(27, 0)] h
  refine ev_iconst ?_
  refine ev_istore_n (L' := [(2, 27), (0, 0), (0, 0), (9, 0)]) (Nat.le_of_ble_eq_true rfl) rfl ?_
  refine ev_aload_n rfl ?_
  refine ev_aln (r := 27) (m := 32) (g.lt ad27) (by rw [g.tg ad27]; decide) (by rw [g.tg ad27]; decide) (g.ln ad27) (by decide) ?_
  refine ev_istore_n (L' := [(2, 27), (0, 0), (0, 0), (0, 32)]) (Nat.le_of_ble_eq_true rfl) rfl ?_
  exact (t383_l  66) _ _ g k0 (by omega) (by omega) (Z0.start _ _) (by omega)
set_option maxHeartbeats 4000000 in
theorem t195 {G : GH} {h : JH} (g : Gd G h) {a1 : Int} (la1 : (-2147483648) ≤ a1) (ua1 : a1 ≤ 2147483647) {a2 : Int} (la2 : (-2147483648) ≤ a2) (ua2 : a2 ≤ 2147483647) : jOk 3 0 0 195 [(2, 0), (0, a1), (0, a2)] h (fun v h' => ∃ r : Int, v = some (0, r) ∧ Gd G h' ∧ Kp [(26, 1), (26, 2), (27, 0)] h h' ∧ TaC h h' a1 a2 r) := by
  refine ⟨by decide, by rw [ml195]; exact Nat.le_of_ble_eq_true rfl, ?_⟩
  rw [ml195, pp195]
  show jEv _ none _ c195_0 0 0 _ (c195_0, [(2, 0), (0, a1), (0, a2)], [], h, 0, 0)
  have k0 := Kp.rf [(26, 1), (26, 2), (27, 0)] h
  refine ev_iload_n rfl ?_
  refine ev_iconst ?_
  refine ev_icmplt f195_20 (fun c75277 => ?_) (fun c75277 => ?_)
  · refine ev_iconst ?_
    exact ev_ret rfl (by decide) (by decide) ⟨_, rfl, g, k0, Or.inl ⟨by unfold TB; omega, rfl, rfl, rfl, fun _ => rfl⟩⟩
  · refine ev_iload_n rfl ?_
    refine ev_iconst ?_
    refine ev_icmpgt f195_20 (fun c75278 => ?_) (fun c75278 => ?_)
    · refine ev_iconst ?_
      exact ev_ret rfl (by decide) (by decide) ⟨_, rfl, g, k0, Or.inl ⟨by unfold TB; omega, rfl, rfl, rfl, fun _ => rfl⟩⟩
    · refine ev_iload_n rfl ?_
      refine ev_iconst ?_
      refine ev_icmplt f195_20 (fun c75279 => ?_) (fun c75279 => ?_)
      · refine ev_iconst ?_
        exact ev_ret rfl (by decide) (by decide) ⟨_, rfl, g, k0, Or.inl ⟨by unfold TB; omega, rfl, rfl, rfl, fun _ => rfl⟩⟩
      · refine ev_iload_n rfl ?_
        refine ev_iconst ?_
        refine ev_icmple f195_22 (fun c75280 => ?_) (fun c75280 => ?_)
        · refine ev_aload_n rfl ?_
          refine g_getp (r := 0) (c := 26) g ad0 (by decide) (by decide) rf0_11 ft11_11 ?_
          refine ev_iload_n rfl ?_
          refine ev_iload_n rfl ?_
          refine ev_in (d := 1) (a := 0) (b := 0) (cd' := c103_0) (m := 3) (L0 := [(2, 26), (0, a1), (0, a2)]) (jcall_v (A := [(0, a2), (0, a1)]) (S' := []) (r := 26) rfl (g.lt ad26) (g.tg ad26) (Nat.le_of_ble_eq_true rfl)) (by decide) ml103 pp103 (Nat.le_of_ble_eq_true rfl) rfl (by decide) (by decide) ?_
          refine ev_aload_n rfl ?_
          refine ev_iload_n rfl ?_
          refine g_putf (r := 26) g ad26 (by decide) ft9_0 (by decide) (fun e => absurd e nz9_0) rf26_0 (by decide) (by omega) (by omega) (fun h75281 e75281 g75281 => ?_)
          have k75281 := k0.wr e75281 rfl
          refine ev_aload_n rfl ?_
          refine ev_iload_n rfl ?_
          refine g_putf (r := 26) g75281 ad26 (by decide) ft9_1 (by decide) (fun e => absurd e nz9_1) rf26_1 (by decide) (by omega) (by omega) (fun h75282 e75282 g75282 => ?_)
          have k75282 := k75281.wr e75282 rfl
          refine ev_aload_n rfl ?_
          refine g_getp (r := 26) (c := 27) g75282 ad26 (by decide) (by decide) rf26_2 ft9_2 ?_
          refine ev_iconst ?_
          refine ev_call (jcall_s (A := [(0, 0), (2, 27)]) (S' := []) (by decide) rfl (Nat.le_of_ble_eq_true rfl)) (jOk_le (by decide) (t383 g75282 )) (by decide) (by decide) (fun w75283 h75283 q75283 => ?_)
          obtain ⟨rfl, g75283, kk75283, zz75283⟩ := q75283
          have k75283 := k75282.tr kk75283 (by decide)
          show jEv _ _ _ _ _ _ _ (_, [(2, 26), (0, a1), (0, a2)], [], _, _, _)
          refine ev_ret rfl (by decide) (by decide) ?_
          show jEv _ _ _ _ _ _ _ (_, [(2, 0), (0, a1), (0, a2)], [], _, _, _)
          refine ev_iload_n rfl ?_
          refine ev_iload_n rfl ?_
          refine g_imulB (a := 4) (b := 4) (a' := 1) (b' := 1) (by omega) (by omega) (by omega) (by omega) (by decide) (lo := 1) (hi := 16) (by decide) (by decide) (fun v75284 ev75284 lv75284 uv75284 => ?_)
          exact ev_ret rfl (by decide) (by decide) ⟨_, rfl, g75283, k75283, Or.inr ⟨by unfold TB; omega, ev75284.symm, ((((kk75283.v (by decide)).trans ((jw_ne e75282 (Or.inr (by decide))).trans (jw_eq e75281))))).trans (by omega), ((((kk75283.v (by decide)).trans (jw_eq e75282)))).trans (by omega), zz75283⟩⟩
        · refine ev_iconst ?_
          exact ev_ret rfl (by decide) (by decide) ⟨_, rfl, g, k0, Or.inl ⟨by unfold TB; omega, rfl, rfl, rfl, fun _ => rfl⟩⟩
set_option maxHeartbeats 4000000 in
theorem t330_l {G : GH} {h : JH} {a1 : Int} (la1 : (-2147483648) ≤ a1) (ua1 : a1 ≤ 2147483647) {a2 : Int} (la2 : (-2147483648) ≤ a2) (ua2 : a2 ≤ 2147483647) : ∀ N : Nat, (∀ (h1 : JH) (x3 y0 y1 : Int), Gd G h1 → Kp [(42, 45), (42, 46), (67, 0)] h h1 → 1 ≤ a1 → a1 ≤ 4 → 1 ≤ a2 → a2 ≤ 4 → 0 ≤ x3 → x3 ≤ 32 → ((-a1) + y0) ≤ 0 → (a1 + (-y0)) ≤ 0 → ((-a2) + y1) ≤ 0 → (a2 + (-y1)) ≤ 0 → h1.2.2 42 44 = y0 → 1 ≤ y0 → y0 ≤ 4 → h1.2.2 42 45 = y1 → 1 ≤ y1 → y1 ≤ 4 → Z0 h1 67 x3 → ((-x3) + 32) < N → jEv (jOk 1) none (fun _ => 0) c330_0 0 0 (fun v h' => ∃ r : Int, v = some (0, r) ∧ Gd G h' ∧ Kp [(42, 45), (42, 46), (67, 0)] h h' ∧ TaR h h' a1 a2 r) (c330_32, [(2, 42), (0, a1), (0, a2), (0, x3)], [], h1, 0, 0)) := by
  intro N
  induction N with
  | zero => exact fun h1 x3 y0 y1 g1 k1 b0 b1 b2 b3 b4 b5 b6 b7 b8 b9 b10 b11 b12 b13 b14 b15 b16 hm => absurd hm (by omega)
  | succ N ih =>
    show _
    intro h1 x3 y0 y1 g1 k1 b0 b1 b2 b3 b4 b5 b6 b7 b8 b9 ey0 ly0 uy0 ey1 ly1 uy1 H0 hm
    refine ev_iload_n rfl ?_
    refine ev_bipush ?_
    refine ev_icmpge f330_51 (fun c75357 => ?_) (fun c75357 => ?_)
    · refine ev_iload_n rfl ?_
      refine ev_iload_n rfl ?_
      refine g_imulB (a := 4) (b := 4) (a' := 1) (b' := 1) (by omega) (by omega) (by omega) (by omega) (by decide) (lo := 1) (hi := 16) (by decide) (by decide) (fun v75358 ev75358 lv75358 uv75358 => ?_)
      exact ev_ret rfl (by decide) (by decide) ⟨_, rfl, g1, k1, Or.inr ⟨by unfold TB; omega, ev75358.symm, ((ey0)).trans (by omega), ((ey1)).trans (by omega), H0.le (by omega)⟩⟩
    · refine ev_aload_n rfl ?_
      refine g_getp (r := 42) (c := 67) g1 ad42 (by decide) (by decide) rf42_46 ft12_46 ?_
      refine ev_iload_n rfl ?_
      refine ev_iconst ?_
      refine g_iast g1 ad67 rt67 (fun _ => rfl) (by omega) (by omega) (by omega) (by omega) (fun h75359 e75359 g75359 => ?_)
      have k75359 := k1.wr e75359 rfl
      refine ev_iinc (w := (x3 + 1)) (L' := [(2, 42), (0, a1), (0, a2), (0, (x3 + 1))]) rfl (by unfold w32; omega) rfl ?_
      refine ev_goto f330_32 ?_
      exact ih _ _ _ _ g75359 k75359 (by omega) (by omega) (by omega) (by omega) (by omega) (by omega) (by omega) (by omega) (by omega) (by omega) (((jw_ne e75359 (Or.inl (by decide))).trans ey0)) (by omega) (by omega) (((jw_ne e75359 (Or.inl (by decide))).trans ey1)) (by omega) (by omega) (Z0.step H0 (by omega) e75359) (by omega)
set_option maxHeartbeats 4000000 in
theorem t330 {G : GH} {h : JH} (g : Gd G h) {a1 : Int} (la1 : (-2147483648) ≤ a1) (ua1 : a1 ≤ 2147483647) {a2 : Int} (la2 : (-2147483648) ≤ a2) (ua2 : a2 ≤ 2147483647) : jOk 2 0 0 330 [(2, 42), (0, a1), (0, a2)] h (fun v h' => ∃ r : Int, v = some (0, r) ∧ Gd G h' ∧ Kp [(42, 45), (42, 46), (67, 0)] h h' ∧ TaR h h' a1 a2 r) := by
  refine ⟨by decide, by rw [ml330]; exact Nat.le_of_ble_eq_true rfl, ?_⟩
  rw [ml330, pp330]
  show jEv _ none _ c330_0 0 0 _ (c330_0, [(2, 42), (0, a1), (0, a2), (9, 0)], [], h, 0, 0)
  have k0 := Kp.rf [(42, 45), (42, 46), (67, 0)] h
  refine ev_iload_n rfl ?_
  refine ev_iconst ?_
  refine ev_iconst ?_
  refine ev_in (d := 0) (a := 0) (b := 0) (cd' := c242_0) (m := 3) (L0 := [(0, a1), (0, 1), (0, 4)]) (jcall_s (A := [(0, 4), (0, 1), (0, a1)]) (S' := []) (by decide) rfl (Nat.le_of_ble_eq_true rfl)) (by decide) ml242 pp242 (Nat.le_of_ble_eq_true rfl) rfl (by decide) (by decide) ?_
  refine ev_iload_n rfl ?_
  refine ev_iload_n rfl ?_
  refine ev_icmplt f242_14 (fun c75360 => ?_) (fun c75360 => ?_)
  · refine ev_iconst ?_
    refine ev_ret rfl (by decide) (by decide) ?_
    show jEv _ _ _ _ _ _ _ (_, [(2, 42), (0, a1), (0, a2), (9, 0)], [(0, 0)], _, _, _)
    refine ev_ifeq f330_18 (fun c75361 => ?_) (fun c75361 => absurd c75361 (by omega))
    refine ev_iconst ?_
    exact ev_ret rfl (by decide) (by decide) ⟨_, rfl, g, k0, Or.inl ⟨by unfold TB; omega, rfl, rfl, rfl, fun _ => rfl⟩⟩
  · refine ev_iload_n rfl ?_
    refine ev_iload_n rfl ?_
    refine ev_icmpgt f242_14 (fun c75362 => ?_) (fun c75362 => ?_)
    · refine ev_iconst ?_
      refine ev_ret rfl (by decide) (by decide) ?_
      show jEv _ _ _ _ _ _ _ (_, [(2, 42), (0, a1), (0, a2), (9, 0)], [(0, 0)], _, _, _)
      refine ev_ifeq f330_18 (fun c75363 => ?_) (fun c75363 => absurd c75363 (by omega))
      refine ev_iconst ?_
      exact ev_ret rfl (by decide) (by decide) ⟨_, rfl, g, k0, Or.inl ⟨by unfold TB; omega, rfl, rfl, rfl, fun _ => rfl⟩⟩
    · refine ev_iconst ?_
      refine ev_goto f242_15 ?_
      refine ev_ret rfl (by decide) (by decide) ?_
      show jEv _ _ _ _ _ _ _ (_, [(2, 42), (0, a1), (0, a2), (9, 0)], [(0, 1)], _, _, _)
      refine ev_ifeq f330_18 (fun c75364 => absurd c75364 (by omega)) (fun c75364 => ?_)
      refine ev_iload_n rfl ?_
      refine ev_iconst ?_
      refine ev_iconst ?_
      refine ev_in (d := 0) (a := 0) (b := 0) (cd' := c242_0) (m := 3) (L0 := [(0, a2), (0, 1), (0, 4)]) (jcall_s (A := [(0, 4), (0, 1), (0, a2)]) (S' := []) (by decide) rfl (Nat.le_of_ble_eq_true rfl)) (by decide) ml242 pp242 (Nat.le_of_ble_eq_true rfl) rfl (by decide) (by decide) ?_
      refine ev_iload_n rfl ?_
      refine ev_iload_n rfl ?_
      refine ev_icmplt f242_14 (fun c75365 => ?_) (fun c75365 => ?_)
      · refine ev_iconst ?_
        refine ev_ret rfl (by decide) (by decide) ?_
        show jEv _ _ _ _ _ _ _ (_, [(2, 42), (0, a1), (0, a2), (9, 0)], [(0, 0)], _, _, _)
        refine ev_ifne f330_20 (fun c75366 => absurd c75366 (by omega)) (fun c75366 => ?_)
        refine ev_iconst ?_
        exact ev_ret rfl (by decide) (by decide) ⟨_, rfl, g, k0, Or.inl ⟨by unfold TB; omega, rfl, rfl, rfl, fun _ => rfl⟩⟩
      · refine ev_iload_n rfl ?_
        refine ev_iload_n rfl ?_
        refine ev_icmpgt f242_14 (fun c75367 => ?_) (fun c75367 => ?_)
        · refine ev_iconst ?_
          refine ev_ret rfl (by decide) (by decide) ?_
          show jEv _ _ _ _ _ _ _ (_, [(2, 42), (0, a1), (0, a2), (9, 0)], [(0, 0)], _, _, _)
          refine ev_ifne f330_20 (fun c75368 => absurd c75368 (by omega)) (fun c75368 => ?_)
          refine ev_iconst ?_
          exact ev_ret rfl (by decide) (by decide) ⟨_, rfl, g, k0, Or.inl ⟨by unfold TB; omega, rfl, rfl, rfl, fun _ => rfl⟩⟩
        · refine ev_iconst ?_
          refine ev_goto f242_15 ?_
          refine ev_ret rfl (by decide) (by decide) ?_
          show jEv _ _ _ _ _ _ _ (_, [(2, 42), (0, a1), (0, a2), (9, 0)], [(0, 1)], _, _, _)
          refine ev_ifne f330_20 (fun c75369 => ?_) (fun c75369 => absurd c75369 (by omega))
          refine ev_aload_n rfl ?_
          refine ev_iload_n rfl ?_
          refine g_putf (r := 42) g ad42 (by decide) ft12_44 (by decide) (fun e => absurd e nz12_44) rf42_44 (by decide) (by omega) (by omega) (fun h75370 e75370 g75370 => ?_)
          have k75370 := k0.wr e75370 rfl
          refine ev_aload_n rfl ?_
          refine ev_iload_n rfl ?_
          refine g_putf (r := 42) g75370 ad42 (by decide) ft12_45 (by decide) (fun e => absurd e nz12_45) rf42_45 (by decide) (by omega) (by omega) (fun h75371 e75371 g75371 => ?_)
          have k75371 := k75370.wr e75371 rfl
          refine ev_iconst ?_
          refine ev_istore_n (L' := [(2, 42), (0, a1), (0, a2), (0, 0)]) (Nat.le_of_ble_eq_true rfl) rfl ?_
          exact (t330_l la1 ua1 la2 ua2 66) _ _ _ _ g75371 k75371 (by omega) (by omega) (by omega) (by omega) (by omega) (by omega) (by omega) (by omega) (by omega) (by omega) (((jw_ne e75371 (Or.inr (by decide))).trans (jw_eq e75370))) (by omega) (by omega) ((jw_eq e75371)) (by omega) (by omega) (Z0.start _ _) (by omega)
theorem jn11 : jN 11 = 17 := by decide +kernel
theorem jn12 : jN 12 = 66 := by decide +kernel
theorem ml384 : jML jnM = 4 := by decide +kernel
theorem pp384 : jP jnM = c384_0 := rfl
set_option maxRecDepth 100000 in
theorem jlawN : jchkN jnM = true := jchkNF_ok (by decide +kernel)
set_option maxRecDepth 100000 in
theorem f384_18 : jfind c384_0 18 = some c384_18 := rfl
set_option maxRecDepth 100000 in
theorem f384_260 : jfind c384_0 260 = some c384_260 := rfl
set_option maxRecDepth 100000 in
theorem f384_283 : jfind c384_0 283 = some c384_283 := rfl
set_option maxRecDepth 100000 in
theorem f384_316 : jfind c384_0 316 = some c384_316 := rfl
set_option maxRecDepth 100000 in
theorem f384_369 : jfind c384_0 369 = some c384_369 := rfl
set_option maxRecDepth 100000 in
theorem f384_382 : jfind c384_0 382 = some c384_382 := rfl
set_option maxRecDepth 100000 in
theorem f384_405 : jfind c384_0 405 = some c384_405 := rfl
set_option maxRecDepth 100000 in
theorem f384_448 : jfind c384_0 448 = some c384_448 := rfl
set_option maxRecDepth 100000 in
theorem f384_481 : jfind c384_0 481 = some c384_481 := rfl
set_option maxRecDepth 100000 in
theorem f384_494 : jfind c384_0 494 = some c384_494 := rfl
set_option maxRecDepth 100000 in
theorem f384_537 : jfind c384_0 537 = some c384_537 := rfl
set_option maxRecDepth 100000 in
theorem f384_590 : jfind c384_0 590 = some c384_590 := rfl
set_option maxRecDepth 100000 in
theorem f384_603 : jfind c384_0 603 = some c384_603 := rfl
set_option maxRecDepth 100000 in
theorem f384_616 : jfind c384_0 616 = some c384_616 := rfl
set_option maxRecDepth 100000 in
theorem f384_649 : jfind c384_0 649 = some c384_649 := rfl
set_option maxRecDepth 100000 in
theorem f384_682 : jfind c384_0 682 = some c384_682 := rfl
set_option maxRecDepth 100000 in
theorem f384_715 : jfind c384_0 715 = some c384_715 := rfl
set_option maxRecDepth 100000 in
theorem f384_758 : jfind c384_0 758 = some c384_758 := rfl
set_option maxRecDepth 100000 in
theorem f384_801 : jfind c384_0 801 = some c384_801 := rfl
set_option maxRecDepth 100000 in
theorem f384_844 : jfind c384_0 844 = some c384_844 := rfl
set_option maxRecDepth 100000 in
theorem f384_877 : jfind c384_0 877 = some c384_877 := rfl
set_option maxRecDepth 100000 in
theorem f384_930 : jfind c384_0 930 = some c384_930 := rfl
set_option maxRecDepth 100000 in
theorem f384_963 : jfind c384_0 963 = some c384_963 := rfl
set_option maxRecDepth 100000 in
theorem f384_1006 : jfind c384_0 1006 = some c384_1006 := rfl
set_option maxRecDepth 100000 in
theorem f384_1059 : jfind c384_0 1059 = some c384_1059 := rfl
set_option maxRecDepth 100000 in
theorem f384_1082 : jfind c384_0 1082 = some c384_1082 := rfl
set_option maxRecDepth 100000 in
theorem f384_1125 : jfind c384_0 1125 = some c384_1125 := rfl
set_option maxRecDepth 100000 in
theorem f384_1178 : jfind c384_0 1178 = some c384_1178 := rfl
set_option maxRecDepth 100000 in
theorem f384_1201 : jfind c384_0 1201 = some c384_1201 := rfl
set_option maxRecDepth 100000 in
theorem f384_1254 : jfind c384_0 1254 = some c384_1254 := rfl
set_option maxRecDepth 100000 in
theorem f384_1307 : jfind c384_0 1307 = some c384_1307 := rfl
set_option maxRecDepth 100000 in
theorem f384_1340 : jfind c384_0 1340 = some c384_1340 := rfl
set_option maxRecDepth 100000 in
theorem f384_1383 : jfind c384_0 1383 = some c384_1383 := rfl
set_option maxRecDepth 100000 in
theorem f384_1406 : jfind c384_0 1406 = some c384_1406 := rfl
set_option maxRecDepth 100000 in
theorem f384_1429 : jfind c384_0 1429 = some c384_1429 := rfl
set_option maxRecDepth 100000 in
theorem f384_1452 : jfind c384_0 1452 = some c384_1452 := rfl
set_option maxRecDepth 100000 in
theorem f384_1495 : jfind c384_0 1495 = some c384_1495 := rfl
set_option maxRecDepth 100000 in
theorem f384_1518 : jfind c384_0 1518 = some c384_1518 := rfl
set_option maxRecDepth 100000 in
theorem f384_1551 : jfind c384_0 1551 = some c384_1551 := rfl
set_option maxRecDepth 100000 in
theorem f384_1564 : jfind c384_0 1564 = some c384_1564 := rfl
set_option maxRecDepth 100000 in
theorem f384_1597 : jfind c384_0 1597 = some c384_1597 := rfl
set_option maxRecDepth 100000 in
theorem f384_1630 : jfind c384_0 1630 = some c384_1630 := rfl
set_option maxRecDepth 100000 in
theorem f384_1683 : jfind c384_0 1683 = some c384_1683 := rfl
set_option maxRecDepth 100000 in
theorem f384_1726 : jfind c384_0 1726 = some c384_1726 := rfl
set_option maxRecDepth 100000 in
theorem f384_1769 : jfind c384_0 1769 = some c384_1769 := rfl
set_option maxRecDepth 100000 in
theorem f384_1812 : jfind c384_0 1812 = some c384_1812 := rfl
set_option maxRecDepth 100000 in
theorem f384_1855 : jfind c384_0 1855 = some c384_1855 := rfl
set_option maxRecDepth 100000 in
theorem f384_1878 : jfind c384_0 1878 = some c384_1878 := rfl
set_option maxRecDepth 100000 in
theorem f384_1911 : jfind c384_0 1911 = some c384_1911 := rfl
set_option maxRecDepth 100000 in
theorem f384_1954 : jfind c384_0 1954 = some c384_1954 := rfl
set_option maxRecDepth 100000 in
theorem f384_2027 : jfind c384_0 2027 = some c384_2027 := rfl
set_option maxRecDepth 100000 in
theorem f384_2060 : jfind c384_0 2060 = some c384_2060 := rfl
set_option maxRecDepth 100000 in
theorem f384_2123 : jfind c384_0 2123 = some c384_2123 := rfl
set_option maxRecDepth 100000 in
theorem f384_2156 : jfind c384_0 2156 = some c384_2156 := rfl
set_option maxRecDepth 100000 in
theorem f384_2179 : jfind c384_0 2179 = some c384_2179 := rfl
set_option maxRecDepth 100000 in
theorem f384_2185 : jfind c384_0 2185 = some c384_2185 := rfl

