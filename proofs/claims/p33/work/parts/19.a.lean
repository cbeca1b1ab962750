def TV (a s v R C : Int) : Prop := 0 ≤ a ∧ a / 10 < R ∧ a % 10 < C ∧ 0 ≤ s ∧ s ≤ 1 ∧ -99 ≤ v ∧ v ≤ 99
def TB (r c : Int) : Prop := 1 ≤ r ∧ r ≤ 4 ∧ 1 ≤ c ∧ c ≤ 4
def Up (h h' : JH) (a : Nat) (i v : Int) : Prop := h'.2.2 a i.toNat = v ∧ ∀ j : Nat, j ≠ i.toNat → h'.2.2 a j = h.2.2 a j
theorem Up.mk {h h' : JH} {a : Nat} {i i' v : Int} (e : h' = jwr h a i.toNat v) (hi : i' = i) : Up h h' a i' v := by
  subst hi
  exact ⟨jw_eq e, fun j hj => jw_ne e (Or.inr hj)⟩
def Sm (h h' : JH) (a : Nat) : Prop := ∀ j : Nat, h'.2.2 a j = h.2.2 a j
def Z0 (h : JH) (a : Nat) (x : Int) : Prop := ∀ j : Nat, (j : Int) < x → h.2.2 a j = 0
theorem Z0.start (h : JH) (a : Nat) : Z0 h a 0 := fun j hj => by omega
theorem Z0.step {h h' : JH} {a : Nat} {x : Int} (z : Z0 h a x) (x0 : 0 ≤ x) (e : h' = jwr h a x.toNat 0) : Z0 h' a (x + 1) := fun j hj => by
  rcases Decidable.em (j = x.toNat) with r | r
  · rw [r]; exact jw_eq e
  · rw [jw_ne e (Or.inr r)]; exact z j (by omega)
theorem Z0.le {h : JH} {a : Nat} {x y : Int} (z : Z0 h a x) (hy : y ≤ x) : Z0 h a y := fun j hj => z j (by omega)
theorem at_e {h : JH} {a : Nat} {i i' v : Int} (e : h.2.2 a i.toNat = v) (hi : i' = i) : v = h.2.2 a i'.toNat := by rw [hi]; exact e.symm
def Cc : List (Nat × Nat) := [(26, 1), (26, 2), (27, 0), (42, 45), (42, 46), (67, 0)]
def Rl (h : JH) : Prop := h.2.2 26 0 = h.2.2 42 44 ∧ h.2.2 26 1 = h.2.2 42 45 ∧ ∀ r c s : Nat, r < 4 → c < 4 → s < 2 → h.2.2 27 (8 * r + 2 * c + s) = h.2.2 67 (16 * s + 4 * r + c)
theorem Rl.fr {h h' : JH} (x : Rl h) (e : ∀ a i, inW Cc a i = true → h'.2.2 a i = h.2.2 a i) : Rl h' := by
  refine ⟨by rw [e 26 0 rfl, e 42 44 rfl]; exact x.1, by rw [e 26 1 rfl, e 42 45 rfl]; exact x.2.1, fun r c s hr hc hs => ?_⟩
  rw [e 27 _ rfl, e 67 _ rfl]
  exact x.2.2 r c s hr hc hs
def dsj (C W : List (Nat × Nat)) : Bool := C.all (fun c => decide (c.1 < 83) && W.all (fun w => w.1 != c.1 || (w.2 != 0 && c.2 != 0 && w.2 != c.2)))
theorem dsj_at {C W : List (Nat × Nat)} (h : dsj C W = true) {a i : Nat} (hc : inW C a i = true) : a < 83 ∧ inW W a i = false := by
  unfold inW at hc
  obtain ⟨c, hm, hq⟩ := List.any_eq_true.mp hc
  have h1 := List.all_eq_true.mp h c hm
  rw [Bool.and_eq_true, decide_eq_true_eq] at h1
  simp only [Bool.or_eq_true, Bool.and_eq_true, beq_iff_eq, decide_eq_true_eq] at hq
  have ha : a < 83 := by omega
  refine ⟨ha, ?_⟩
  unfold inW
  rw [List.any_eq_false]
  intro w hw hx
  have h2 := List.all_eq_true.mp h1.2 w hw
  simp only [Bool.or_eq_true, Bool.and_eq_true, bne_iff_ne] at h2
  simp only [Bool.or_eq_true, Bool.and_eq_true, beq_iff_eq, decide_eq_true_eq] at hx
  omega
theorem Rl.kp {W : List (Nat × Nat)} {h h' : JH} (x : Rl h) (k : Kp W h h') (hd : dsj Cc W = true) : Rl h' := x.fr (fun a i hc => k.v (dsj_at hd hc).2)
theorem Rl.kx {W : List (Nat × Nat)} {h h' : JH} (x : Rl h) (k : Kx W h h') (hd : dsj Cc W = true) (h83 : 83 ≤ h.1) : Rl h' := x.fr (fun a i hc => k.2.2 a i (Nat.lt_of_lt_of_le (dsj_at hd hc).1 h83) (dsj_at hd hc).2)
def CeC (h h' : JH) (a s v R C r : Int) : Prop := (¬ TV a s v R C ∧ r = -2000000000 ∧ Sm h h' 27) ∨ (TV a s v R C ∧ r = h.2.2 27 (8 * (a / 10) + 2 * (a % 10) + s).toNat ∧ Up h h' 27 (8 * (a / 10) + 2 * (a % 10) + s) v)
def CeR (h h' : JH) (a s v R C r : Int) : Prop := (¬ TV a s v R C ∧ r = -2000000000 ∧ Sm h h' 67) ∨ (TV a s v R C ∧ r = h.2.2 67 (16 * s + 4 * (a / 10) + a % 10).toNat ∧ Up h h' 67 (16 * s + 4 * (a / 10) + a % 10) v)
def TaC (h h' : JH) (a b r : Int) : Prop := (¬ TB a b ∧ r = -1 ∧ h'.2.2 26 0 = h.2.2 26 0 ∧ h'.2.2 26 1 = h.2.2 26 1 ∧ Sm h h' 27) ∨ (TB a b ∧ r = a * b ∧ h'.2.2 26 0 = a ∧ h'.2.2 26 1 = b ∧ Z0 h' 27 32)
def TaR (h h' : JH) (a b r : Int) : Prop := (¬ TB a b ∧ r = -1 ∧ h'.2.2 42 44 = h.2.2 42 44 ∧ h'.2.2 42 45 = h.2.2 42 45 ∧ Sm h h' 67) ∨ (TB a b ∧ r = a * b ∧ h'.2.2 42 44 = a ∧ h'.2.2 42 45 = b ∧ Z0 h' 67 32)
theorem Rl.cell {h h1 h2 : JH} {a s v R C r1 r2 : Int} (x : Rl h) (k1 : Kp [(27, 0)] h h1) (k2 : Kp [(67, 0)] h1 h2) (hR : R ≤ 4) (hC : C ≤ 4) (f1 : CeC h h1 a s v R C r1) (f2 : CeR h1 h2 a s v R C r2) : r1 = r2 ∧ Rl h2 := by
  obtain ⟨x1, x2, x3⟩ := x
  have y1 : h2.2.2 26 0 = h2.2.2 42 44 := by rw [k2.v rfl, k1.v rfl, k2.v (a := 42) rfl, k1.v (a := 42) rfl]; exact x1
  have y2 : h2.2.2 26 1 = h2.2.2 42 45 := by rw [k2.v rfl, k1.v rfl, k2.v (a := 42) rfl, k1.v (a := 42) rfl]; exact x2
  have e67 : ∀ j, h1.2.2 67 j = h.2.2 67 j := fun j => k1.v rfl
  have e27 : ∀ j, h2.2.2 27 j = h1.2.2 27 j := fun j => k2.v rfl
  rcases f1 with ⟨n1, q1, m1⟩ | ⟨t1, q1, m1⟩
  · rcases f2 with ⟨n2, q2, m2⟩ | ⟨t2, _⟩
    · exact ⟨q1.trans q2.symm, y1, y2, fun r c s hr hc hs => by rw [e27, m1, m2, e67]; exact x3 r c s hr hc hs⟩
    · exact absurd t2 n1
  · rcases f2 with ⟨n2, _⟩ | ⟨t2, q2, m2⟩
    · exact absurd t1 n2
    · unfold TV at t1
      have e0 := x3 (a / 10).toNat (a % 10).toNat s.toNat (by omega) (by omega) (by omega)
      have i1 : (8 * (a / 10) + 2 * (a % 10) + s).toNat = 8 * (a / 10).toNat + 2 * (a % 10).toNat + s.toNat := by omega
      have i2 : (16 * s + 4 * (a / 10) + a % 10).toNat = 16 * s.toNat + 4 * (a / 10).toNat + (a % 10).toNat := by omega
      refine ⟨by rw [q1, q2, e67, i1, i2]; exact e0, y1, y2, fun r c u hr hc hu => ?_⟩
      rw [e27]
      rcases Decidable.em (r = (a / 10).toNat ∧ c = (a % 10).toNat ∧ u = s.toNat) with ⟨z1, z2, z3⟩ | z
      · rw [z1, z2, z3, ← i1, ← i2, m1.1, m2.1]
      · rw [m1.2 _ (by omega), m2.2 _ (by omega), e67]
        exact x3 r c u hr hc hu
theorem Rl.table {h h1 h2 : JH} {a b r1 r2 : Int} (x : Rl h) (k1 : Kp [(26, 1), (26, 2), (27, 0)] h h1) (k2 : Kp [(42, 45), (42, 46), (67, 0)] h1 h2) (f1 : TaC h h1 a b r1) (f2 : TaR h1 h2 a b r2) : r1 = r2 ∧ Rl h2 := by
  obtain ⟨x1, x2, x3⟩ := x
  have e67 : ∀ j, h1.2.2 67 j = h.2.2 67 j := fun j => k1.v rfl
  have e27 : ∀ j, h2.2.2 27 j = h1.2.2 27 j := fun j => k2.v rfl
  have a0 : h2.2.2 26 0 = h1.2.2 26 0 := k2.v rfl
  have a1 : h2.2.2 26 1 = h1.2.2 26 1 := k2.v rfl
  have b0 : h1.2.2 42 44 = h.2.2 42 44 := k1.v rfl
  have b1 : h1.2.2 42 45 = h.2.2 42 45 := k1.v rfl
  rcases f1 with ⟨n1, q1, u1, u2, m1⟩ | ⟨t1, q1, u1, u2, m1⟩
  · rcases f2 with ⟨n2, q2, w1, w2, m2⟩ | ⟨t2, _⟩
    · exact ⟨q1.trans q2.symm, by rw [a0, u1, w1, b0]; exact x1, by rw [a1, u2, w2, b1]; exact x2, fun r c s hr hc hs => by rw [e27, m1, m2, e67]; exact x3 r c s hr hc hs⟩
    · exact absurd t2 n1
  · rcases f2 with ⟨n2, _⟩ | ⟨t2, q2, w1, w2, m2⟩
    · exact absurd t1 n2
    · exact ⟨q1.trans q2.symm, by rw [a0, u1, w1], by rw [a1, u2, w2], fun r c s hr hc hs => by rw [e27, m1 _ (by omega), m2 _ (by omega)]⟩
set_option maxHeartbeats 4000000 in
theorem t196 {G : GH} {h : JH} (g : Gd G h) {a1 : Int} (la1 : (-2147483648) ≤ a1) (ua1 : a1 ≤ 2147483647) {a2 : Int} (la2 : (-2147483648) ≤ a2) (ua2 : a2 ≤ 2147483647) {a3 : Int} (la3 : (-2147483648) ≤ a3) (ua3 : a3 ≤ 2147483647) {w0 : Int} (ew0 : h.2.2 26 0 = w0) (lw0 : 0 ≤ w0) (uw0 : w0 ≤ 4) {w1 : Int} (ew1 : h.2.2 26 1 = w1) (lw1 : 0 ≤ w1) (uw1 : w1 ≤ 4) : jOk 3 0 0 196 [(2, 0), (0, a1), (0, a2), (0, a3)] h (fun v h' => ∃ r : Int, v = some (0, r) ∧ Gd G h' ∧ Kp [(27, 0)] h h' ∧ CeC h h' a1 a2 a3 w0 w1 r) := by
  refine ⟨by decide, by rw [ml196]; exact Nat.le_of_ble_eq_true rfl, ?_⟩
  rw [ml196, pp196]
  show jEv _ none _ c196_0 0 0 _ (c196_0, [(2, 0), (0, a1), (0, a2), (0, a3)], [], h, 0, 0)
  have k0 := Kp.rf [(27, 0)] h
  refine ev_iload_n rfl ?_
  refine ev_iflt f196_43 (fun c75138 => ?_) (fun c75138 => ?_)
  · refine ev_ldc ?_
    exact ev_ret rfl (by decide) (by decide) ⟨_, rfl, g, k0, Or.inl ⟨by unfold TV; omega, rfl, fun _ => rfl⟩⟩
  · refine ev_aload_n rfl ?_
    refine g_getp (r := 0) (c := 26) g ad0 (by decide) (by decide) rf0_11 ft11_11 ?_
    refine ev_iload_n rfl ?_
    refine ev_bipush ?_
    refine g_idivP (c := 10) rfl (by decide) (by omega) (by omega) (fun v75139 ev75139 lv75139 uv75139 => ?_)
    refine ev_iload_n rfl ?_
    refine ev_bipush ?_
    refine g_iremP (c := 10) rfl (by decide) (by omega) (fun v75140 ev75140 lv75140 uv75140 wv75140 => ?_)
    refine ev_in (d := 1) (a := 0) (b := 0) (cd' := c105_0) (m := 3) (L0 := [(2, 26), (0, v75139), (0, v75140)]) (jcall_v (A := [(0, v75140), (0, v75139)]) (S' := []) (r := 26) rfl (g.lt ad26) (g.tg ad26) (Nat.le_of_ble_eq_true rfl)) (by decide) ml105 pp105 (Nat.le_of_ble_eq_true rfl) rfl (by decide) (by decide) ?_
    refine ev_iload_n rfl ?_
    refine ev_iflt f105_28 (fun c75141 => absurd c75141 (by omega)) (fun c75141 => ?_)
    refine ev_iload_n rfl ?_
    refine ev_aload_n rfl ?_
    refine g_getv (r := 26) (v := w0) g ad26 (by decide) ft9_0 (ew0) ?_
    refine ev_icmpge f105_28 (fun c75142 => ?_) (fun c75142 => ?_)
    · refine ev_iconst ?_
      refine ev_ret rfl (by decide) (by decide) ?_
      show jEv _ _ _ _ _ _ _ (_, [(2, 0), (0, a1), (0, a2), (0, a3)], [(0, 0)], _, _, _)
      refine ev_ifeq f196_43 (fun c75143 => ?_) (fun c75143 => absurd c75143 (by omega))
      refine ev_ldc ?_
      exact ev_ret rfl (by decide) (by decide) ⟨_, rfl, g, k0, Or.inl ⟨by unfold TV; omega, rfl, fun _ => rfl⟩⟩
    · refine ev_iload_n rfl ?_
      refine ev_iflt f105_28 (fun c75144 => absurd c75144 (by omega)) (fun c75144 => ?_)
      refine ev_iload_n rfl ?_
      refine ev_aload_n rfl ?_
      refine g_getv (r := 26) (v := w1) g ad26 (by decide) ft9_1 (ew1) ?_
      refine ev_icmpge f105_28 (fun c75145 => ?_) (fun c75145 => ?_)
      · refine ev_iconst ?_
        refine ev_ret rfl (by decide) (by decide) ?_
        show jEv _ _ _ _ _ _ _ (_, [(2, 0), (0, a1), (0, a2), (0, a3)], [(0, 0)], _, _, _)
        refine ev_ifeq f196_43 (fun c75146 => ?_) (fun c75146 => absurd c75146 (by omega))
        refine ev_ldc ?_
        exact ev_ret rfl (by decide) (by decide) ⟨_, rfl, g, k0, Or.inl ⟨by unfold TV; omega, rfl, fun _ => rfl⟩⟩
      · refine ev_iconst ?_
        refine ev_goto f105_29 ?_
        refine ev_ret rfl (by decide) (by decide) ?_
        show jEv _ _ _ _ _ _ _ (_, [(2, 0), (0, a1), (0, a2), (0, a3)], [(0, 1)], _, _, _)
        refine ev_ifeq f196_43 (fun c75147 => absurd c75147 (by omega)) (fun c75147 => ?_)
        refine ev_iload_n rfl ?_
        refine ev_iflt f196_43 (fun c75148 => ?_) (fun c75148 => ?_)
        · refine ev_ldc ?_
          exact ev_ret rfl (by decide) (by decide) ⟨_, rfl, g, k0, Or.inl ⟨by unfold TV; omega, rfl, fun _ => rfl⟩⟩
        · refine ev_iload_n rfl ?_
          refine ev_iconst ?_
          refine ev_icmpgt f196_43 (fun c75149 => ?_) (fun c75149 => ?_)
          · refine ev_ldc ?_
            exact ev_ret rfl (by decide) (by decide) ⟨_, rfl, g, k0, Or.inl ⟨by unfold TV; omega, rfl, fun _ => rfl⟩⟩
          · refine ev_iload_n rfl ?_
            refine ev_bipush ?_
            refine ev_icmplt f196_43 (fun c75150 => ?_) (fun c75150 => ?_)
            · refine ev_ldc ?_
              exact ev_ret rfl (by decide) (by decide) ⟨_, rfl, g, k0, Or.inl ⟨by unfold TV; omega, rfl, fun _ => rfl⟩⟩
            · refine ev_iload_n rfl ?_
              refine ev_bipush ?_
              refine ev_icmple f196_46 (fun c75151 => ?_) (fun c75151 => ?_)
              · refine ev_aload_n rfl ?_
                refine g_getp (r := 0) (c := 26) g ad0 (by decide) (by decide) rf0_11 ft11_11 ?_
                refine ev_iload_n rfl ?_
                refine ev_bipush ?_
                refine g_idivP (c := 10) rfl (by decide) (by omega) (by omega) (fun v75152 ev75152 lv75152 uv75152 => ?_)
                obtain rfl : v75139 = v75152 := by omega
                refine ev_iload_n rfl ?_
                refine ev_bipush ?_
                refine g_iremP (c := 10) rfl (by decide) (by omega) (fun v75153 ev75153 lv75153 uv75153 wv75153 => ?_)
                obtain rfl : v75140 = v75153 := by omega
                refine ev_iload_n rfl ?_
                refine ev_iload_n rfl ?_
                refine ev_in (d := 1) (a := 0) (b := 0) (cd' := c107_0) (m := 6) (L0 := [(2, 26), (0, v75139), (0, v75140), (0, a2), (0, a3), (9, 0)]) (jcall_v (A := [(0, a3), (0, a2), (0, v75140), (0, v75139)]) (S' := []) (r := 26) rfl (g.lt ad26) (g.tg ad26) (Nat.le_of_ble_eq_true rfl)) (by decide) ml107 pp107 (Nat.le_of_ble_eq_true rfl) rfl (by decide) (by decide) ?_
                refine ev_aload_n rfl ?_
                refine ev_iload_n rfl ?_
                refine ev_iload_n rfl ?_
                refine ev_iload_n rfl ?_
                refine ev_in (d := 0) (a := 0) (b := 0) (cd' := c106_0) (m := 4) (L0 := [(2, 26), (0, v75139), (0, v75140), (0, a2)]) (jcall_v (A := [(0, a2), (0, v75140), (0, v75139)]) (S' := []) (r := 26) rfl (g.lt ad26) (g.tg ad26) (Nat.le_of_ble_eq_true rfl)) (by decide) ml106 pp106 (Nat.le_of_ble_eq_true rfl) rfl (by decide) (by decide) ?_
                refine ev_aload_n rfl ?_
                refine g_getp (r := 26) (c := 27) g ad26 (by decide) (by decide) rf26_2 ft9_2 ?_
                refine ev_bipush ?_
                refine ev_iload_n rfl ?_
                refine ev_imul (r := (8 * v75139)) (by unfold w32; omega) ?_
                refine ev_iconst ?_
                refine ev_iload_n rfl ?_
                refine ev_imul (r := (2 * v75140)) (by unfold w32; omega) ?_
                refine ev_iadd (r := (8 * v75139 + 2 * v75140)) (by unfold w32; omega) ?_
                refine ev_iload_n rfl ?_
                refine ev_iadd (r := (a2 + 8 * v75139 + 2 * v75140)) (by unfold w32; omega) ?_
                refine g_iald g ad27 rt27 (by omega) (by omega) (fun v75154 ev75154 lv75154 uv75154 => ?_)
                refine ev_ret rfl (by decide) (by decide) ?_
                show jEv _ _ _ _ _ _ _ (_, [(2, 26), (0, v75139), (0, v75140), (0, a2), (0, a3), (9, 0)], [(0, v75154)], _, _, _)
                refine ev_istore (L' := [(2, 26), (0, v75139), (0, v75140), (0, a2), (0, a3), (0, v75154)]) (Nat.le_of_ble_eq_true rfl) rfl ?_
                refine ev_aload_n rfl ?_
                refine g_getp (r := 26) (c := 27) g ad26 (by decide) (by decide) rf26_2 ft9_2 ?_
                refine ev_bipush ?_
                refine ev_iload_n rfl ?_
                refine ev_imul (r := (8 * v75139)) (by unfold w32; omega) ?_
                refine ev_iconst ?_
                refine ev_iload_n rfl ?_
                refine ev_imul (r := (2 * v75140)) (by unfold w32; omega) ?_
                refine ev_iadd (r := (8 * v75139 + 2 * v75140)) (by unfold w32; omega) ?_
                refine ev_iload_n rfl ?_
                refine ev_iadd (r := (a2 + 8 * v75139 + 2 * v75140)) (by unfold w32; omega) ?_
                refine ev_iload rfl ?_
                refine g_iast g ad27 rt27 (fun _ => rfl) (by omega) (by omega) (by omega) (by omega) (fun h75155 e75155 g75155 => ?_)
                have k75155 := k0.wr e75155 rfl
                refine ev_iload rfl ?_
                refine ev_ret rfl (by decide) (by decide) ?_
                show jEv _ _ _ _ _ _ _ (_, [(2, 0), (0, a1), (0, a2), (0, a3)], [(0, v75154)], _, _, _)
                exact ev_ret rfl (by decide) (by decide) ⟨_, rfl, g75155, k75155, Or.inr ⟨by unfold TV; omega, at_e ev75154 (by omega), Up.mk e75155 (by omega)⟩⟩
              · refine ev_ldc ?_
                exact ev_ret rfl (by decide) (by decide) ⟨_, rfl, g, k0, Or.inl ⟨by unfold TV; omega, rfl, fun _ => rfl⟩⟩
set_option maxHeartbeats 4000000 in
theorem t331 {G : GH} {h : JH} (g : Gd G h) {a1 : Int} (la1 : (-2147483648) ≤ a1) (ua1 : a1 ≤ 2147483647) {a2 : Int} (la2 : (-2147483648) ≤ a2) (ua2 : a2 ≤ 2147483647) {a3 : Int} (la3 : (-2147483648) ≤ a3) (ua3 : a3 ≤ 2147483647) {w0 : Int} (ew0 : h.2.2 42 44 = w0) (lw0 : 0 ≤ w0) (uw0 : w0 ≤ 4) {w1 : Int} (ew1 : h.2.2 42 45 = w1) (lw1 : 0 ≤ w1) (uw1 : w1 ≤ 4) : jOk 2 0 0 331 [(2, 42), (0, a1), (0, a2), (0, a3)] h (fun v h' => ∃ r : Int, v = some (0, r) ∧ Gd G h' ∧ Kp [(67, 0)] h h' ∧ CeR h h' a1 a2 a3 w0 w1 r) := by
  refine ⟨by decide, by rw [ml331]; exact Nat.le_of_ble_eq_true rfl, ?_⟩
  rw [ml331, pp331]
  show jEv _ none _ c331_0 0 0 _ (c331_0, [(2, 42), (0, a1), (0, a2), (0, a3), (9, 0), (9, 0)], [], h, 0, 0)
  have k0 := Kp.rf [(67, 0)] h
  refine ev_iload_n rfl ?_
  refine ev_iflt f331_46 (fun c75194 => ?_) (fun c75194 => ?_)
  · refine ev_ldc_w ?_
    exact ev_ret rfl (by decide) (by decide) ⟨_, rfl, g, k0, Or.inl ⟨by unfold TV; omega, rfl, fun _ => rfl⟩⟩
  · refine ev_iload_n rfl ?_
    refine ev_bipush ?_
    refine g_idivP (c := 10) rfl (by decide) (by omega) (by omega) (fun v75195 ev75195 lv75195 uv75195 => ?_)
    refine ev_aload_n rfl ?_
    refine g_getv (r := 42) (v := w0) g ad42 (by decide) ft12_44 (ew0) ?_
    refine ev_icmpge f331_46 (fun c75196 => ?_) (fun c75196 => ?_)
    · refine ev_ldc_w ?_
      exact ev_ret rfl (by decide) (by decide) ⟨_, rfl, g, k0, Or.inl ⟨by unfold TV; omega, rfl, fun _ => rfl⟩⟩
    · refine ev_iload_n rfl ?_
      refine ev_bipush ?_
      refine g_iremP (c := 10) rfl (by decide) (by omega) (fun v75197 ev75197 lv75197 uv75197 wv75197 => ?_)
      refine ev_aload_n rfl ?_
      refine g_getv (r := 42) (v := w1) g ad42 (by decide) ft12_45 (ew1) ?_
      refine ev_icmpge f331_46 (fun c75198 => ?_) (fun c75198 => ?_)
      · refine ev_ldc_w ?_
        exact ev_ret rfl (by decide) (by decide) ⟨_, rfl, g, k0, Or.inl ⟨by unfold TV; omega, rfl, fun _ => rfl⟩⟩
      · refine ev_iload_n rfl ?_
        refine ev_iconst ?_
        refine ev_iconst ?_
        refine ev_in (d := 0) (a := 0) (b := 0) (cd' := c242_0) (m := 3) (L0 := [(0, a2), (0, 0), (0, 1)]) (jcall_s (A := [(0, 1), (0, 0), (0, a2)]) (S' := []) (by decide) rfl (Nat.le_of_ble_eq_true rfl)) (by decide) ml242 pp242 (Nat.le_of_ble_eq_true rfl) rfl (by decide) (by decide) ?_
        refine ev_iload_n rfl ?_
        refine ev_iload_n rfl ?_
        refine ev_icmplt f242_14 (fun c75199 => ?_) (fun c75199 => ?_)
        · refine ev_iconst ?_
          refine ev_ret rfl (by decide) (by decide) ?_
          show jEv _ _ _ _ _ _ _ (_, [(2, 42), (0, a1), (0, a2), (0, a3), (9, 0), (9, 0)], [(0, 0)], _, _, _)
          refine ev_ifeq f331_46 (fun c75200 => ?_) (fun c75200 => absurd c75200 (by omega))
          refine ev_ldc_w ?_
          exact ev_ret rfl (by decide) (by decide) ⟨_, rfl, g, k0, Or.inl ⟨by unfold TV; omega, rfl, fun _ => rfl⟩⟩
        · refine ev_iload_n rfl ?_
          refine ev_iload_n rfl ?_
          refine ev_icmpgt f242_14 (fun c75201 => ?_) (fun c75201 => ?_)
          · refine ev_iconst ?_
            refine ev_ret rfl (by decide) (by decide) ?_
            show jEv _ _ _ _ _ _ _ (_, [(2, 42), (0, a1), (0, a2), (0, a3), (9, 0), (9, 0)], [(0, 0)], _, _, _)
            refine ev_ifeq f331_46 (fun c75202 => ?_) (fun c75202 => absurd c75202 (by omega))
            refine ev_ldc_w ?_
            exact ev_ret rfl (by decide) (by decide) ⟨_, rfl, g, k0, Or.inl ⟨by unfold TV; omega, rfl, fun _ => rfl⟩⟩
          · refine ev_iconst ?_
            refine ev_goto f242_15 ?_
            refine ev_ret rfl (by decide) (by decide) ?_
            show jEv _ _ _ _ _ _ _ (_, [(2, 42), (0, a1), (0, a2), (0, a3), (9, 0), (9, 0)], [(0, 1)], _, _, _)
            refine ev_ifeq f331_46 (fun c75203 => absurd c75203 (by omega)) (fun c75203 => ?_)
            refine ev_iload_n rfl ?_
            refine ev_bipush ?_
            refine ev_bipush ?_
            refine ev_in (d := 0) (a := 0) (b := 0) (cd' := c242_0) (m := 3) (L0 := [(0, a3), (0, (-99)), (0, 99)]) (jcall_s (A := [(0, 99), (0, (-99)), (0, a3)]) (S' := []) (by decide) rfl (Nat.le_of_ble_eq_true rfl)) (by decide) ml242 pp242 (Nat.le_of_ble_eq_true rfl) rfl (by decide) (by decide) ?_
            refine ev_iload_n rfl ?_
            refine ev_iload_n rfl ?_
            refine ev_icmplt f242_14 (fun c75204 => ?_) (fun c75204 => ?_)
            · refine ev_iconst ?_
              refine ev_ret rfl (by decide) (by decide) ?_
              show jEv _ _ _ _ _ _ _ (_, [(2, 42), (0, a1), (0, a2), (0, a3), (9, 0), (9, 0)], [(0, 0)], _, _, _)
              refine ev_ifne f331_50 (fun c75205 => absurd c75205 (by omega)) (fun c75205 => ?_)
              refine ev_ldc_w ?_
              exact ev_ret rfl (by decide) (by decide) ⟨_, rfl, g, k0, Or.inl ⟨by unfold TV; omega, rfl, fun _ => rfl⟩⟩
            · refine ev_iload_n rfl ?_
              refine ev_iload_n rfl ?_
              refine ev_icmpgt f242_14 (fun c75206 => ?_) (fun c75206 => ?_)
              · refine ev_iconst ?_
                refine ev_ret rfl (by decide) (by decide) ?_
                show jEv _ _ _ _ _ _ _ (_, [(2, 42), (0, a1), (0, a2), (0, a3), (9, 0), (9, 0)], [(0, 0)], _, _, _)
                refine ev_ifne f331_50 (fun c75207 => absurd c75207 (by omega)) (fun c75207 => ?_)
                refine ev_ldc_w ?_
                exact ev_ret rfl (by decide) (by decide) ⟨_, rfl, g, k0, Or.inl ⟨by unfold TV; omega, rfl, fun _ => rfl⟩⟩
              · refine ev_iconst ?_
                refine ev_goto f242_15 ?_
                refine ev_ret rfl (by decide) (by decide) ?_
                show jEv _ _ _ _ _ _ _ (_, [(2, 42), (0, a1), (0, a2), (0, a3), (9, 0), (9, 0)], [(0, 1)], _, _, _)
                refine ev_ifne f331_50 (fun c75208 => ?_) (fun c75208 => absurd c75208 (by omega))
                refine ev_bipush ?_
                refine ev_iload_n rfl ?_
                refine ev_imul (r := (16 * a2)) (by unfold w32; omega) ?_
                refine ev_iconst ?_
                refine ev_iload_n rfl ?_
                refine ev_bipush ?_
                refine g_idivP (c := 10) rfl (by decide) (by omega) (by omega) (fun v75209 ev75209 lv75209 uv75209 => ?_)
                obtain rfl : v75195 = v75209 := by omega
                refine ev_imul (r := (4 * v75195)) (by unfold w32; omega) ?_
                refine ev_iadd (r := (16 * a2 + 4 * v75195)) (by unfold w32; omega) ?_
                refine ev_iload_n rfl ?_
                refine ev_bipush ?_
                refine g_iremP (c := 10) rfl (by decide) (by omega) (fun v75210 ev75210 lv75210 uv75210 wv75210 => ?_)
                obtain rfl : v75197 = v75210 := by omega
                refine ev_iadd (r := (16 * a2 + 4 * v75195 + v75197)) (by unfold w32; omega) ?_
                refine ev_istore (L' := [(2, 42), (0, a1), (0, a2), (0, a3), (0, (16 * a2 + 4 * v75195 + v75197)), (9, 0)]) (Nat.le_of_ble_eq_true rfl) rfl ?_
                refine ev_aload_n rfl ?_
                refine g_getp (r := 42) (c := 67) g ad42 (by decide) (by decide) rf42_46 ft12_46 ?_
                refine ev_iload rfl ?_
                refine g_iald g ad67 rt67 (by omega) (by omega) (fun v75211 ev75211 lv75211 uv75211 => ?_)
                refine ev_istore (L' := [(2, 42), (0, a1), (0, a2), (0, a3), (0, (16 * a2 + 4 * v75195 + v75197)), (0, v75211)]) (Nat.le_of_ble_eq_true rfl) rfl ?_
                refine ev_aload_n rfl ?_
                refine g_getp (r := 42) (c := 67) g ad42 (by decide) (by decide) rf42_46 ft12_46 ?_
                refine ev_iload rfl ?_
                refine ev_iload_n rfl ?_
                refine g_iast g ad67 rt67 (fun _ => rfl) (by omega) (by omega) (by omega) (by omega) (fun h75212 e75212 g75212 => ?_)
                have k75212 := k0.wr e75212 rfl
                refine ev_iload rfl ?_
                exact ev_ret rfl (by decide) (by decide) ⟨_, rfl, g75212, k75212, Or.inr ⟨by unfold TV; omega, at_e ev75211 (by omega), Up.mk e75212 (by omega)⟩⟩
set_option maxHeartbeats 4000000 in
theorem t383_l {G : GH} {h : JH}  : ∀ N : Nat, (∀ (h1 : JH) (x2 : Int), Gd G h1 → Kp [(27, 0)] h h1 → 0 ≤ x2 → x2 ≤ 32 → Z0 h1 27 x2 → ((-x2) + 32) < N → jEv (jOk 0) none (fun _ => 0) c383_0 0 0 (fun v h' => v = none ∧ Gd G h' ∧ Kp [(27, 0)] h h' ∧ Z0 h' 27 32) (c383_5, [(2, 27), (0, 0), (0, x2), (0, 32)], [], h1, 0, 0)) := by
  intro N
  induction N with
  | zero => exact fun h1 x2 g1 k1 b0 b1 b2 hm => absurd hm (by omega)
  | succ N ih =>
    show _
    intro h1 x2 g1 k1 b0 b1 H0 hm
    refine ev_iload_n rfl ?_
    refine ev_iload_n rfl ?_
    refine ev_icmpge f383_20 (fun c75259 => ?_) (fun c75259 => ?_)
    · exact ev_ret rfl (by decide) (by decide) ⟨rfl, g1, k1, H0.le (by omega)⟩
    · refine ev_aload_n rfl ?_
      refine ev_iload_n rfl ?_
      refine ev_iload_n rfl ?_
      refine g_iast g1 ad27 rt27 (fun _ => rfl) (by omega) (by omega) (by omega) (by omega) (fun h75260 e75260 g75260 => ?_)
      have k75260 := k1.wr e75260 rfl
      refine ev_iinc (w := (x2 + 1)) (L' := [(2, 27), (0, 0), (0, (x2 + 1)), (0, 32)]) rfl (by unfold w32; omega) rfl ?_
      refine ev_goto f383_5 ?_
      exact ih _ _ g75260 k75260 (by omega) (by omega) (Z0.step H0 (by omega) e75260) (by omega)
set_option maxHeartbeats 4000000 in
theorem t383 {G : GH} {h : JH} (g : Gd G h)  : jOk 1 0 0 383 [(2, 27), (0, 0)] h (fun v h' => v = none ∧ Gd G h' ∧ Kp [(27, 0)] h h' ∧ Z0 h' 27 32) := by
  refine ⟨by decide, by rw [ml383]; exact Nat.le_of_ble_eq_true rfl, ?_⟩
  rw [ml383, pp383]
  show jEv _ none _ c383_0 0 0 _ (c383_0, [(2, 27), (0, 0), (9, 0), (9, 0)], [], h, 0, 0)
  have k0 := Kp.rf [(27, 0)] h
  refine ev_iconst ?_
  refine ev_istore_n (L' := [(2, 27), (0, 0), (0, 0), (9, 0)]) (Nat.le_of_ble_eq_true rfl) rfl ?_
  refine ev_aload_n rfl ?_
  refine ev_aln (r := 27) (m := 32) (g.lt ad27) (by rw [g.tg ad27]; decide) (by rw [g.tg ad27]; decide) (g.ln ad27) (by decide) ?_
  refine ev_istore_n (L' := [(2, 27), (0, 0), (0, 0), (0, 32)]) (Nat.le_of_ble_eq_true rfl) rfl ?_
  exact (t383_l  66) _ _ g k0 (by omega) (by omega) (Z0.start _ _) (by omega)
set_option maxHeartbeats 4000000 in
theorem t195 {G : GH} {h : JH} (g : Gd G h) {a1 : Int} (la1 : (-2147483648) ≤ a1) (ua1 : a1 ≤ 2147483647) {a2 : Int} (la2 : (-2147483648) ≤ a2) (ua2 : a2 ≤ 2147483647) : jOk 3 0 0 195 [(2, 0), (0, a1), (0, a2)] h (fun v h' => ∃ r : Int, v = some (0, r) ∧ Gd G h' ∧ Kp [(26, 1), (26, 2), (27, 0)] h h' ∧ TaC h h' a1 a2 r) := by
  refine ⟨by decide, by rw [ml195]; exact Nat.le_of_ble_eq_true rfl, ?_⟩
  rw [ml195, pp195]
  show jEv _ none _ c195_0 0 0 _ (c195_0, [(2, 0), (0, a1), (0, a2)], [], h, 0, 0)
  have k0 := Kp.rf [(26, 1), (26, 2), (27, 0)] h
  refine ev_iload_n rfl ?_
  refine ev_iconst ?_
  refine ev_icmplt f195_20 (fun c75277 => ?_) (fun c75277 => ?_)
  · refine ev_iconst ?_
    exact ev_ret rfl (by decide) (by decide) ⟨_, rfl, g, k0, Or.inl ⟨by unfold TB; omega, rfl, rfl, rfl, fun _ => rfl⟩⟩
  · refine ev_iload_n rfl ?_
    refine ev_iconst ?_
    refine ev_icmpgt f195_20 (fun c75278 => ?_) (fun c75278 => ?_)
    · refine ev_iconst ?_
      exact ev_ret rfl (by decide) (by decide) ⟨_, rfl, g, k0, Or.inl ⟨by unfold TB; omega, rfl, rfl, rfl, fun _ => rfl⟩⟩
    · refine ev_iload_n rfl ?_
      refine ev_iconst ?_
      refine ev_icmplt f195_20 (fun c75279 => ?_) (fun c75279 => ?_)
      · refine ev_iconst ?_
        exact ev_ret rfl (by decide) (by decide) ⟨_, rfl, g, k0, Or.inl ⟨by unfold TB; omega, rfl, rfl, rfl, fun _ => rfl⟩⟩
      · refine ev_iload_n rfl ?_
        refine ev_iconst ?_
        refine ev_icmple f195_22 (fun c75280 => ?_) (fun c75280 => ?_)
        · refine ev_aload_n rfl ?_
          refine g_getp (r := 0) (c := 26) g ad0 (by decide) (by decide) rf0_11 ft11_11 ?_
          refine ev_iload_n rfl ?_
          refine ev_iload_n rfl ?_
          refine ev_in (d := 1) (a := 0) (b := 0) (cd' := c103_0) (m := 3) (L0 := [(2, 26), (0, a1), (0, a2)]) (jcall_v (A := [(0, a2), (0, a1)]) (S' := []) (r := 26) rfl (g.lt ad26) (g.tg ad26) (Nat.le_of_ble_eq_true rfl)) (by decide) ml103 pp103 (Nat.le_of_ble_eq_true rfl) rfl (by decide) (by decide) ?_
          refine ev_aload_n rfl ?_
          refine ev_iload_n rfl ?_
          refine g_putf (r := 26) g ad26 (by decide) ft9_0 (by decide) (fun e => absurd e nz9_0) rf26_0 (by decide) (by omega) (by omega) (fun h75281 e75281 g75281 => ?_)
          have k75281 := k0.wr e75281 rfl
          refine ev_aload_n rfl ?_
          refine ev_iload_n rfl ?_
          refine g_putf (r := 26) g75281 ad26 (by decide) ft9_1 (by decide) (fun e => absurd e nz9_1) rf26_1 (by decide) (by omega) (by omega) (fun h75282 e75282 g75282 => ?_)
          have k75282 := k75281.wr e75282 rfl
          refine ev_aload_n rfl ?_
          refine g_getp (r := 26) (c := 27) g75282 ad26 (by decide) (by decide) rf26_2 ft9_2 ?_
          refine ev_iconst ?_
          refine ev_call (jcall_s (A := [(0, 0), (2, 27)]) (S' := []) (by decide) rfl (Nat.le_of_ble_eq_true rfl)) (jOk_le (by decide) (t383 g75282 )) (by decide) (by decide) (fun w75283 h75283 q75283 => ?_)
          obtain ⟨rfl, g75283, kk75283, zz75283⟩ := q75283
          have k75283 := k75282.tr kk75283 (by decide)
          show jEv _ _ _ _ _ _ _ (_, [(2, 26), (0, a1), (0, a2)], [], _, _, _)
          refine ev_ret rfl (by decide) (by decide) ?_
          show jEv _ _ _ _ _ _ _ (_, [(2, 0), (0, a1), (0, a2)], [], _, _, _)
          refine ev_iload_n rfl ?_
          refine ev_iload_n rfl ?_
          refine g_imulB (a := 4) (b := 4) (a' := 1) (b' := 1) (by omega) (by omega) (by omega) (by omega) (by decide) (lo := 1) (hi := 16) (by decide) (by decide) (fun v75284 ev75284 lv75284 uv75284 => ?_)
          exact ev_ret rfl (by decide) (by decide) ⟨_, rfl, g75283, k75283, Or.inr ⟨by unfold TB; omega, ev75284.symm, ((((kk75283.v (by decide)).trans ((jw_ne e75282 (Or.inr (by decide))).trans (jw_eq e75281))))).trans (by omega), ((((kk75283.v (by decide)).trans (jw_eq e75282)))).trans (by omega), zz75283⟩⟩
        · refine ev_iconst ?_
          exact ev_ret rfl (by decide) (by decide) ⟨_, rfl, g, k0, Or.inl ⟨by unfold TB; omega, rfl, rfl, rfl, fun _ => rfl⟩⟩
set_option maxHeartbeats 4000000 in
theorem t330_l {G : GH} {h : JH} {a1 : Int} (la1 : (-2147483648) ≤ a1) (ua1 : a1 ≤ 2147483647) {a2 : Int} (la2 : (-2147483648) ≤ a2) (ua2 : a2 ≤ 2147483647) : ∀ N : Nat, (∀ (h1 : JH) (x3 y0 y1 : Int), Gd G h1 → Kp [(42, 45), (42, 46), (67, 0)] h h1 → 1 ≤ a1 → a1 ≤ 4 → 1 ≤ a2 → a2 ≤ 4 → 0 ≤ x3 → x3 ≤ 32 → ((-a1) + y0) ≤ 0 → (a1 + (-y0)) ≤ 0 → ((-a2) + y1) ≤ 0 → (a2 + (-y1)) ≤ 0 → h1.2.2 42 44 = y0 → 1 ≤ y0 → y0 ≤ 4 → h1.2.2 42 45 = y1 → 1 ≤ y1 → y1 ≤ 4 → Z0 h1 67 x3 → ((-x3) + 32) < N → jEv (jOk 1) none (fun _ => 0) c330_0 0 0 (fun v h' => ∃ r : Int, v = some (0, r) ∧ Gd G h' ∧ Kp [(42, 45), (42, 46), (67, 0)] h h' ∧ TaR h h' a1 a2 r) (c330_32, [(2, 42), (0, a1), (0, a2), (0, x3)], [], h1, 0, 0)) := by
  intro N
  induction N with
  | zero => exact fun h1 x3 y0 y1 g1 k1 b0 b1 b2 b3 b4 b5 b6 b7 b8 b9 b10 b11 b12 b13 b14 b15 b16 hm => absurd hm (by omega)
  | succ N ih =>
    show _
    intro h1 x3 y0 y1 g1 k1 b0 b1 b2 b3 b4 b5 b6 b7 b8 b9 ey0 ly0 uy0 ey1 ly1 uy1 H0 hm
    refine ev_iload_n rfl ?_
    refine ev_bipush ?_
    refine ev_icmpge f330_51 (fun c75357 => ?_) (fun c75357 => ?_)
    · refine ev_iload_n rfl ?_
      refine ev_iload_n rfl ?_
      refine g_imulB (a := 4) (b := 4) (a' := 1) (b' := 1) (by omega) (by omega) (by omega) (by omega) (by decide) (lo := 1) (hi := 16) (by decide) (by decide) (fun v75358 ev75358 lv75358 uv75358 => ?_)
      exact ev_ret rfl (by decide) (by decide) ⟨_, rfl, g1, k1, Or.inr ⟨by unfold TB; omega, ev75358.symm, ((ey0)).trans (by omega), ((ey1)).trans (by omega), H0.le (by omega)⟩⟩
    · refine ev_aload_n rfl ?_
      refine g_getp (r := 42) (c := 67) g1 ad42 (by decide) (by decide) rf42_46 ft12_46 ?_
      refine ev_iload_n rfl ?_
      refine ev_iconst ?_
      refine g_iast g1 ad67 rt67 (fun _ => rfl) (by omega) (by omega) (by omega) (by omega) (fun h75359 e75359 g75359 => ?_)
      have k75359 := k1.wr e75359 rfl
      refine ev_iinc (w := (x3 + 1)) (L' := [(2, 42), (0, a1), (0, a2), (0, (x3 + 1))]) rfl (by unfold w32; omega) rfl ?_
      refine ev_goto f330_32 ?_
      exact ih _ _ _ _ g75359 k75359 (by omega) (by omega) (by omega) (by omega) (by omega) (by omega) (by omega) (by omega) (by omega) (by omega) (((jw_ne e75359 (Or.inl (by decide))).trans ey0)) (by omega) (by omega) (((jw_ne e75359 (Or.inl (by decide))).trans ey1)) (by omega) (by omega) (Z0.step H0 (by omega) e75359) (by omega)
set_option maxHeartbeats 4000000 in
theorem t330 {G : GH} {h : JH} (g : Gd G h) {a1 : Int} (la1 : (-2147483648) ≤ a1) (ua1 : a1 ≤ 2147483647) {a2 : Int} (la2 : (-2147483648) ≤ a2) (ua2 : a2 ≤ 2147483647) : jOk 2 0 0 330 [(2, 42), (0, a1), (0, a2)] h (fun v h' => ∃ r : Int, v = some (0, r) ∧ Gd G h' ∧ Kp [(42, 45), (42, 46), (67, 0)] h h' ∧ TaR h h' a1 a2 r) := by
  refine ⟨by decide, by rw [ml330]; exact Nat.le_of_ble_eq_true rfl, ?_⟩
  rw [ml330, pp330]
  show jEv _ none _ c330_0 0 0 _ (c330_0, [(2, 42), (0, a1), (0, a2), (9, 0)], [], h, 0, 0)
  have k0 := Kp.rf [(42, 45), (42, 46), (67, 0)] h
  refine ev_iload_n rfl ?_
  refine ev_iconst ?_
  refine ev_iconst ?_
  refine ev_in (d := 0) (a := 0) (b := 0) (cd' := c242_0) (m := 3) (L0 := [(0, a1), (0, 1), (0, 4)]) (jcall_s (A := [(0, 4), (0, 1), (0, a1)]) (S' := []) (by decide) rfl (Nat.le_of_ble_eq_true rfl)) (by decide) ml242 pp242 (Nat.le_of_ble_eq_true rfl) rfl (by decide) (by decide) ?_
  refine ev_iload_n rfl ?_
  refine ev_iload_n rfl ?_
  refine ev_icmplt f242_14 (fun c75360 => ?_) (fun c75360 => ?_)
  · refine ev_iconst ?_
    refine ev_ret rfl (by decide) (by decide) ?_
    show jEv _ _ _ _ _ _ _ (_, [(2, 42), (0, a1), (0, a2), (9, 0)], [(0, 0)], _, _, _)
    refine ev_ifeq f330_18 (fun c75361 => ?_) (fun c75361 => absurd c75361 (by omega))
    refine ev_iconst ?_
    exact ev_ret rfl (by decide) (by decide) ⟨_, rfl, g, k0, Or.inl ⟨by unfold TB; omega, rfl, rfl, rfl, fun _ => rfl⟩⟩
  · refine ev_iload_n rfl ?_
    refine ev_iload_n rfl ?_
    refine ev_icmpgt f242_14 (fun c75362 => ?_) (fun c75362 => ?_)
    · refine ev_iconst ?_
      refine ev_ret rfl (by decide) (by decide) ?_
      show jEv _ _ _ _ _ _ _ (_, [(2, 42), (0, a1), (0, a2), (9, 0)], [(0, 0)], _, _, _)
      refine ev_ifeq f330_18 (fun c75363 => ?_) (fun c75363 => absurd c75363 (by omega))
      refine ev_iconst ?_
      exact ev_ret rfl (by decide) (by decide) ⟨_, rfl, g, k0, Or.inl ⟨by unfold TB; omega, rfl, rfl, rfl, fun _ => rfl⟩⟩
    · refine ev_iconst ?_
      refine ev_goto f242_15 ?_
      refine ev_ret rfl (by decide) (by decide) ?_
      show jEv _ _ _ _ _ _ _ (_, [(2, 42), (0, a1), (0, a2), (9, 0)], [(0, 1)], _, _, _)
      refine ev_ifeq f330_18 (fun c75364 => absurd c75364 (by omega)) (fun c75364 => ?_)
      refine ev_iload_n rfl ?_
      refine ev_iconst ?_
      refine ev_iconst ?_
      refine ev_in (d := 0) (a := 0) (b := 0) (cd' := c242_0) (m := 3) (L0 := [(0, a2), (0, 1), (0, 4)]) (jcall_s (A := [(0, 4), (0, 1), (0, a2)]) (S' := []) (by decide) rfl (Nat.le_of_ble_eq_true rfl)) (by decide) ml242 pp242 (Nat.le_of_ble_eq_true rfl) rfl (by decide) (by decide) ?_
      refine ev_iload_n rfl ?_
      refine ev_iload_n rfl ?_
      refine ev_icmplt f242_14 (fun c75365 => ?_) (fun c75365 => ?_)
      · refine ev_iconst ?_
        refine ev_ret rfl (by decide) (by decide) ?_
        show jEv _ _ _ _ _ _ _ (_, [(2, 42), (0, a1), (0, a2), (9, 0)], [(0, 0)], _, _, _)
        refine ev_ifne f330_20 (fun c75366 => absurd c75366 (by omega)) (fun c75366 => ?_)
        refine ev_iconst ?_
        exact ev_ret rfl (by decide) (by decide) ⟨_, rfl, g, k0, Or.inl ⟨by unfold TB; omega, rfl, rfl, rfl, fun _ => rfl⟩⟩
      · refine ev_iload_n rfl ?_
        refine ev_iload_n rfl ?_
        refine ev_icmpgt f242_14 (fun c75367 => ?_) (fun c75367 => ?_)
        · refine ev_iconst ?_
          refine ev_ret rfl (by decide) (by decide) ?_
          show jEv _ _ _ _ _ _ _ (_, [(2, 42), (0, a1), (0, a2), (9, 0)], [(0, 0)], _, _, _)
          refine ev_ifne f330_20 (fun c75368 => absurd c75368 (by omega)) (fun c75368 => ?_)
          refine ev_iconst ?_
          exact ev_ret rfl (by decide) (by decide) ⟨_, rfl, g, k0, Or.inl ⟨by unfold TB; omega, rfl, rfl, rfl, fun _ => rfl⟩⟩
        · refine ev_iconst ?_
          refine ev_goto f242_15 ?_
          refine ev_ret rfl (by decide) (by decide) ?_
          show jEv _ _ _ _ _ _ _ (_, [(2, 42), (0, a1), (0, a2), (9, 0)], [(0, 1)], _, _, _)
          refine ev_ifne f330_20 (fun c75369 => ?_) (fun c75369 => absurd c75369 (by omega))
          refine ev_aload_n rfl ?_
          refine ev_iload_n rfl ?_
          refine g_putf (r := 42) g ad42 (by decide) ft12_44 (by decide) (fun e => absurd e nz12_44) rf42_44 (by decide) (by omega) (by omega) (fun h75370 e75370 g75370 => ?_)
          have k75370 := k0.wr e75370 rfl
          refine ev_aload_n rfl ?_
          refine ev_iload_n rfl ?_
          refine g_putf (r := 42) g75370 ad42 (by decide) ft12_45 (by decide) (fun e => absurd e nz12_45) rf42_45 (by decide) (by omega) (by omega) (fun h75371 e75371 g75371 => ?_)
          have k75371 := k75370.wr e75371 rfl
          refine ev_iconst ?_
          refine ev_istore_n (L' := [(2, 42), (0, a1), (0, a2), (0, 0)]) (Nat.le_of_ble_eq_true rfl) rfl ?_
          exact (t330_l la1 ua1 la2 ua2 66) _ _ _ _ g75371 k75371 (by omega) (by omega) (by omega) (by omega) (by omega) (by omega) (by omega) (by omega) (by omega) (by omega) (((jw_ne e75371 (Or.inr (by decide))).trans (jw_eq e75370))) (by omega) (by omega) ((jw_eq e75371)) (by omega) (by omega) (Z0.start _ _) (by omega)
def fC (h : JH) (s r c : Int) : Int := h.2.2 27 (8 * r + 2 * c + s).toNat
def fR (h : JH) (s r c : Int) : Int := h.2.2 67 (16 * s + 4 * r + c).toNat
theorem fC_at {W : List (Nat × Nat)} {h h1 : JH} {s r c i v : Int} (k : Kp W h h1) (cc : ∀ j, inW W 27 j = false) (e : h1.2.2 27 i.toNat = v) (hi : i = 8 * r + 2 * c + s) : fC h s r c = v := by
  unfold fC
  rw [← hi, ← k.v (cc _)]
  exact e
theorem fR_at {W : List (Nat × Nat)} {h h1 : JH} {s r c i v : Int} (k : Kp W h h1) (cc : ∀ j, inW W 67 j = false) (e : h1.2.2 67 i.toNat = v) (hi : i = 16 * s + 4 * r + c) : fR h s r c = v := by
  unfold fR
  rw [← hi, ← k.v (cc _)]
  exact e
def Al (P : Int → Prop) (x : Int) : Prop := ∀ o : Int, 0 ≤ o → o < x → P o
theorem Al.zero (P : Int → Prop) : Al P 0 := fun o a b => by omega
theorem Al.succ {P : Int → Prop} {x : Int} (a : Al P x) (p : P x) : Al P (x + 1) := fun o o0 o1 => by
  rcases Decidable.em (o = x) with r | r
  · rw [r]; exact p
  · exact a o o0 (by omega)
theorem jand01 : jand 0 0 = 0 ∧ jand 0 1 = 0 ∧ jand 1 0 = 0 ∧ jand 1 1 = 1 := by decide
theorem Al.and {P : Int → Prop} {Q : Prop} {x s b s' : Int} (a : s = 1 ↔ Q ∧ Al P x) (x0 : 0 ≤ x) (s0 : 0 ≤ s) (s1 : s ≤ 1) (e : jand s b = s') (hb : (b = 1 ∧ P x) ∨ (b = 0 ∧ ¬ P x)) : s' = 1 ↔ Q ∧ Al P (x + 1) := by
  obtain ⟨j1, j2, j3, j4⟩ := jand01
  rcases hb with ⟨b1, p⟩ | ⟨b1, p⟩
  · subst b1
    rcases (show s = 0 ∨ s = 1 by omega) with z | z
    · subst z
      rw [j2] at e
      subst e
      exact ⟨fun w => absurd w (by decide), fun w => absurd (a.mpr ⟨w.1, fun o o0 o1 => w.2 o o0 (by omega)⟩) (by decide)⟩
    · subst z
      rw [j4] at e
      subst e
      exact ⟨fun _ => ⟨(a.mp rfl).1, (a.mp rfl).2.succ p⟩, fun _ => rfl⟩
  · subst b1
    have e0 : s' = 0 := by
      rcases (show s = 0 ∨ s = 1 by omega) with z | z
      · subst z
        rw [j1] at e
        exact e.symm
      · subst z
        rw [j3] at e
        exact e.symm
    exact ⟨fun w => by omega, fun w => absurd (w.2 x x0 (by omega)) p⟩
def Su (f : Int → Int → Int → Int) (R C r c : Int) : Prop := Al (fun o => f 0 o c ≤ f 0 r c) R ∧ Al (fun o => f 1 r o ≤ f 1 r c) C
/-- the q-th pair, four a row -/
def Sq (f : Int → Int → Int → Int) (R C : Int) (q : Nat) : Prop := ((q % 4 : Nat) : Int) < C ∧ Su f R C ((q / 4 : Nat) : Int) ((q % 4 : Nat) : Int)
def Cn (P : Nat → Prop) : Nat → Int → Prop
  | 0, n => n = 0
  | q + 1, n => (P q ∧ ∃ m, Cn P q m ∧ n = m + 1) ∨ (¬ P q ∧ Cn P q n)
theorem Cn.uniq {P : Nat → Prop} : ∀ (q : Nat) {n m : Int}, Cn P q n → Cn P q m → n = m := by
  intro q
  induction q with
  | zero => intro n m a b; exact a.trans b.symm
  | succ q ih =>
    intro n m a b
    rcases a with ⟨p, n', a, e⟩ | ⟨p, a⟩
    · rcases b with ⟨_, m', b, e'⟩ | ⟨p', _⟩
      · have := ih a b
        omega
      · exact absurd p p'
    · rcases b with ⟨p', _⟩ | ⟨_, b⟩
      · exact absurd p' p
      · exact ih a b
theorem Cn.mono {P : Nat → Prop} {q : Nat} {n : Int} (a : Cn P q n) (p : P q) : ∀ (d : Nat) {m : Int}, Cn P (q + 1 + d) m → n + 1 ≤ m := by
  intro d
  induction d with
  | zero =>
    intro m b
    rcases b with ⟨_, m', b, e⟩ | ⟨p', _⟩
    · have := Cn.uniq q a b
      omega
    · exact absurd p p'
  | succ d ih =>
    intro m b
    rcases b with ⟨_, m', b, e⟩ | ⟨_, b⟩
    · have := ih b
      omega
    · exact ih b
theorem Cn.skip {P : Nat → Prop} {q : Nat} {n : Int} (a : Cn P q n) : ∀ (d : Nat), (∀ t, t < d → ¬ P (q + t)) → Cn P (q + d) n := by
  intro d
  induction d with
  | zero => intro _; exact a
  | succ d ih => intro h; exact Or.inr ⟨h d (by omega), ih (fun t ht => h t (by omega))⟩
def An (P : Nat → Prop) (R i r : Int) : Prop := (∃ q : Nat, (q : Int) < 4 * R ∧ P q ∧ Cn P q i ∧ r = 10 * ((q / 4 : Nat) : Int) + ((q % 4 : Nat) : Int)) ∨ ((∀ q : Nat, (q : Int) < 4 * R → P q → ¬ Cn P q i) ∧ ∃ n, Cn P (4 * R).toNat n ∧ r = if i < 0 then n else -1)
theorem An.uniq {P : Nat → Prop} {R i r s : Int} (a : An P R i r) (b : An P R i s) : r = s := by
  rcases a with ⟨q, q1, q2, q3, q4⟩ | ⟨n1, n, n2, n3⟩
  · rcases b with ⟨t, t1, t2, t3, t4⟩ | ⟨m1, _⟩
    · have e : q = t := by
        rcases Nat.lt_trichotomy q t with z | z | z
        · have := Cn.mono q3 q2 (t - q - 1) (m := i) (by rw [show q + 1 + (t - q - 1) = t by omega]; exact t3)
          omega
        · exact z
        · have := Cn.mono t3 t2 (q - t - 1) (m := i) (by rw [show t + 1 + (q - t - 1) = q by omega]; exact q3)
          omega
      rw [q4, t4, e]
    · exact absurd q3 (m1 q q1 q2)
  · rcases b with ⟨t, t1, t2, t3, t4⟩ | ⟨_, m, m2, m3⟩
    · exact absurd t3 (n1 t t1 t2)
    · rw [n3, m3, Cn.uniq _ n2 m2]
/-- the pairs ahead of (r, c): so many, none the i-th -/
def Lp (P : Nat → Prop) (i r c n : Int) : Prop := Cn P (4 * r + c).toNat n ∧ ∀ q : Nat, (q : Int) < 4 * r + c → P q → ¬ Cn P q i
theorem Lp.start (P : Nat → Prop) (i : Int) : Lp P i 0 0 0 := ⟨rfl, fun q h => by omega⟩
theorem Lp.yes {P : Nat → Prop} {i r c n c' n' : Int} (x : Lp P i r c n) (r0 : 0 ≤ r) (c0 : 0 ≤ c) (p : P (4 * r + c).toNat) (hn : n ≠ i) (hc : c' = c + 1) (e : n' = n + 1) : Lp P i r c' n' := by
  refine ⟨?_, fun q hq pq cq => ?_⟩
  · rw [show (4 * r + c').toNat = (4 * r + c).toNat + 1 by omega]
    exact Or.inl ⟨p, n, x.1, e⟩
  · rcases Decidable.em (q = (4 * r + c).toNat) with z | z
    · rw [z] at cq
      exact hn (Cn.uniq _ x.1 cq)
    · exact x.2 q (by omega) pq cq
theorem Lp.no {P : Nat → Prop} {i r c n c' : Int} (x : Lp P i r c n) (r0 : 0 ≤ r) (c0 : 0 ≤ c) (p : ¬ P (4 * r + c).toNat) (hc : c' = c + 1) : Lp P i r c' n := by
  refine ⟨?_, fun q hq pq cq => ?_⟩
  · rw [show (4 * r + c').toNat = (4 * r + c).toNat + 1 by omega]
    exact Or.inr ⟨p, x.1⟩
  · rcases Decidable.em (q = (4 * r + c).toNat) with z | z
    · rw [z] at pq
      exact p pq
    · exact x.2 q (by omega) pq cq
theorem Lp.row {f : Int → Int → Int → Int} {R C i r c n r' : Int} (x : Lp (Sq f R C) i r c n) (r0 : 0 ≤ r) (c0 : 0 ≤ c) (c4 : c ≤ 4) (hC : C ≤ c) (hr : r' = r + 1) : Lp (Sq f R C) i r' 0 n := by
  have no : ∀ q : Nat, 4 * r + c ≤ (q : Int) → (q : Int) < 4 * r + 4 → ¬ Sq f R C q := fun q q1 q2 p => by
    have := p.1
    omega
  refine ⟨?_, fun q hq pq cq => ?_⟩
  · have := Cn.skip x.1 (4 - c).toNat (fun t ht => no _ (by omega) (by omega))
    rw [show (4 * r + c).toNat + (4 - c).toNat = (4 * r' + 0).toNat by omega] at this
    exact this
  · rcases Int.lt_or_le (q : Int) (4 * r + c) with z | z
    · exact x.2 q z pq cq
    · exact no q z (by omega) pq
theorem Sq.iff {f : Int → Int → Int → Int} {R C r c : Int} (r0 : 0 ≤ r) (c0 : 0 ≤ c) (c3 : c ≤ 3) : Sq f R C (4 * r + c).toNat ↔ c < C ∧ Su f R C r c := by
  unfold Sq
  rw [show ((((4 * r + c).toNat % 4 : Nat)) : Int) = c by omega, show ((((4 * r + c).toNat / 4 : Nat)) : Int) = r by omega]
theorem An.hit {f : Int → Int → Int → Int} {R C i r c n v : Int} (x : Lp (Sq f R C) i r c n) (r0 : 0 ≤ r) (rR : r < R) (c0 : 0 ≤ c) (c3 : c ≤ 3) (cC : c < C) (su : Su f R C r c) (hn : n = i) (hv : v = 10 * r + c) : An (Sq f R C) R i v := by
  subst hn
  exact Or.inl ⟨(4 * r + c).toNat, by omega, (Sq.iff r0 c0 c3).mpr ⟨cC, su⟩, x.1, by omega⟩
theorem An.none {P : Nat → Prop} {R i r n v : Int} (x : Lp P i r 0 n) (hr : r = R) (r0 : 0 ≤ R) (hv : v = if i < 0 then n else -1) : An P R i v := by
  subst hr
  have y := x.1
  rw [show 4 * r + 0 = 4 * r by omega] at y
  exact Or.inr ⟨fun q hq p => x.2 q (by omega) p, n, y, hv⟩
def SrC (h : JH) (R C i r : Int) : Prop := (¬ (-1 ≤ i ∧ R ≠ 0) ∧ r = -1) ∨ ((-1 ≤ i ∧ R ≠ 0) ∧ An (Sq (fC h) R C) R i r)
def SrR (h : JH) (R C i r : Int) : Prop := (¬ (-1 ≤ i ∧ R ≠ 0) ∧ r = -1) ∨ ((-1 ≤ i ∧ R ≠ 0) ∧ An (Sq (fR h) R C) R i r)
theorem Al.iff {P Q : Int → Prop} {x : Int} (e : ∀ o, 0 ≤ o → o < x → (P o ↔ Q o)) : Al P x ↔ Al Q x := ⟨fun a o o0 o1 => (e o o0 o1).mp (a o o0 o1), fun a o o0 o1 => (e o o0 o1).mpr (a o o0 o1)⟩
theorem Cn.iff {P Q : Nat → Prop} (e : ∀ q, P q ↔ Q q) : P = Q := funext (fun q => propext (e q))
theorem Rl.sure {h : JH} (x : Rl h) {R C i r1 r2 : Int} (hR0 : 0 ≤ R) (hR : R ≤ 4) (hC : C ≤ 4) (f1 : SrC h R C i r1) (f2 : SrR h R C i r2) : r1 = r2 := by
  have fe : ∀ s r c : Int, 0 ≤ s → s ≤ 1 → 0 ≤ r → r ≤ 3 → 0 ≤ c → c ≤ 3 → fC h s r c = fR h s r c := fun s r c s0 s1 r0 r1 c0 c1 => by
    unfold fC fR
    have := x.2.2 r.toNat c.toNat s.toNat (by omega) (by omega) (by omega)
    rw [show (8 * r + 2 * c + s).toNat = 8 * r.toNat + 2 * c.toNat + s.toNat by omega, show (16 * s + 4 * r + c).toNat = 16 * s.toNat + 4 * r.toNat + c.toNat by omega]
    exact this
  rcases f1 with ⟨n1, q1⟩ | ⟨t1, q1⟩
  · rcases f2 with ⟨_, q2⟩ | ⟨t2, _⟩
    · exact q1.trans q2.symm
    · exact absurd t2 n1
  · rcases f2 with ⟨n2, _⟩ | ⟨_, q2⟩
    · exact absurd t1 n2
    · have key : ∀ q : Nat, (q : Int) < 4 * R → (Sq (fC h) R C q ↔ Sq (fR h) R C q) := fun q hq => by
        unfold Sq Su
        have m : q % 4 < 4 := Nat.mod_lt _ (by decide)
        refine and_congr_right (fun hc => and_congr (Al.iff (fun o o0 o1 => ?_)) (Al.iff (fun o o0 o1 => ?_)))
        · show fC h 0 o _ ≤ fC h 0 _ _ ↔ _
          rw [fe 0 o _ (by omega) (by omega) o0 (by omega) (by omega) (by omega), fe 0 _ _ (by omega) (by omega) (by omega) (by omega) (by omega) (by omega)]
        · show fC h 1 _ o ≤ fC h 1 _ _ ↔ _
          rw [fe 1 _ o (by omega) (by omega) (by omega) (by omega) o0 (by omega), fe 1 _ _ (by omega) (by omega) (by omega) (by omega) (by omega) (by omega)]
      have cn : ∀ q : Nat, (q : Int) ≤ 4 * R → ∀ n, Cn (Sq (fC h) R C) q n ↔ Cn (Sq (fR h) R C) q n := by
        intro q
        induction q with
        | zero => intro _ n; exact Iff.rfl
        | succ q ih =>
          intro hq n
          have k := key q (by omega)
          have c := ih (by omega)
          show (_ ∧ ∃ m, _ ∧ _) ∨ (_ ∧ _) ↔ (_ ∧ ∃ m, _ ∧ _) ∨ (_ ∧ _)
          rw [k, c n]
          simp only [c]
      refine An.uniq ?_ q2
      rcases q1 with ⟨q, a1, a2, a3, a4⟩ | ⟨b1, n, b2, b3⟩
      · exact Or.inl ⟨q, a1, (key q a1).mp a2, (cn q (by omega) i).mp a3, a4⟩
      · exact Or.inr ⟨fun q hq p c => b1 q hq ((key q hq).mpr p) ((cn q (by omega) i).mpr c), n, (cn _ (by omega) n).mp b2, b3⟩
theorem su_kp_fC {W : List (Nat × Nat)} {h h1 : JH} {R C r c : Int} (k : Kp W h h1) (cc : ∀ j, inW W 27 j = false := by exact fun _ => rfl) : Su (fC h1) R C r c ↔ Su (fC h) R C r c := by
  have e : fC h1 = fC h := by
    funext s r c
    unfold fC
    exact k.v (cc _)
  rw [e]
theorem su_kp_fR {W : List (Nat × Nat)} {h h1 : JH} {R C r c : Int} (k : Kp W h h1) (cc : ∀ j, inW W 67 j = false := by exact fun _ => rfl) : Su (fR h1) R C r c ↔ Su (fR h) R C r c := by
  have e : fR h1 = fR h := by
    funext s r c
    unfold fR
    exact k.v (cc _)
  rw [e]
set_option maxHeartbeats 4000000 in
theorem t108_l {G : GH} {h : JH} {a1 : Int} (la1 : 0 ≤ a1) (ua1 : a1 ≤ 3) {a2 : Int} (la2 : 0 ≤ a2) (ua2 : a2 ≤ 3) {w0 : Int} (ew0 : h.2.2 26 0 = w0) (lw0 : 0 ≤ w0) (uw0 : w0 ≤ 4) {w1 : Int} (ew1 : h.2.2 26 1 = w1) (lw1 : 0 ≤ w1) (uw1 : w1 ≤ 4) : ∀ N : Nat, (∀ (h1 : JH) (x3 x4 : Int), Gd G h1 → Kp [] h h1 → 0 ≤ a1 → a1 ≤ 3 → 0 ≤ a2 → a2 ≤ 3 → 0 ≤ x3 → x3 ≤ 1 → 0 ≤ x4 → x4 ≤ 4 → ((-w0) + x4) ≤ 0 → (x3 = 1 ↔ True ∧ Al (fun o => fC h 0 o a2 ≤ fC h 0 a1 a2) x4) → ((-x4) + 9) < N → jEv (jOk 1) none (fun _ => 0) c108_0 0 0 (fun v h' => ∃ r : Int, v = some (0, r) ∧ Gd G h' ∧ Kp [] h h' ∧ 0 ≤ r ∧ r ≤ 1 ∧ (r = 1 ↔ Su (fC h) w0 w1 a1 a2)) (c108_5, [(2, 26), (0, a1), (0, a2), (0, x3), (0, x4)], [], h1, 0, 0)) ∧ (∀ (h1 : JH) (x3 x4 : Int), Gd G h1 → Kp [] h h1 → 0 ≤ a1 → a1 ≤ 3 → 0 ≤ a2 → a2 ≤ 3 → 0 ≤ x3 → x3 ≤ 1 → 0 ≤ x4 → x4 ≤ 4 → ((-w1) + x4) ≤ 0 → (x3 = 1 ↔ Al (fun o => fC h 0 o a2 ≤ fC h 0 a1 a2) w0 ∧ Al (fun o => fC h 1 a1 o ≤ fC h 1 a1 a2) x4) → ((-x4) + 4) < N → jEv (jOk 1) none (fun _ => 0) c108_0 0 0 (fun v h' => ∃ r : Int, v = some (0, r) ∧ Gd G h' ∧ Kp [] h h' ∧ 0 ≤ r ∧ r ≤ 1 ∧ (r = 1 ↔ Su (fC h) w0 w1 a1 a2)) (c108_49, [(2, 26), (0, a1), (0, a2), (0, x3), (0, x4)], [], h1, 0, 0)) := by
  intro N
  induction N with
  | zero => exact ⟨fun h1 x3 x4 g1 k1 b0 b1 b2 b3 b4 b5 b6 b7 b8 b9 hm => absurd hm (by omega), fun h1 x3 x4 g1 k1 b0 b1 b2 b3 b4 b5 b6 b7 b8 b9 hm => absurd hm (by omega)⟩
  | succ N ih =>
    refine ⟨?_, ?_⟩
    · intro h1 x3 x4 g1 k1 b0 b1 b2 b3 b4 b5 b6 b7 b8 H0 hm
      refine ev_iload rfl ?_
      refine ev_aload_n rfl ?_
      refine g_getv (r := 26) (v := w0) g1 ad26 (by decide) ft9_0 (((k1.v (by decide)).trans ew0)) ?_
      refine ev_icmpge f108_46 (fun c75444 => ?_) (fun c75444 => ?_)
      · refine ev_iconst ?_
        refine ev_istore (L' := [(2, 26), (0, a1), (0, a2), (0, x3), (0, 0)]) (Nat.le_of_ble_eq_true rfl) rfl ?_
        exact ih.2 _ _ _ g1 k1 (by omega) (by omega) (by omega) (by omega) (by omega) (by omega) (by omega) (by omega) (by omega) ⟨fun z => ⟨fun o a b => (H0.mp z).2 o a (by omega), Al.zero _⟩, fun z => H0.mpr ⟨trivial, fun o a b => z.1 o a (by omega)⟩⟩ (by omega)
      · refine ev_iload_n rfl ?_
        refine ev_aload_n rfl ?_
        refine ev_iload rfl ?_
        refine ev_iload_n rfl ?_
        refine ev_iconst ?_
        refine ev_in (d := 0) (a := 0) (b := 0) (cd' := c106_0) (m := 4) (L0 := [(2, 26), (0, x4), (0, a2), (0, 0)]) (jcall_v (A := [(0, 0), (0, a2), (0, x4)]) (S' := [(0, x3)]) (r := 26) rfl (g1.lt ad26) (g1.tg ad26) (Nat.le_of_ble_eq_true rfl)) (by decide) ml106 pp106 (Nat.le_of_ble_eq_true rfl) rfl (by decide) (by decide) ?_
        refine ev_aload_n rfl ?_
        refine g_getp (r := 26) (c := 27) g1 ad26 (by decide) (by decide) rf26_2 ft9_2 ?_
        refine ev_bipush ?_
        refine ev_iload_n rfl ?_
        refine ev_imul (r := (8 * x4)) (by unfold w32; omega) ?_
        refine ev_iconst ?_
        refine ev_iload_n rfl ?_
        refine ev_imul (r := (2 * a2)) (by unfold w32; omega) ?_
        refine ev_iadd (r := (2 * a2 + 8 * x4)) (by unfold w32; omega) ?_
        refine ev_iload_n rfl ?_
        refine ev_iadd (r := (2 * a2 + 8 * x4)) (by unfold w32; omega) ?_
        refine g_iald g1 ad27 rt27 (by omega) (by omega) (fun v75445 ev75445 lv75445 uv75445 => ?_)
        refine ev_ret rfl (by decide) (by decide) ?_
        show jEv _ _ _ _ _ _ _ (_, [(2, 26), (0, a1), (0, a2), (0, x3), (0, x4)], [(0, v75445), (0, x3)], _, _, _)
        refine ev_aload_n rfl ?_
        refine ev_iload_n rfl ?_
        refine ev_iload_n rfl ?_
        refine ev_iconst ?_
        refine ev_in (d := 0) (a := 0) (b := 0) (cd' := c106_0) (m := 4) (L0 := [(2, 26), (0, a1), (0, a2), (0, 0)]) (jcall_v (A := [(0, 0), (0, a2), (0, a1)]) (S' := [(0, v75445), (0, x3)]) (r := 26) rfl (g1.lt ad26) (g1.tg ad26) (Nat.le_of_ble_eq_true rfl)) (by decide) ml106 pp106 (Nat.le_of_ble_eq_true rfl) rfl (by decide) (by decide) ?_
        refine ev_aload_n rfl ?_
        refine g_getp (r := 26) (c := 27) g1 ad26 (by decide) (by decide) rf26_2 ft9_2 ?_
        refine ev_bipush ?_
        refine ev_iload_n rfl ?_
        refine ev_imul (r := (8 * a1)) (by unfold w32; omega) ?_
        refine ev_iconst ?_
        refine ev_iload_n rfl ?_
        refine ev_imul (r := (2 * a2)) (by unfold w32; omega) ?_
        refine ev_iadd (r := (8 * a1 + 2 * a2)) (by unfold w32; omega) ?_
        refine ev_iload_n rfl ?_
        refine ev_iadd (r := (8 * a1 + 2 * a2)) (by unfold w32; omega) ?_
        refine g_iald g1 ad27 rt27 (by omega) (by omega) (fun v75446 ev75446 lv75446 uv75446 => ?_)
        refine ev_ret rfl (by decide) (by decide) ?_
        show jEv _ _ _ _ _ _ _ (_, [(2, 26), (0, a1), (0, a2), (0, x3), (0, x4)], [(0, v75446), (0, v75445), (0, x3)], _, _, _)
        refine ev_icmpgt f108_37 (fun c75447 => ?_) (fun c75447 => ?_)
        · refine ev_iconst ?_
          refine g_iandB (b := 1) (by omega) (by omega) (by decide) (fun v75448 ev75448 lv75448 uv75448 => ?_)
          refine ev_istore_n (L' := [(2, 26), (0, a1), (0, a2), (0, v75448), (0, x4)]) (Nat.le_of_ble_eq_true rfl) rfl ?_
          refine ev_iinc (w := (x4 + 1)) (L' := [(2, 26), (0, a1), (0, a2), (0, v75448), (0, (x4 + 1))]) rfl (by unfold w32; omega) rfl ?_
          refine ev_goto f108_5 ?_
          exact ih.1 _ _ _ g1 k1 (by omega) (by omega) (by omega) (by omega) (by omega) (by omega) (by omega) (by omega) (by omega) (Al.and (b := 0) H0 (by omega) (by omega) (by omega) ev75448 (Or.inr ⟨rfl, (by show ¬ fC h 0 x4 a2 ≤ fC h 0 a1 a2; rw [(fC_at (s := 0) (r := x4) (c := a2) k1 (fun _ => rfl) (i := (2 * a2 + 8 * x4)) (ev75445) (by omega)), (fC_at (s := 0) (r := a1) (c := a2) k1 (fun _ => rfl) (i := (8 * a1 + 2 * a2)) (ev75446) (by omega))]; omega)⟩)) (by omega)
        · refine ev_iconst ?_
          refine ev_goto f108_38 ?_
          refine g_iandB (b := 1) (by omega) (by omega) (by decide) (fun v75449 ev75449 lv75449 uv75449 => ?_)
          refine ev_istore_n (L' := [(2, 26), (0, a1), (0, a2), (0, v75449), (0, x4)]) (Nat.le_of_ble_eq_true rfl) rfl ?_
          refine ev_iinc (w := (x4 + 1)) (L' := [(2, 26), (0, a1), (0, a2), (0, v75449), (0, (x4 + 1))]) rfl (by unfold w32; omega) rfl ?_
          refine ev_goto f108_5 ?_
          exact ih.1 _ _ _ g1 k1 (by omega) (by omega) (by omega) (by omega) (by omega) (by omega) (by omega) (by omega) (by omega) (Al.and (b := 1) H0 (by omega) (by omega) (by omega) ev75449 (Or.inl ⟨rfl, (by show fC h 0 x4 a2 ≤ fC h 0 a1 a2; rw [(fC_at (s := 0) (r := x4) (c := a2) k1 (fun _ => rfl) (i := (2 * a2 + 8 * x4)) (ev75445) (by omega)), (fC_at (s := 0) (r := a1) (c := a2) k1 (fun _ => rfl) (i := (8 * a1 + 2 * a2)) (ev75446) (by omega))]; omega)⟩)) (by omega)
    · intro h1 x3 x4 g1 k1 b0 b1 b2 b3 b4 b5 b6 b7 b8 H0 hm
      refine ev_iload rfl ?_
      refine ev_aload_n rfl ?_
      refine g_getv (r := 26) (v := w1) g1 ad26 (by decide) ft9_1 (((k1.v (by decide)).trans ew1)) ?_
      refine ev_icmpge f108_90 (fun c75450 => ?_) (fun c75450 => ?_)
      · refine ev_iload_n rfl ?_
        exact ev_ret (jret_b (by omega)) (by decide) (by decide) ⟨_, rfl, g1, k1, ⟨by omega, by omega, ⟨fun z => ⟨(H0.mp z).1, fun o a b => (H0.mp z).2 o a (by omega)⟩, fun z => H0.mpr ⟨z.1, fun o a b => z.2 o a (by omega)⟩⟩⟩⟩
      · refine ev_iload_n rfl ?_
        refine ev_aload_n rfl ?_
        refine ev_iload_n rfl ?_
        refine ev_iload rfl ?_
        refine ev_iconst ?_
        refine ev_in (d := 0) (a := 0) (b := 0) (cd' := c106_0) (m := 4) (L0 := [(2, 26), (0, a1), (0, x4), (0, 1)]) (jcall_v (A := [(0, 1), (0, x4), (0, a1)]) (S' := [(0, x3)]) (r := 26) rfl (g1.lt ad26) (g1.tg ad26) (Nat.le_of_ble_eq_true rfl)) (by decide) ml106 pp106 (Nat.le_of_ble_eq_true rfl) rfl (by decide) (by decide) ?_
        refine ev_aload_n rfl ?_
        refine g_getp (r := 26) (c := 27) g1 ad26 (by decide) (by decide) rf26_2 ft9_2 ?_
        refine ev_bipush ?_
        refine ev_iload_n rfl ?_
        refine ev_imul (r := (8 * a1)) (by unfold w32; omega) ?_
        refine ev_iconst ?_
        refine ev_iload_n rfl ?_
        refine ev_imul (r := (2 * x4)) (by unfold w32; omega) ?_
        refine ev_iadd (r := (8 * a1 + 2 * x4)) (by unfold w32; omega) ?_
        refine ev_iload_n rfl ?_
        refine ev_iadd (r := (8 * a1 + 2 * x4 + 1)) (by unfold w32; omega) ?_
        refine g_iald g1 ad27 rt27 (by omega) (by omega) (fun v75451 ev75451 lv75451 uv75451 => ?_)
        refine ev_ret rfl (by decide) (by decide) ?_
        show jEv _ _ _ _ _ _ _ (_, [(2, 26), (0, a1), (0, a2), (0, x3), (0, x4)], [(0, v75451), (0, x3)], _, _, _)
        refine ev_aload_n rfl ?_
        refine ev_iload_n rfl ?_
        refine ev_iload_n rfl ?_
        refine ev_iconst ?_
        refine ev_in (d := 0) (a := 0) (b := 0) (cd' := c106_0) (m := 4) (L0 := [(2, 26), (0, a1), (0, a2), (0, 1)]) (jcall_v (A := [(0, 1), (0, a2), (0, a1)]) (S' := [(0, v75451), (0, x3)]) (r := 26) rfl (g1.lt ad26) (g1.tg ad26) (Nat.le_of_ble_eq_true rfl)) (by decide) ml106 pp106 (Nat.le_of_ble_eq_true rfl) rfl (by decide) (by decide) ?_
        refine ev_aload_n rfl ?_
        refine g_getp (r := 26) (c := 27) g1 ad26 (by decide) (by decide) rf26_2 ft9_2 ?_
        refine ev_bipush ?_
        refine ev_iload_n rfl ?_
        refine ev_imul (r := (8 * a1)) (by unfold w32; omega) ?_
        refine ev_iconst ?_
        refine ev_iload_n rfl ?_
        refine ev_imul (r := (2 * a2)) (by unfold w32; omega) ?_
        refine ev_iadd (r := (8 * a1 + 2 * a2)) (by unfold w32; omega) ?_
        refine ev_iload_n rfl ?_
        refine ev_iadd (r := (8 * a1 + 2 * a2 + 1)) (by unfold w32; omega) ?_
        refine g_iald g1 ad27 rt27 (by omega) (by omega) (fun v75452 ev75452 lv75452 uv75452 => ?_)
        refine ev_ret rfl (by decide) (by decide) ?_
        show jEv _ _ _ _ _ _ _ (_, [(2, 26), (0, a1), (0, a2), (0, x3), (0, x4)], [(0, v75452), (0, v75451), (0, x3)], _, _, _)
        refine ev_icmpgt f108_81 (fun c75453 => ?_) (fun c75453 => ?_)
        · refine ev_iconst ?_
          refine g_iandB (b := 1) (by omega) (by omega) (by decide) (fun v75454 ev75454 lv75454 uv75454 => ?_)
          refine ev_istore_n (L' := [(2, 26), (0, a1), (0, a2), (0, v75454), (0, x4)]) (Nat.le_of_ble_eq_true rfl) rfl ?_
          refine ev_iinc (w := (x4 + 1)) (L' := [(2, 26), (0, a1), (0, a2), (0, v75454), (0, (x4 + 1))]) rfl (by unfold w32; omega) rfl ?_
          refine ev_goto f108_49 ?_
          exact ih.2 _ _ _ g1 k1 (by omega) (by omega) (by omega) (by omega) (by omega) (by omega) (by omega) (by omega) (by omega) (Al.and (b := 0) H0 (by omega) (by omega) (by omega) ev75454 (Or.inr ⟨rfl, (by show ¬ fC h 1 a1 x4 ≤ fC h 1 a1 a2; rw [(fC_at (s := 1) (r := a1) (c := x4) k1 (fun _ => rfl) (i := (8 * a1 + 2 * x4 + 1)) (ev75451) (by omega)), (fC_at (s := 1) (r := a1) (c := a2) k1 (fun _ => rfl) (i := (8 * a1 + 2 * a2 + 1)) (ev75452) (by omega))]; omega)⟩)) (by omega)
        · refine ev_iconst ?_
          refine ev_goto f108_82 ?_
          refine g_iandB (b := 1) (by omega) (by omega) (by decide) (fun v75455 ev75455 lv75455 uv75455 => ?_)
          refine ev_istore_n (L' := [(2, 26), (0, a1), (0, a2), (0, v75455), (0, x4)]) (Nat.le_of_ble_eq_true rfl) rfl ?_
          refine ev_iinc (w := (x4 + 1)) (L' := [(2, 26), (0, a1), (0, a2), (0, v75455), (0, (x4 + 1))]) rfl (by unfold w32; omega) rfl ?_
          refine ev_goto f108_49 ?_
          exact ih.2 _ _ _ g1 k1 (by omega) (by omega) (by omega) (by omega) (by omega) (by omega) (by omega) (by omega) (by omega) (Al.and (b := 1) H0 (by omega) (by omega) (by omega) ev75455 (Or.inl ⟨rfl, (by show fC h 1 a1 x4 ≤ fC h 1 a1 a2; rw [(fC_at (s := 1) (r := a1) (c := x4) k1 (fun _ => rfl) (i := (8 * a1 + 2 * x4 + 1)) (ev75451) (by omega)), (fC_at (s := 1) (r := a1) (c := a2) k1 (fun _ => rfl) (i := (8 * a1 + 2 * a2 + 1)) (ev75452) (by omega))]; omega)⟩)) (by omega)
set_option maxHeartbeats 4000000 in
theorem t108 {G : GH} {h : JH} (g : Gd G h) {a1 : Int} (la1 : 0 ≤ a1) (ua1 : a1 ≤ 3) {a2 : Int} (la2 : 0 ≤ a2) (ua2 : a2 ≤ 3) {w0 : Int} (ew0 : h.2.2 26 0 = w0) (lw0 : 0 ≤ w0) (uw0 : w0 ≤ 4) {w1 : Int} (ew1 : h.2.2 26 1 = w1) (lw1 : 0 ≤ w1) (uw1 : w1 ≤ 4) : jOk 2 0 0 108 [(2, 26), (0, a1), (0, a2)] h (fun v h' => ∃ r : Int, v = some (0, r) ∧ Gd G h' ∧ Kp [] h h' ∧ 0 ≤ r ∧ r ≤ 1 ∧ (r = 1 ↔ Su (fC h) w0 w1 a1 a2)) := by
  refine ⟨by decide, by rw [ml108]; exact Nat.le_of_ble_eq_true rfl, ?_⟩
  rw [ml108, pp108]
  show jEv _ none _ c108_0 0 0 _ (c108_0, [(2, 26), (0, a1), (0, a2), (9, 0), (9, 0)], [], h, 0, 0)
  have k0 := Kp.rf [] h
  refine ev_iconst ?_
  refine ev_istore_n (L' := [(2, 26), (0, a1), (0, a2), (0, 1), (9, 0)]) (Nat.le_of_ble_eq_true rfl) rfl ?_
  refine ev_iconst ?_
  refine ev_istore (L' := [(2, 26), (0, a1), (0, a2), (0, 1), (0, 0)]) (Nat.le_of_ble_eq_true rfl) rfl ?_
  exact (t108_l la1 ua1 la2 ua2 ew0 lw0 uw0 ew1 lw1 uw1 15).1 _ _ _ g k0 (by omega) (by omega) (by omega) (by omega) (by omega) (by omega) (by omega) (by omega) (by omega) ⟨fun _ => ⟨trivial, Al.zero _⟩, fun _ => rfl⟩ (by omega)
set_option maxHeartbeats 4000000 in
theorem t332_l {G : GH} {h : JH} {a1 : Int} (la1 : 0 ≤ a1) (ua1 : a1 ≤ 3) {a2 : Int} (la2 : 0 ≤ a2) (ua2 : a2 ≤ 3) {w0 : Int} (ew0 : h.2.2 42 44 = w0) (lw0 : 0 ≤ w0) (uw0 : w0 ≤ 4) {w1 : Int} (ew1 : h.2.2 42 45 = w1) (lw1 : 0 ≤ w1) (uw1 : w1 ≤ 4) : ∀ N : Nat, (∀ (h1 : JH) (x3 : Int), Gd G h1 → Kp [] h h1 → 0 ≤ a1 → a1 ≤ 3 → 0 ≤ a2 → a2 ≤ 3 → 0 ≤ x3 → x3 ≤ 4 → ((-w0) + x3) ≤ 0 → Al (fun o => fR h 0 o a2 ≤ fR h 0 a1 a2) x3 → ((-x3) + 9) < N → jEv (jOk 0) none (fun _ => 0) c332_0 0 0 (fun v h' => ∃ r : Int, v = some (0, r) ∧ Gd G h' ∧ Kp [] h h' ∧ 0 ≤ r ∧ r ≤ 1 ∧ (r = 1 ↔ Su (fR h) w0 w1 a1 a2)) (c332_2, [(2, 42), (0, a1), (0, a2), (0, x3)], [], h1, 0, 0)) ∧ (∀ (h1 : JH) (x3 : Int), Gd G h1 → Kp [] h h1 → 0 ≤ a1 → a1 ≤ 3 → 0 ≤ a2 → a2 ≤ 3 → 0 ≤ x3 → x3 ≤ 4 → ((-w1) + x3) ≤ 0 → Al (fun o => fR h 0 o a2 ≤ fR h 0 a1 a2) w0 → Al (fun o => fR h 1 a1 o ≤ fR h 1 a1 a2) x3 → ((-x3) + 4) < N → jEv (jOk 0) none (fun _ => 0) c332_0 0 0 (fun v h' => ∃ r : Int, v = some (0, r) ∧ Gd G h' ∧ Kp [] h h' ∧ 0 ≤ r ∧ r ≤ 1 ∧ (r = 1 ↔ Su (fR h) w0 w1 a1 a2)) (c332_43, [(2, 42), (0, a1), (0, a2), (0, x3)], [], h1, 0, 0)) := by
  intro N
  induction N with
  | zero => exact ⟨fun h1 x3 g1 k1 b0 b1 b2 b3 b4 b5 b6 b7 hm => absurd hm (by omega), fun h1 x3 g1 k1 b0 b1 b2 b3 b4 b5 b6 b7 b8 hm => absurd hm (by omega)⟩
  | succ N ih =>
    refine ⟨?_, ?_⟩
    · intro h1 x3 g1 k1 b0 b1 b2 b3 b4 b5 b6 H0 hm
      refine ev_iload_n rfl ?_
      refine ev_aload_n rfl ?_
      refine g_getv (r := 42) (v := w0) g1 ad42 (by decide) ft12_44 (((k1.v (by decide)).trans ew0)) ?_
      refine ev_icmpge f332_41 (fun c75504 => ?_) (fun c75504 => ?_)
      · refine ev_iconst ?_
        refine ev_istore_n (L' := [(2, 42), (0, a1), (0, a2), (0, 0)]) (Nat.le_of_ble_eq_true rfl) rfl ?_
        exact ih.2 _ _ g1 k1 (by omega) (by omega) (by omega) (by omega) (by omega) (by omega) (by omega) (fun o a b => H0 o a (by omega)) (Al.zero _) (by omega)
      · refine ev_aload_n rfl ?_
        refine g_getp (r := 42) (c := 67) g1 ad42 (by decide) (by decide) rf42_46 ft12_46 ?_
        refine ev_iconst ?_
        refine ev_iload_n rfl ?_
        refine ev_imul (r := (4 * x3)) (by unfold w32; omega) ?_
        refine ev_iload_n rfl ?_
        refine ev_iadd (r := (a2 + 4 * x3)) (by unfold w32; omega) ?_
        refine g_iald g1 ad67 rt67 (by omega) (by omega) (fun v75505 ev75505 lv75505 uv75505 => ?_)
        refine ev_aload_n rfl ?_
        refine g_getp (r := 42) (c := 67) g1 ad42 (by decide) (by decide) rf42_46 ft12_46 ?_
        refine ev_iconst ?_
        refine ev_iload_n rfl ?_
        refine ev_imul (r := (4 * a1)) (by unfold w32; omega) ?_
        refine ev_iload_n rfl ?_
        refine ev_iadd (r := (4 * a1 + a2)) (by unfold w32; omega) ?_
        refine g_iald g1 ad67 rt67 (by omega) (by omega) (fun v75506 ev75506 lv75506 uv75506 => ?_)
        refine ev_icmple f332_35 (fun c75507 => ?_) (fun c75507 => ?_)
        · refine ev_iinc (w := (x3 + 1)) (L' := [(2, 42), (0, a1), (0, a2), (0, (x3 + 1))]) rfl (by unfold w32; omega) rfl ?_
          refine ev_goto f332_2 ?_
          exact ih.1 _ _ g1 k1 (by omega) (by omega) (by omega) (by omega) (by omega) (by omega) (by omega) (H0.succ (by show fR h 0 x3 a2 ≤ fR h 0 a1 a2; rw [(fR_at (s := 0) (r := x3) (c := a2) k1 (fun _ => rfl) (i := (a2 + 4 * x3)) (ev75505) (by omega)), (fR_at (s := 0) (r := a1) (c := a2) k1 (fun _ => rfl) (i := (4 * a1 + a2)) (ev75506) (by omega))]; omega)) (by omega)
        · refine ev_iconst ?_
          exact ev_ret rfl (by decide) (by decide) ⟨_, rfl, g1, k1, ⟨by omega, by omega, ⟨fun z => absurd z (by decide), fun z => absurd (z.1 x3 (by omega) (by omega)) (by show ¬ fR h 0 x3 a2 ≤ fR h 0 a1 a2; rw [(fR_at (s := 0) (r := x3) (c := a2) k1 (fun _ => rfl) (i := (a2 + 4 * x3)) (ev75505) (by omega)), (fR_at (s := 0) (r := a1) (c := a2) k1 (fun _ => rfl) (i := (4 * a1 + a2)) (ev75506) (by omega))]; omega)⟩⟩⟩
    · intro h1 x3 g1 k1 b0 b1 b2 b3 b4 b5 b6 H0 H1 hm
      refine ev_iload_n rfl ?_
      refine ev_aload_n rfl ?_
      refine g_getv (r := 42) (v := w1) g1 ad42 (by decide) ft12_45 (((k1.v (by decide)).trans ew1)) ?_
      refine ev_icmpge f332_88 (fun c75508 => ?_) (fun c75508 => ?_)
      · refine ev_iconst ?_
        exact ev_ret rfl (by decide) (by decide) ⟨_, rfl, g1, k1, ⟨by omega, by omega, ⟨fun _ => ⟨H0, fun o a b => H1 o a (by omega)⟩, fun _ => rfl⟩⟩⟩
      · refine ev_aload_n rfl ?_
        refine g_getp (r := 42) (c := 67) g1 ad42 (by decide) (by decide) rf42_46 ft12_46 ?_
        refine ev_bipush ?_
        refine ev_iconst ?_
        refine ev_iload_n rfl ?_
        refine ev_imul (r := (4 * a1)) (by unfold w32; omega) ?_
        refine ev_iadd (r := (4 * a1 + 16)) (by unfold w32; omega) ?_
        refine ev_iload_n rfl ?_
        refine ev_iadd (r := (4 * a1 + x3 + 16)) (by unfold w32; omega) ?_
        refine g_iald g1 ad67 rt67 (by omega) (by omega) (fun v75509 ev75509 lv75509 uv75509 => ?_)
        refine ev_aload_n rfl ?_
        refine g_getp (r := 42) (c := 67) g1 ad42 (by decide) (by decide) rf42_46 ft12_46 ?_
        refine ev_bipush ?_
        refine ev_iconst ?_
        refine ev_iload_n rfl ?_
        refine ev_imul (r := (4 * a1)) (by unfold w32; omega) ?_
        refine ev_iadd (r := (4 * a1 + 16)) (by unfold w32; omega) ?_
        refine ev_iload_n rfl ?_
        refine ev_iadd (r := (4 * a1 + a2 + 16)) (by unfold w32; omega) ?_
        refine g_iald g1 ad67 rt67 (by omega) (by omega) (fun v75510 ev75510 lv75510 uv75510 => ?_)
        refine ev_icmple f332_82 (fun c75511 => ?_) (fun c75511 => ?_)
        · refine ev_iinc (w := (x3 + 1)) (L' := [(2, 42), (0, a1), (0, a2), (0, (x3 + 1))]) rfl (by unfold w32; omega) rfl ?_
          refine ev_goto f332_43 ?_
          exact ih.2 _ _ g1 k1 (by omega) (by omega) (by omega) (by omega) (by omega) (by omega) (by omega) H0 (H1.succ (by show fR h 1 a1 x3 ≤ fR h 1 a1 a2; rw [(fR_at (s := 1) (r := a1) (c := x3) k1 (fun _ => rfl) (i := (4 * a1 + x3 + 16)) (ev75509) (by omega)), (fR_at (s := 1) (r := a1) (c := a2) k1 (fun _ => rfl) (i := (4 * a1 + a2 + 16)) (ev75510) (by omega))]; omega)) (by omega)
        · refine ev_iconst ?_
          exact ev_ret rfl (by decide) (by decide) ⟨_, rfl, g1, k1, ⟨by omega, by omega, ⟨fun z => absurd z (by decide), fun z => absurd (z.2 x3 (by omega) (by omega)) (by show ¬ fR h 1 a1 x3 ≤ fR h 1 a1 a2; rw [(fR_at (s := 1) (r := a1) (c := x3) k1 (fun _ => rfl) (i := (4 * a1 + x3 + 16)) (ev75509) (by omega)), (fR_at (s := 1) (r := a1) (c := a2) k1 (fun _ => rfl) (i := (4 * a1 + a2 + 16)) (ev75510) (by omega))]; omega)⟩⟩⟩
set_option maxHeartbeats 4000000 in
theorem t332 {G : GH} {h : JH} (g : Gd G h) {a1 : Int} (la1 : 0 ≤ a1) (ua1 : a1 ≤ 3) {a2 : Int} (la2 : 0 ≤ a2) (ua2 : a2 ≤ 3) {w0 : Int} (ew0 : h.2.2 42 44 = w0) (lw0 : 0 ≤ w0) (uw0 : w0 ≤ 4) {w1 : Int} (ew1 : h.2.2 42 45 = w1) (lw1 : 0 ≤ w1) (uw1 : w1 ≤ 4) : jOk 1 0 0 332 [(2, 42), (0, a1), (0, a2)] h (fun v h' => ∃ r : Int, v = some (0, r) ∧ Gd G h' ∧ Kp [] h h' ∧ 0 ≤ r ∧ r ≤ 1 ∧ (r = 1 ↔ Su (fR h) w0 w1 a1 a2)) := by
  refine ⟨by decide, by rw [ml332]; exact Nat.le_of_ble_eq_true rfl, ?_⟩
  rw [ml332, pp332]
  show jEv _ none _ c332_0 0 0 _ (c332_0, [(2, 42), (0, a1), (0, a2), (9, 0)], [], h, 0, 0)
  have k0 := Kp.rf [] h
  refine ev_iconst ?_
  refine ev_istore_n (L' := [(2, 42), (0, a1), (0, a2), (0, 0)]) (Nat.le_of_ble_eq_true rfl) rfl ?_
  exact (t332_l la1 ua1 la2 ua2 ew0 lw0 uw0 ew1 lw1 uw1 15).1 _ _ g k0 (by omega) (by omega) (by omega) (by omega) (by omega) (by omega) (by omega) (Al.zero _) (by omega)
set_option maxHeartbeats 4000000 in
theorem t109_l {G : GH} {h : JH} {a1 : Int} (la1 : (-1) ≤ a1) (ua1 : a1 ≤ 2147483647) {w0 : Int} (ew0 : h.2.2 26 0 = w0) (lw0 : 0 ≤ w0) (uw0 : w0 ≤ 4) {w1 : Int} (ew1 : h.2.2 26 1 = w1) (lw1 : 0 ≤ w1) (uw1 : w1 ≤ 4) : ∀ N : Nat, (∀ (h1 : JH) (x2 x3 : Int) (j4 : AV), Gd G h1 → Kp [] h h1 → (-1) ≤ a1 → a1 ≤ 2147483647 → 0 ≤ x2 → x2 ≤ 16 → 0 ≤ x3 → x3 ≤ 4 → ((-w0) + x3) ≤ 0 → (x2 + (-4) * x3) ≤ 0 → Lp (Sq (fC h) w0 w1) a1 x3 0 x2 → ((-10) * x3 + 45) < N → jEv (jOk 2) none (fun _ => 0) c109_0 0 0 (fun v h' => ∃ r : Int, v = some (0, r) ∧ Gd G h' ∧ Kp [] h h' ∧ An (Sq (fC h) w0 w1) w0 a1 r) (c109_4, [(2, 26), (0, a1), (0, x2), (0, x3), j4], [], h1, 0, 0)) ∧ (∀ (h1 : JH) (x2 x3 x4 : Int), Gd G h1 → Kp [] h h1 → (-1) ≤ a1 → a1 ≤ 2147483647 → 0 ≤ x2 → x2 ≤ 16 → 0 ≤ x3 → x3 ≤ 3 → 0 ≤ x4 → x4 ≤ 4 → ((-w0) + x3) ≤ (-1) → ((-w1) + x4) ≤ 0 → (x2 + (-4) * x3 + (-x4)) ≤ 0 → Lp (Sq (fC h) w0 w1) a1 x3 x4 x2 → ((-10) * x3 + (-x4) + 44) < N → jEv (jOk 2) none (fun _ => 0) c109_0 0 0 (fun v h' => ∃ r : Int, v = some (0, r) ∧ Gd G h' ∧ Kp [] h h' ∧ An (Sq (fC h) w0 w1) w0 a1 r) (c109_15, [(2, 26), (0, a1), (0, x2), (0, x3), (0, x4)], [], h1, 0, 0)) := by
  intro N
  induction N with
  | zero => exact ⟨fun h1 x2 x3 j4 g1 k1 b0 b1 b2 b3 b4 b5 b6 b7 b8 hm => absurd hm (by omega), fun h1 x2 x3 x4 g1 k1 b0 b1 b2 b3 b4 b5 b6 b7 b8 b9 b10 b11 hm => absurd hm (by omega)⟩
  | succ N ih =>
    refine ⟨?_, ?_⟩
    · intro h1 x2 x3 j4 g1 k1 b0 b1 b2 b3 b4 b5 b6 b7 H0 hm
      refine ev_iload_n rfl ?_
      refine ev_aload_n rfl ?_
      refine g_getv (r := 26) (v := w0) g1 ad26 (by decide) ft9_0 (((k1.v (by decide)).trans ew0)) ?_
      refine ev_icmpge f109_62 (fun c75626 => ?_) (fun c75626 => ?_)
      · refine ev_iload_n rfl ?_
        refine ev_iconst ?_
        refine ev_icmpne f109_71 (fun c75627 => ?_) (fun c75627 => ?_)
        · refine ev_iconst ?_
          exact ev_ret rfl (by decide) (by decide) ⟨_, rfl, g1, k1, An.none H0 (by omega) (by omega) (by split <;> omega)⟩
        · refine ev_iload_n rfl ?_
          refine ev_goto f109_72 ?_
          exact ev_ret rfl (by decide) (by decide) ⟨_, rfl, g1, k1, An.none H0 (by omega) (by omega) (by split <;> omega)⟩
      · refine ev_iconst ?_
        refine ev_istore (L' := [(2, 26), (0, a1), (0, x2), (0, x3), (0, 0)]) (Nat.le_of_ble_eq_true rfl) rfl ?_
        exact ih.2 _ _ _ _ g1 k1 (by omega) (by omega) (by omega) (by omega) (by omega) (by omega) (by omega) (by omega) (by omega) (by omega) (by omega) H0 (by omega)
    · intro h1 x2 x3 x4 g1 k1 b0 b1 b2 b3 b4 b5 b6 b7 b8 b9 b10 H0 hm
      refine ev_iload rfl ?_
      refine ev_aload_n rfl ?_
      refine g_getv (r := 26) (v := w1) g1 ad26 (by decide) ft9_1 (((k1.v (by decide)).trans ew1)) ?_
      refine ev_icmpge f109_56 (fun c75628 => ?_) (fun c75628 => ?_)
      · refine ev_iinc (w := (x3 + 1)) (L' := [(2, 26), (0, a1), (0, x2), (0, (x3 + 1)), (0, x4)]) rfl (by unfold w32; omega) rfl ?_
        refine ev_goto f109_4 ?_
        exact ih.1 _ _ _ _ g1 k1 (by omega) (by omega) (by omega) (by omega) (by omega) (by omega) (by omega) (by omega) (Lp.row H0 (by omega) (by omega) (by omega) (by omega) (by omega)) (by omega)
      · refine ev_aload_n rfl ?_
        refine ev_iload_n rfl ?_
        refine ev_iload rfl ?_
        refine ev_call (jcall_v (A := [(0, x4), (0, x3)]) (S' := []) (r := 26) rfl (g1.lt ad26) (g1.tg ad26) (Nat.le_of_ble_eq_true rfl)) (jOk_le (by decide) (t108 g1 (by omega) (by omega) (by omega) (by omega) (((k1.v (by decide)).trans ew0)) (by omega) (by omega) (((k1.v (by decide)).trans ew1)) (by omega) (by omega))) (by decide) (by decide) (fun w75629 h75629 q75629 => ?_)
        obtain ⟨v75630, rfl, g75629, kk75629, lv75630, uv75630, X75629⟩ := q75629
        have k75629 := k1.tr kk75629 (by decide)
        show jEv _ _ _ _ _ _ _ (_, [(2, 26), (0, a1), (0, x2), (0, x3), (0, x4)], [(0, v75630)], _, _, _)
        refine ev_ifeq f109_50 (fun c75631 => ?_) (fun c75631 => ?_)
        · refine ev_iinc (w := (x4 + 1)) (L' := [(2, 26), (0, a1), (0, x2), (0, x3), (0, (x4 + 1))]) rfl (by unfold w32; omega) rfl ?_
          refine ev_goto f109_15 ?_
          exact ih.2 _ _ _ _ g75629 k75629 (by omega) (by omega) (by omega) (by omega) (by omega) (by omega) (by omega) (by omega) (by omega) (by omega) (by omega) (Lp.no H0 (by omega) (by omega) (fun z => (fun z => absurd (X75629.mpr ((su_kp_fC k1).mpr z)) (by omega)) ((Sq.iff (by omega) (by omega) (by omega)).mp z).2) (by omega)) (by omega)
        · refine ev_iload_n rfl ?_
          refine ev_iload_n rfl ?_
          refine ev_icmpne f109_47 (fun c75632 => ?_) (fun c75632 => ?_)
          · refine ev_iinc (w := (x2 + 1)) (L' := [(2, 26), (0, a1), (0, (x2 + 1)), (0, x3), (0, x4)]) rfl (by unfold w32; omega) rfl ?_
            refine ev_iinc (w := (x4 + 1)) (L' := [(2, 26), (0, a1), (0, (x2 + 1)), (0, x3), (0, (x4 + 1))]) rfl (by unfold w32; omega) rfl ?_
            refine ev_goto f109_15 ?_
            exact ih.2 _ _ _ _ g75629 k75629 (by omega) (by omega) (by omega) (by omega) (by omega) (by omega) (by omega) (by omega) (by omega) (by omega) (by omega) (Lp.yes H0 (by omega) (by omega) ((Sq.iff (by omega) (by omega) (by omega)).mpr ⟨by omega, ((su_kp_fC k1).mp (X75629.mp (by omega)))⟩) (by omega) (by omega) (by omega)) (by omega)
          · refine ev_bipush ?_
            refine ev_iload_n rfl ?_
            refine ev_imul (r := (10 * x3)) (by unfold w32; omega) ?_
            refine ev_iload rfl ?_
            refine ev_iadd (r := (10 * x3 + x4)) (by unfold w32; omega) ?_
            exact ev_ret rfl (by decide) (by decide) ⟨_, rfl, g75629, k75629, An.hit H0 (by omega) (by omega) (by omega) (by omega) (by omega) ((su_kp_fC k1).mp (X75629.mp (by omega))) (by omega) (by omega)⟩
set_option maxHeartbeats 4000000 in
theorem t109 {G : GH} {h : JH} (g : Gd G h) {a1 : Int} (la1 : (-1) ≤ a1) (ua1 : a1 ≤ 2147483647) {w0 : Int} (ew0 : h.2.2 26 0 = w0) (lw0 : 0 ≤ w0) (uw0 : w0 ≤ 4) {w1 : Int} (ew1 : h.2.2 26 1 = w1) (lw1 : 0 ≤ w1) (uw1 : w1 ≤ 4) : jOk 3 0 0 109 [(2, 26), (0, a1)] h (fun v h' => ∃ r : Int, v = some (0, r) ∧ Gd G h' ∧ Kp [] h h' ∧ An (Sq (fC h) w0 w1) w0 a1 r) := by
  refine ⟨by decide, by rw [ml109]; exact Nat.le_of_ble_eq_true rfl, ?_⟩
  rw [ml109, pp109]
  show jEv _ none _ c109_0 0 0 _ (c109_0, [(2, 26), (0, a1), (9, 0), (9, 0), (9, 0)], [], h, 0, 0)
  have k0 := Kp.rf [] h
  refine ev_iconst ?_
  refine ev_istore_n (L' := [(2, 26), (0, a1), (0, 0), (9, 0), (9, 0)]) (Nat.le_of_ble_eq_true rfl) rfl ?_
  refine ev_iconst ?_
  refine ev_istore_n (L' := [(2, 26), (0, a1), (0, 0), (0, 0), (9, 0)]) (Nat.le_of_ble_eq_true rfl) rfl ?_
  exact (t109_l la1 ua1 ew0 lw0 uw0 ew1 lw1 uw1 100).1 _ _ _ _ g k0 (by omega) (by omega) (by omega) (by omega) (by omega) (by omega) (by omega) (by omega) (Lp.start _ _) (by omega)
set_option maxHeartbeats 4000000 in
theorem t333_l {G : GH} {h : JH} {a1 : Int} (la1 : (-2147483648) ≤ a1) (ua1 : a1 ≤ 2147483647) {w0 : Int} (ew0 : h.2.2 42 44 = w0) (lw0 : 0 ≤ w0) (uw0 : w0 ≤ 4) {w1 : Int} (ew1 : h.2.2 42 45 = w1) (lw1 : 0 ≤ w1) (uw1 : w1 ≤ 4) : ∀ N : Nat, (∀ (h1 : JH) (x2 x3 : Int) (j4 : AV), Gd G h1 → Kp [] h h1 → (-1) ≤ a1 → a1 ≤ 2147483647 → 0 ≤ x2 → x2 ≤ 16 → 0 ≤ x3 → x3 ≤ 4 → ((-w0) + x3) ≤ 0 → (x2 + (-4) * x3) ≤ 0 → ((-w0)) ≤ (-1) → Lp (Sq (fR h) w0 w1) a1 x3 0 x2 → ((-10) * x3 + 45) < N → jEv (jOk 1) none (fun _ => 0) c333_0 0 0 (fun v h' => ∃ r : Int, v = some (0, r) ∧ Gd G h' ∧ Kp [] h h' ∧ SrR h w0 w1 a1 r) (c333_18, [(2, 42), (0, a1), (0, x2), (0, x3), j4], [], h1, 0, 0)) ∧ (∀ (h1 : JH) (x2 x3 x4 : Int), Gd G h1 → Kp [] h h1 → (-1) ≤ a1 → a1 ≤ 2147483647 → 0 ≤ x2 → x2 ≤ 16 → 0 ≤ x3 → x3 ≤ 3 → 0 ≤ x4 → x4 ≤ 4 → ((-w0) + x3) ≤ (-1) → ((-w1) + x4) ≤ 0 → (x2 + (-4) * x3 + (-x4)) ≤ 0 → ((-w0)) ≤ (-1) → Lp (Sq (fR h) w0 w1) a1 x3 x4 x2 → ((-10) * x3 + (-x4) + 44) < N → jEv (jOk 1) none (fun _ => 0) c333_0 0 0 (fun v h' => ∃ r : Int, v = some (0, r) ∧ Gd G h' ∧ Kp [] h h' ∧ SrR h w0 w1 a1 r) (c333_29, [(2, 42), (0, a1), (0, x2), (0, x3), (0, x4)], [], h1, 0, 0)) := by
  intro N
  induction N with
  | zero => exact ⟨fun h1 x2 x3 j4 g1 k1 b0 b1 b2 b3 b4 b5 b6 b7 b8 b9 hm => absurd hm (by omega), fun h1 x2 x3 x4 g1 k1 b0 b1 b2 b3 b4 b5 b6 b7 b8 b9 b10 b11 b12 hm => absurd hm (by omega)⟩
  | succ N ih =>
    refine ⟨?_, ?_⟩
    · intro h1 x2 x3 j4 g1 k1 b0 b1 b2 b3 b4 b5 b6 b7 b8 H0 hm
      refine ev_iload_n rfl ?_
      refine ev_aload_n rfl ?_
      refine g_getv (r := 42) (v := w0) g1 ad42 (by decide) ft12_44 (((k1.v (by decide)).trans ew0)) ?_
      refine ev_icmpge f333_79 (fun c75750 => ?_) (fun c75750 => ?_)
      · refine ev_iload_n rfl ?_
        refine ev_ifge f333_87 (fun c75751 => ?_) (fun c75751 => ?_)
        · refine ev_iconst ?_
          exact ev_ret rfl (by decide) (by decide) ⟨_, rfl, g1, k1, Or.inr ⟨by omega, An.none H0 (by omega) (by omega) (by split <;> omega)⟩⟩
        · refine ev_iload_n rfl ?_
          refine ev_goto f333_88 ?_
          exact ev_ret rfl (by decide) (by decide) ⟨_, rfl, g1, k1, Or.inr ⟨by omega, An.none H0 (by omega) (by omega) (by split <;> omega)⟩⟩
      · refine ev_iconst ?_
        refine ev_istore (L' := [(2, 42), (0, a1), (0, x2), (0, x3), (0, 0)]) (Nat.le_of_ble_eq_true rfl) rfl ?_
        exact ih.2 _ _ _ _ g1 k1 (by omega) (by omega) (by omega) (by omega) (by omega) (by omega) (by omega) (by omega) (by omega) (by omega) (by omega) (by omega) H0 (by omega)
    · intro h1 x2 x3 x4 g1 k1 b0 b1 b2 b3 b4 b5 b6 b7 b8 b9 b10 b11 H0 hm
      refine ev_iload rfl ?_
      refine ev_aload_n rfl ?_
      refine g_getv (r := 42) (v := w1) g1 ad42 (by decide) ft12_45 (((k1.v (by decide)).trans ew1)) ?_
      refine ev_icmpge f333_73 (fun c75752 => ?_) (fun c75752 => ?_)
      · refine ev_iinc (w := (x3 + 1)) (L' := [(2, 42), (0, a1), (0, x2), (0, (x3 + 1)), (0, x4)]) rfl (by unfold w32; omega) rfl ?_
        refine ev_goto f333_18 ?_
        exact ih.1 _ _ _ _ g1 k1 (by omega) (by omega) (by omega) (by omega) (by omega) (by omega) (by omega) (by omega) (by omega) (Lp.row H0 (by omega) (by omega) (by omega) (by omega) (by omega)) (by omega)
      · refine ev_aload_n rfl ?_
        refine ev_iload_n rfl ?_
        refine ev_iload rfl ?_
        refine ev_call (jcall_v (A := [(0, x4), (0, x3)]) (S' := []) (r := 42) rfl (g1.lt ad42) (g1.tg ad42) (Nat.le_of_ble_eq_true rfl)) (jOk_le (by decide) (t332 g1 (by omega) (by omega) (by omega) (by omega) (((k1.v (by decide)).trans ew0)) (by omega) (by omega) (((k1.v (by decide)).trans ew1)) (by omega) (by omega))) (by decide) (by decide) (fun w75753 h75753 q75753 => ?_)
        obtain ⟨v75754, rfl, g75753, kk75753, lv75754, uv75754, X75753⟩ := q75753
        have k75753 := k1.tr kk75753 (by decide)
        show jEv _ _ _ _ _ _ _ (_, [(2, 42), (0, a1), (0, x2), (0, x3), (0, x4)], [(0, v75754)], _, _, _)
        refine ev_ifne f333_51 (fun c75755 => ?_) (fun c75755 => ?_)
        · refine ev_iload_n rfl ?_
          refine ev_iload_n rfl ?_
          refine ev_icmpne f333_64 (fun c75756 => ?_) (fun c75756 => ?_)
          · refine ev_iinc (w := (x2 + 1)) (L' := [(2, 42), (0, a1), (0, (x2 + 1)), (0, x3), (0, x4)]) rfl (by unfold w32; omega) rfl ?_
            refine ev_iinc (w := (x4 + 1)) (L' := [(2, 42), (0, a1), (0, (x2 + 1)), (0, x3), (0, (x4 + 1))]) rfl (by unfold w32; omega) rfl ?_
            refine ev_goto f333_29 ?_
            exact ih.2 _ _ _ _ g75753 k75753 (by omega) (by omega) (by omega) (by omega) (by omega) (by omega) (by omega) (by omega) (by omega) (by omega) (by omega) (by omega) (Lp.yes H0 (by omega) (by omega) ((Sq.iff (by omega) (by omega) (by omega)).mpr ⟨by omega, ((su_kp_fR k1).mp (X75753.mp (by omega)))⟩) (by omega) (by omega) (by omega)) (by omega)
          · refine ev_bipush ?_
            refine ev_iload_n rfl ?_
            refine ev_imul (r := (10 * x3)) (by unfold w32; omega) ?_
            refine ev_iload rfl ?_
            refine ev_iadd (r := (10 * x3 + x4)) (by unfold w32; omega) ?_
            exact ev_ret rfl (by decide) (by decide) ⟨_, rfl, g75753, k75753, Or.inr ⟨by omega, An.hit H0 (by omega) (by omega) (by omega) (by omega) (by omega) ((su_kp_fR k1).mp (X75753.mp (by omega))) (by omega) (by omega)⟩⟩
        · refine ev_goto f333_67 ?_
          refine ev_iinc (w := (x4 + 1)) (L' := [(2, 42), (0, a1), (0, x2), (0, x3), (0, (x4 + 1))]) rfl (by unfold w32; omega) rfl ?_
          refine ev_goto f333_29 ?_
          exact ih.2 _ _ _ _ g75753 k75753 (by omega) (by omega) (by omega) (by omega) (by omega) (by omega) (by omega) (by omega) (by omega) (by omega) (by omega) (by omega) (Lp.no H0 (by omega) (by omega) (fun z => (fun z => absurd (X75753.mpr ((su_kp_fR k1).mpr z)) (by omega)) ((Sq.iff (by omega) (by omega) (by omega)).mp z).2) (by omega)) (by omega)
set_option maxHeartbeats 4000000 in
theorem t333 {G : GH} {h : JH} (g : Gd G h) {a1 : Int} (la1 : (-2147483648) ≤ a1) (ua1 : a1 ≤ 2147483647) {w0 : Int} (ew0 : h.2.2 42 44 = w0) (lw0 : 0 ≤ w0) (uw0 : w0 ≤ 4) {w1 : Int} (ew1 : h.2.2 42 45 = w1) (lw1 : 0 ≤ w1) (uw1 : w1 ≤ 4) : jOk 2 0 0 333 [(2, 42), (0, a1)] h (fun v h' => ∃ r : Int, v = some (0, r) ∧ Gd G h' ∧ Kp [] h h' ∧ SrR h w0 w1 a1 r) := by
  refine ⟨by decide, by rw [ml333]; exact Nat.le_of_ble_eq_true rfl, ?_⟩
  rw [ml333, pp333]
  show jEv _ none _ c333_0 0 0 _ (c333_0, [(2, 42), (0, a1), (9, 0), (9, 0), (9, 0)], [], h, 0, 0)
  have k0 := Kp.rf [] h
  refine ev_aload_n rfl ?_
  refine g_getv (r := 42) (v := w0) g ad42 (by decide) ft12_44 (ew0) ?_
  refine ev_ifeq f333_12 (fun c75757 => ?_) (fun c75757 => ?_)
  · refine ev_iconst ?_
    exact ev_ret rfl (by decide) (by decide) ⟨_, rfl, g, k0, Or.inl ⟨by omega, rfl⟩⟩
  · refine ev_iload_n rfl ?_
    refine ev_iconst ?_
    refine ev_icmpge f333_14 (fun c75758 => ?_) (fun c75758 => ?_)
    · refine ev_iconst ?_
      refine ev_istore_n (L' := [(2, 42), (0, a1), (0, 0), (9, 0), (9, 0)]) (Nat.le_of_ble_eq_true rfl) rfl ?_
      refine ev_iconst ?_
      refine ev_istore_n (L' := [(2, 42), (0, a1), (0, 0), (0, 0), (9, 0)]) (Nat.le_of_ble_eq_true rfl) rfl ?_
      exact (t333_l la1 ua1 ew0 lw0 uw0 ew1 lw1 uw1 100).1 _ _ _ _ g k0 (by omega) (by omega) (by omega) (by omega) (by omega) (by omega) (by omega) (by omega) (by omega) (Lp.start _ _) (by omega)
    · refine ev_iconst ?_
      exact ev_ret rfl (by decide) (by decide) ⟨_, rfl, g, k0, Or.inl ⟨by omega, rfl⟩⟩
set_option maxHeartbeats 4000000 in
theorem t197 {G : GH} {h : JH} (g : Gd G h) {a1 : Int} (la1 : (-2147483648) ≤ a1) (ua1 : a1 ≤ 2147483647) {w0 : Int} (ew0 : h.2.2 26 0 = w0) (lw0 : 0 ≤ w0) (uw0 : w0 ≤ 4) {w1 : Int} (ew1 : h.2.2 26 1 = w1) (lw1 : 0 ≤ w1) (uw1 : w1 ≤ 4) : jOk 4 0 0 197 [(2, 0), (0, a1)] h (fun v h' => ∃ r : Int, v = some (0, r) ∧ Gd G h' ∧ Kp [] h h' ∧ SrC h w0 w1 a1 r) := by
  refine ⟨by decide, by rw [ml197]; exact Nat.le_of_ble_eq_true rfl, ?_⟩
  rw [ml197, pp197]
  show jEv _ none _ c197_0 0 0 _ (c197_0, [(2, 0), (0, a1)], [], h, 0, 0)
  have k0 := Kp.rf [] h
  refine ev_iload_n rfl ?_
  refine ev_iconst ?_
  refine ev_icmplt f197_15 (fun c75771 => ?_) (fun c75771 => ?_)
  · refine ev_iconst ?_
    refine ev_goto f197_27 ?_
    exact ev_ret rfl (by decide) (by decide) ⟨_, rfl, g, k0, Or.inl ⟨by omega, rfl⟩⟩
  · refine ev_aload_n rfl ?_
    refine g_getp (r := 0) (c := 26) g ad0 (by decide) (by decide) rf0_11 ft11_11 ?_
    refine ev_in (d := 2) (a := 0) (b := 0) (cd' := c104_0) (m := 1) (L0 := [(2, 26)]) (jcall_v (A := []) (S' := []) (r := 26) rfl (g.lt ad26) (g.tg ad26) (Nat.le_of_ble_eq_true rfl)) (by decide) ml104 pp104 (Nat.le_of_ble_eq_true rfl) rfl (by decide) (by decide) ?_
    refine ev_aload_n rfl ?_
    refine g_getv (r := 26) (v := w0) g ad26 (by decide) ft9_0 (ew0) ?_
    refine ev_ifle f104_11 (fun c75772 => ?_) (fun c75772 => ?_)
    · refine ev_iconst ?_
      refine ev_ret rfl (by decide) (by decide) ?_
      show jEv _ _ _ _ _ _ _ (_, [(2, 0), (0, a1)], [(0, 0)], _, _, _)
      refine ev_ifne f197_19 (fun c75773 => absurd c75773 (by omega)) (fun c75773 => ?_)
      refine ev_iconst ?_
      refine ev_goto f197_27 ?_
      exact ev_ret rfl (by decide) (by decide) ⟨_, rfl, g, k0, Or.inl ⟨by omega, rfl⟩⟩
    · refine ev_iconst ?_
      refine ev_goto f104_12 ?_
      refine ev_ret rfl (by decide) (by decide) ?_
      show jEv _ _ _ _ _ _ _ (_, [(2, 0), (0, a1)], [(0, 1)], _, _, _)
      refine ev_ifne f197_19 (fun c75774 => ?_) (fun c75774 => absurd c75774 (by omega))
      refine ev_aload_n rfl ?_
      refine g_getp (r := 0) (c := 26) g ad0 (by decide) (by decide) rf0_11 ft11_11 ?_
      refine ev_iload_n rfl ?_
      refine ev_call (jcall_v (A := [(0, a1)]) (S' := []) (r := 26) rfl (g.lt ad26) (g.tg ad26) (Nat.le_of_ble_eq_true rfl)) (jOk_le (by decide) (t109 g (by omega) (by omega) (ew0) (by omega) (by omega) (ew1) (by omega) (by omega))) (by decide) (by decide) (fun w75775 h75775 q75775 => ?_)
      obtain ⟨v75776, rfl, g75775, kk75775, X75775⟩ := q75775
      have k75775 := k0.tr kk75775 (by decide)
      show jEv _ _ _ _ _ _ _ (_, [(2, 0), (0, a1)], [(0, v75776)], _, _, _)
      exact ev_ret rfl (by decide) (by decide) ⟨_, rfl, g75775, k75775, Or.inr ⟨by omega, X75775⟩⟩
theorem jn11 : jN 11 = 17 := by decide +kernel
theorem jn12 : jN 12 = 66 := by decide +kernel
theorem ml384 : jML jnM = 4 := by decide +kernel
theorem pp384 : jP jnM = c384_0 := rfl
set_option maxRecDepth 100000 in
theorem jlawN : jchkN jnM = true := jchkNF_ok (by decide +kernel)
set_option maxRecDepth 100000 in
theorem f384_18 : jfind c384_0 18 = some c384_18 := rfl
set_option maxRecDepth 100000 in
theorem f384_260 : jfind c384_0 260 = some c384_260 := rfl
set_option maxRecDepth 100000 in
theorem f384_283 : jfind c384_0 283 = some c384_283 := rfl
set_option maxRecDepth 100000 in
theorem f384_316 : jfind c384_0 316 = some c384_316 := rfl
set_option maxRecDepth 100000 in
theorem f384_369 : jfind c384_0 369 = some c384_369 := rfl
set_option maxRecDepth 100000 in
theorem f384_382 : jfind c384_0 382 = some c384_382 := rfl
set_option maxRecDepth 100000 in
theorem f384_405 : jfind c384_0 405 = some c384_405 := rfl
set_option maxRecDepth 100000 in
theorem f384_448 : jfind c384_0 448 = some c384_448 := rfl
set_option maxRecDepth 100000 in
theorem f384_481 : jfind c384_0 481 = some c384_481 := rfl
set_option maxRecDepth 100000 in
theorem f384_494 : jfind c384_0 494 = some c384_494 := rfl
set_option maxRecDepth 100000 in
theorem f384_537 : jfind c384_0 537 = some c384_537 := rfl
set_option maxRecDepth 100000 in
theorem f384_590 : jfind c384_0 590 = some c384_590 := rfl
set_option maxRecDepth 100000 in
theorem f384_603 : jfind c384_0 603 = some c384_603 := rfl
set_option maxRecDepth 100000 in
theorem f384_616 : jfind c384_0 616 = some c384_616 := rfl
set_option maxRecDepth 100000 in
theorem f384_649 : jfind c384_0 649 = some c384_649 := rfl
set_option maxRecDepth 100000 in
theorem f384_682 : jfind c384_0 682 = some c384_682 := rfl
set_option maxRecDepth 100000 in
theorem f384_715 : jfind c384_0 715 = some c384_715 := rfl
set_option maxRecDepth 100000 in
theorem f384_758 : jfind c384_0 758 = some c384_758 := rfl
set_option maxRecDepth 100000 in
theorem f384_801 : jfind c384_0 801 = some c384_801 := rfl
set_option maxRecDepth 100000 in
theorem f384_844 : jfind c384_0 844 = some c384_844 := rfl
set_option maxRecDepth 100000 in
theorem f384_877 : jfind c384_0 877 = some c384_877 := rfl
set_option maxRecDepth 100000 in
theorem f384_930 : jfind c384_0 930 = some c384_930 := rfl
set_option maxRecDepth 100000 in
theorem f384_963 : jfind c384_0 963 = some c384_963 := rfl
set_option maxRecDepth 100000 in
theorem f384_1006 : jfind c384_0 1006 = some c384_1006 := rfl
set_option maxRecDepth 100000 in
theorem f384_1059 : jfind c384_0 1059 = some c384_1059 := rfl
set_option maxRecDepth 100000 in
theorem f384_1082 : jfind c384_0 1082 = some c384_1082 := rfl
set_option maxRecDepth 100000 in
theorem f384_1125 : jfind c384_0 1125 = some c384_1125 := rfl
set_option maxRecDepth 100000 in
theorem f384_1178 : jfind c384_0 1178 = some c384_1178 := rfl
set_option maxRecDepth 100000 in
theorem f384_1201 : jfind c384_0 1201 = some c384_1201 := rfl
set_option maxRecDepth 100000 in
theorem f384_1254 : jfind c384_0 1254 = some c384_1254 := rfl
set_option maxRecDepth 100000 in
theorem f384_1307 : jfind c384_0 1307 = some c384_1307 := rfl
set_option maxRecDepth 100000 in
theorem f384_1340 : jfind c384_0 1340 = some c384_1340 := rfl
set_option maxRecDepth 100000 in
theorem f384_1383 : jfind c384_0 1383 = some c384_1383 := rfl
set_option maxRecDepth 100000 in
theorem f384_1406 : jfind c384_0 1406 = some c384_1406 := rfl
set_option maxRecDepth 100000 in
theorem f384_1429 : jfind c384_0 1429 = some c384_1429 := rfl
set_option maxRecDepth 100000 in
theorem f384_1452 : jfind c384_0 1452 = some c384_1452 := rfl
set_option maxRecDepth 100000 in
theorem f384_1495 : jfind c384_0 1495 = some c384_1495 := rfl
set_option maxRecDepth 100000 in
theorem f384_1518 : jfind c384_0 1518 = some c384_1518 := rfl
set_option maxRecDepth 100000 in
theorem f384_1551 : jfind c384_0 1551 = some c384_1551 := rfl
set_option maxRecDepth 100000 in
theorem f384_1564 : jfind c384_0 1564 = some c384_1564 := rfl
set_option maxRecDepth 100000 in
theorem f384_1597 : jfind c384_0 1597 = some c384_1597 := rfl
set_option maxRecDepth 100000 in
theorem f384_1630 : jfind c384_0 1630 = some c384_1630 := rfl
set_option maxRecDepth 100000 in
theorem f384_1683 : jfind c384_0 1683 = some c384_1683 := rfl
set_option maxRecDepth 100000 in
theorem f384_1726 : jfind c384_0 1726 = some c384_1726 := rfl
set_option maxRecDepth 100000 in
theorem f384_1769 : jfind c384_0 1769 = some c384_1769 := rfl
set_option maxRecDepth 100000 in
theorem f384_1812 : jfind c384_0 1812 = some c384_1812 := rfl
set_option maxRecDepth 100000 in
theorem f384_1855 : jfind c384_0 1855 = some c384_1855 := rfl
set_option maxRecDepth 100000 in
theorem f384_1878 : jfind c384_0 1878 = some c384_1878 := rfl
set_option maxRecDepth 100000 in
theorem f384_1911 : jfind c384_0 1911 = some c384_1911 := rfl
set_option maxRecDepth 100000 in
theorem f384_1954 : jfind c384_0 1954 = some c384_1954 := rfl
set_option maxRecDepth 100000 in
theorem f384_2027 : jfind c384_0 2027 = some c384_2027 := rfl
set_option maxRecDepth 100000 in
theorem f384_2060 : jfind c384_0 2060 = some c384_2060 := rfl
set_option maxRecDepth 100000 in
theorem f384_2123 : jfind c384_0 2123 = some c384_2123 := rfl
set_option maxRecDepth 100000 in
theorem f384_2156 : jfind c384_0 2156 = some c384_2156 := rfl
set_option maxRecDepth 100000 in
theorem f384_2179 : jfind c384_0 2179 = some c384_2179 := rfl
set_option maxRecDepth 100000 in
theorem f384_2185 : jfind c384_0 2185 = some c384_2185 := rfl

